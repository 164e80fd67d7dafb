section
-- ===== PART A: goes FIRST, ahead of the names: the tables' words, and 'selects' of the private methods out of them =====
/-- a private method of a class that the tables say can be made, by its rows of tables_1 -/
def lw_okq (q : MethodName × Nat) : Prop := (q.1.cls ≠ "java/lang/invoke/MethodHandle" ∧ q.1.cls ≠ "java/lang/invoke/VarHandle") ∧ Cond.instantiable q.1.cls q.2 ∈ tables_1 ∧ Cond.privateMethod q.1 ∈ tables_1 ∧ Cond.instanceMethod q.1 ∈ tables_1
theorem lw_p0 : lw_okq (⟨"MaskEdges$Outline", "maySideGoTo", "(II)Z"⟩, 4) := ⟨⟨by decide +kernel, by decide +kernel⟩, List.mem_of_getElem? (i := 82) (by decide +kernel), List.mem_of_getElem? (i := 214) (by decide +kernel), List.mem_of_getElem? (i := 215) (by decide +kernel)⟩
theorem lw_p1 : lw_okq (⟨"MaskEdges", "addToTarget", "(LMaskEdges$Outline;)V"⟩, 14) := ⟨⟨by decide +kernel, by decide +kernel⟩, List.mem_of_getElem? (i := 11) (by decide +kernel), List.mem_of_getElem? (i := 226) (by decide +kernel), List.mem_of_getElem? (i := 227) (by decide +kernel)⟩
theorem lw_p2 : lw_okq (⟨"MaskEdges", "renewMask", "()V"⟩, 14) := ⟨⟨by decide +kernel, by decide +kernel⟩, List.mem_of_getElem? (i := 11) (by decide +kernel), List.mem_of_getElem? (i := 247) (by decide +kernel), List.mem_of_getElem? (i := 248) (by decide +kernel)⟩
theorem lw_p3 : lw_okq (⟨"MaskEdges", "applyMove", "(LMaskEdges$Piece;)V"⟩, 14) := ⟨⟨by decide +kernel, by decide +kernel⟩, List.mem_of_getElem? (i := 11) (by decide +kernel), List.mem_of_getElem? (i := 255) (by decide +kernel), List.mem_of_getElem? (i := 256) (by decide +kernel)⟩
theorem lw_p4 : lw_okq (⟨"MaskEdges", "piecesFor", "(I)I"⟩, 14) := ⟨⟨by decide +kernel, by decide +kernel⟩, List.mem_of_getElem? (i := 11) (by decide +kernel), List.mem_of_getElem? (i := 298) (by decide +kernel), List.mem_of_getElem? (i := 299) (by decide +kernel)⟩
theorem lw_p5 : lw_okq (⟨"MaskEdges", "cutOutline", "(LMaskEdges$Outline;I)V"⟩, 14) := ⟨⟨by decide +kernel, by decide +kernel⟩, List.mem_of_getElem? (i := 11) (by decide +kernel), List.mem_of_getElem? (i := 317) (by decide +kernel), List.mem_of_getElem? (i := 318) (by decide +kernel)⟩
theorem lw_p6 : lw_okq (⟨"MaskEdges$Piece", "faceOutward", "(LMaskEdges$Outline;)V"⟩, 12) := ⟨⟨by decide +kernel, by decide +kernel⟩, List.mem_of_getElem? (i := 104) (by decide +kernel), List.mem_of_getElem? (i := 334) (by decide +kernel), List.mem_of_getElem? (i := 335) (by decide +kernel)⟩
theorem lw_p7 : lw_okq (⟨"MaskEdges", "isPiece", "(I)Z"⟩, 14) := ⟨⟨by decide +kernel, by decide +kernel⟩, List.mem_of_getElem? (i := 11) (by decide +kernel), List.mem_of_getElem? (i := 362) (by decide +kernel), List.mem_of_getElem? (i := 363) (by decide +kernel)⟩
theorem lw_p8 : lw_okq (⟨"MaskEdges", "errorOf", "(LMaskEdges$Piece;I)I"⟩, 14) := ⟨⟨by decide +kernel, by decide +kernel⟩, List.mem_of_getElem? (i := 11) (by decide +kernel), List.mem_of_getElem? (i := 366) (by decide +kernel), List.mem_of_getElem? (i := 367) (by decide +kernel)⟩
theorem lw_p9 : lw_okq (⟨"MaskEdges", "worstError", "()I"⟩, 14) := ⟨⟨by decide +kernel, by decide +kernel⟩, List.mem_of_getElem? (i := 11) (by decide +kernel), List.mem_of_getElem? (i := 385) (by decide +kernel), List.mem_of_getElem? (i := 386) (by decide +kernel)⟩
theorem lw_p10 : lw_okq (⟨"MaskEdges", "moveAgainstErrors", "(II)Z"⟩, 14) := ⟨⟨by decide +kernel, by decide +kernel⟩, List.mem_of_getElem? (i := 11) (by decide +kernel), List.mem_of_getElem? (i := 391) (by decide +kernel), List.mem_of_getElem? (i := 392) (by decide +kernel)⟩
theorem lw_p11 : lw_okq (⟨"MaskEdges", "takeMovesBack", "()V"⟩, 14) := ⟨⟨by decide +kernel, by decide +kernel⟩, List.mem_of_getElem? (i := 11) (by decide +kernel), List.mem_of_getElem? (i := 405) (by decide +kernel), List.mem_of_getElem? (i := 406) (by decide +kernel)⟩
theorem lw_p12 : lw_okq (⟨"MaskEdges", "placeBar", "(LMaskEdges$Piece;II)V"⟩, 14) := ⟨⟨by decide +kernel, by decide +kernel⟩, List.mem_of_getElem? (i := 11) (by decide +kernel), List.mem_of_getElem? (i := 425) (by decide +kernel), List.mem_of_getElem? (i := 426) (by decide +kernel)⟩
theorem lw_p13 : lw_okq (⟨"MaskEdges", "sameTargetAround", "(LMaskEdges$Piece;LMaskEdges$Piece;)Z"⟩, 14) := ⟨⟨by decide +kernel, by decide +kernel⟩, List.mem_of_getElem? (i := 11) (by decide +kernel), List.mem_of_getElem? (i := 457) (by decide +kernel), List.mem_of_getElem? (i := 458) (by decide +kernel)⟩
theorem lw_p14 : lw_okq (⟨"MaskEdgesModel", "goesAlongX", "(II)Z"⟩, 28) := ⟨⟨by decide +kernel, by decide +kernel⟩, List.mem_of_getElem? (i := 477) (by decide +kernel), List.mem_of_getElem? (i := 581) (by decide +kernel), List.mem_of_getElem? (i := 582) (by decide +kernel)⟩
theorem lw_p15 : lw_okq (⟨"MaskEdgesModel", "hasClosed", "()Z"⟩, 28) := ⟨⟨by decide +kernel, by decide +kernel⟩, List.mem_of_getElem? (i := 477) (by decide +kernel), List.mem_of_getElem? (i := 596) (by decide +kernel), List.mem_of_getElem? (i := 597) (by decide +kernel)⟩
def lw_privs_1 : List (MethodName × Nat) := [(⟨"MaskEdges$Outline", "maySideGoTo", "(II)Z"⟩, 4), (⟨"MaskEdges", "addToTarget", "(LMaskEdges$Outline;)V"⟩, 14), (⟨"MaskEdges", "renewMask", "()V"⟩, 14), (⟨"MaskEdges", "applyMove", "(LMaskEdges$Piece;)V"⟩, 14), (⟨"MaskEdges", "piecesFor", "(I)I"⟩, 14), (⟨"MaskEdges", "cutOutline", "(LMaskEdges$Outline;I)V"⟩, 14), (⟨"MaskEdges$Piece", "faceOutward", "(LMaskEdges$Outline;)V"⟩, 12), (⟨"MaskEdges", "isPiece", "(I)Z"⟩, 14), (⟨"MaskEdges", "errorOf", "(LMaskEdges$Piece;I)I"⟩, 14), (⟨"MaskEdges", "worstError", "()I"⟩, 14), (⟨"MaskEdges", "moveAgainstErrors", "(II)Z"⟩, 14), (⟨"MaskEdges", "takeMovesBack", "()V"⟩, 14), (⟨"MaskEdges", "placeBar", "(LMaskEdges$Piece;II)V"⟩, 14), (⟨"MaskEdges", "sameTargetAround", "(LMaskEdges$Piece;LMaskEdges$Piece;)Z"⟩, 14), (⟨"MaskEdgesModel", "goesAlongX", "(II)Z"⟩, 28), (⟨"MaskEdgesModel", "hasClosed", "()Z"⟩, 28)]
theorem lw_r1 : ∀ q ∈ lw_privs_1, lw_okq q := List.forall_mem_cons.mpr ⟨lw_p0, List.forall_mem_cons.mpr ⟨lw_p1, List.forall_mem_cons.mpr ⟨lw_p2, List.forall_mem_cons.mpr ⟨lw_p3, List.forall_mem_cons.mpr ⟨lw_p4, List.forall_mem_cons.mpr ⟨lw_p5, List.forall_mem_cons.mpr ⟨lw_p6, List.forall_mem_cons.mpr ⟨lw_p7, List.forall_mem_cons.mpr ⟨lw_p8, List.forall_mem_cons.mpr ⟨lw_p9, List.forall_mem_cons.mpr ⟨lw_p10, List.forall_mem_cons.mpr ⟨lw_p11, List.forall_mem_cons.mpr ⟨lw_p12, List.forall_mem_cons.mpr ⟨lw_p13, List.forall_mem_cons.mpr ⟨lw_p14, List.forall_mem_cons.mpr ⟨lw_p15, fun _ h => absurd h List.not_mem_nil⟩⟩⟩⟩⟩⟩⟩⟩⟩⟩⟩⟩⟩⟩⟩⟩
theorem lw_p16 : lw_okq (⟨"MaskEdgesModel", "lengthOf", "(II)I"⟩, 28) := ⟨⟨by decide +kernel, by decide +kernel⟩, List.mem_of_getElem? (i := 477) (by decide +kernel), List.mem_of_getElem? (i := 600) (by decide +kernel), List.mem_of_getElem? (i := 601) (by decide +kernel)⟩
theorem lw_p17 : lw_okq (⟨"MaskEdgesModel", "addPieces", "(III)V"⟩, 28) := ⟨⟨by decide +kernel, by decide +kernel⟩, List.mem_of_getElem? (i := 477) (by decide +kernel), List.mem_of_getElem? (i := 604) (by decide +kernel), List.mem_of_getElem? (i := 605) (by decide +kernel)⟩
theorem lw_p18 : lw_okq (⟨"MaskEdgesModel", "besideX", "(II)I"⟩, 28) := ⟨⟨by decide +kernel, by decide +kernel⟩, List.mem_of_getElem? (i := 477) (by decide +kernel), List.mem_of_getElem? (i := 608) (by decide +kernel), List.mem_of_getElem? (i := 609) (by decide +kernel)⟩
theorem lw_p19 : lw_okq (⟨"MaskEdgesModel", "middle", "(I)I"⟩, 28) := ⟨⟨by decide +kernel, by decide +kernel⟩, List.mem_of_getElem? (i := 477) (by decide +kernel), List.mem_of_getElem? (i := 612) (by decide +kernel), List.mem_of_getElem? (i := 613) (by decide +kernel)⟩
theorem lw_p20 : lw_okq (⟨"MaskEdgesModel", "besideY", "(II)I"⟩, 28) := ⟨⟨by decide +kernel, by decide +kernel⟩, List.mem_of_getElem? (i := 477) (by decide +kernel), List.mem_of_getElem? (i := 616) (by decide +kernel), List.mem_of_getElem? (i := 617) (by decide +kernel)⟩
theorem lw_p21 : lw_okq (⟨"MaskEdgesModel", "isIn", "(III)Z"⟩, 28) := ⟨⟨by decide +kernel, by decide +kernel⟩, List.mem_of_getElem? (i := 477) (by decide +kernel), List.mem_of_getElem? (i := 620) (by decide +kernel), List.mem_of_getElem? (i := 621) (by decide +kernel)⟩
theorem lw_p22 : lw_okq (⟨"MaskEdgesModel", "make", "()V"⟩, 28) := ⟨⟨by decide +kernel, by decide +kernel⟩, List.mem_of_getElem? (i := 477) (by decide +kernel), List.mem_of_getElem? (i := 632) (by decide +kernel), List.mem_of_getElem? (i := 633) (by decide +kernel)⟩
theorem lw_p23 : lw_okq (⟨"MaskEdgesModel", "isTarget", "(II)Z"⟩, 28) := ⟨⟨by decide +kernel, by decide +kernel⟩, List.mem_of_getElem? (i := 477) (by decide +kernel), List.mem_of_getElem? (i := 636) (by decide +kernel), List.mem_of_getElem? (i := 637) (by decide +kernel)⟩
theorem lw_p24 : lw_okq (⟨"MaskEdgesModel", "putPiece", "(I)V"⟩, 28) := ⟨⟨by decide +kernel, by decide +kernel⟩, List.mem_of_getElem? (i := 477) (by decide +kernel), List.mem_of_getElem? (i := 640) (by decide +kernel), List.mem_of_getElem? (i := 641) (by decide +kernel)⟩
theorem lw_p25 : lw_okq (⟨"MaskEdgesModel", "put", "(IIZ)V"⟩, 28) := ⟨⟨by decide +kernel, by decide +kernel⟩, List.mem_of_getElem? (i := 477) (by decide +kernel), List.mem_of_getElem? (i := 644) (by decide +kernel), List.mem_of_getElem? (i := 645) (by decide +kernel)⟩
theorem lw_p26 : lw_okq (⟨"MaskEdgesModel", "imageAt", "(II)I"⟩, 28) := ⟨⟨by decide +kernel, by decide +kernel⟩, List.mem_of_getElem? (i := 477) (by decide +kernel), List.mem_of_getElem? (i := 648) (by decide +kernel), List.mem_of_getElem? (i := 649) (by decide +kernel)⟩
theorem lw_p27 : lw_okq (⟨"MaskEdgesModel", "countAt", "(III)I"⟩, 28) := ⟨⟨by decide +kernel, by decide +kernel⟩, List.mem_of_getElem? (i := 477) (by decide +kernel), List.mem_of_getElem? (i := 652) (by decide +kernel), List.mem_of_getElem? (i := 653) (by decide +kernel)⟩
theorem lw_p28 : lw_okq (⟨"MaskEdgesModel", "isPiece", "(I)Z"⟩, 28) := ⟨⟨by decide +kernel, by decide +kernel⟩, List.mem_of_getElem? (i := 477) (by decide +kernel), List.mem_of_getElem? (i := 667) (by decide +kernel), List.mem_of_getElem? (i := 668) (by decide +kernel)⟩
theorem lw_p29 : lw_okq (⟨"MaskEdgesModel", "errorAt", "(II)I"⟩, 28) := ⟨⟨by decide +kernel, by decide +kernel⟩, List.mem_of_getElem? (i := 477) (by decide +kernel), List.mem_of_getElem? (i := 672) (by decide +kernel), List.mem_of_getElem? (i := 673) (by decide +kernel)⟩
theorem lw_p30 : lw_okq (⟨"MaskEdgesModel", "doesPrint", "(III)Z"⟩, 28) := ⟨⟨by decide +kernel, by decide +kernel⟩, List.mem_of_getElem? (i := 477) (by decide +kernel), List.mem_of_getElem? (i := 676) (by decide +kernel), List.mem_of_getElem? (i := 677) (by decide +kernel)⟩
theorem lw_p31 : lw_okq (⟨"MaskEdgesModel", "worstNow", "()I"⟩, 28) := ⟨⟨by decide +kernel, by decide +kernel⟩, List.mem_of_getElem? (i := 477) (by decide +kernel), List.mem_of_getElem? (i := 688) (by decide +kernel), List.mem_of_getElem? (i := 689) (by decide +kernel)⟩
def lw_privs_2 : List (MethodName × Nat) := [(⟨"MaskEdgesModel", "lengthOf", "(II)I"⟩, 28), (⟨"MaskEdgesModel", "addPieces", "(III)V"⟩, 28), (⟨"MaskEdgesModel", "besideX", "(II)I"⟩, 28), (⟨"MaskEdgesModel", "middle", "(I)I"⟩, 28), (⟨"MaskEdgesModel", "besideY", "(II)I"⟩, 28), (⟨"MaskEdgesModel", "isIn", "(III)Z"⟩, 28), (⟨"MaskEdgesModel", "make", "()V"⟩, 28), (⟨"MaskEdgesModel", "isTarget", "(II)Z"⟩, 28), (⟨"MaskEdgesModel", "putPiece", "(I)V"⟩, 28), (⟨"MaskEdgesModel", "put", "(IIZ)V"⟩, 28), (⟨"MaskEdgesModel", "imageAt", "(II)I"⟩, 28), (⟨"MaskEdgesModel", "countAt", "(III)I"⟩, 28), (⟨"MaskEdgesModel", "isPiece", "(I)Z"⟩, 28), (⟨"MaskEdgesModel", "errorAt", "(II)I"⟩, 28), (⟨"MaskEdgesModel", "doesPrint", "(III)Z"⟩, 28), (⟨"MaskEdgesModel", "worstNow", "()I"⟩, 28)]
theorem lw_r2 : ∀ q ∈ lw_privs_2, lw_okq q := List.forall_mem_cons.mpr ⟨lw_p16, List.forall_mem_cons.mpr ⟨lw_p17, List.forall_mem_cons.mpr ⟨lw_p18, List.forall_mem_cons.mpr ⟨lw_p19, List.forall_mem_cons.mpr ⟨lw_p20, List.forall_mem_cons.mpr ⟨lw_p21, List.forall_mem_cons.mpr ⟨lw_p22, List.forall_mem_cons.mpr ⟨lw_p23, List.forall_mem_cons.mpr ⟨lw_p24, List.forall_mem_cons.mpr ⟨lw_p25, List.forall_mem_cons.mpr ⟨lw_p26, List.forall_mem_cons.mpr ⟨lw_p27, List.forall_mem_cons.mpr ⟨lw_p28, List.forall_mem_cons.mpr ⟨lw_p29, List.forall_mem_cons.mpr ⟨lw_p30, List.forall_mem_cons.mpr ⟨lw_p31, fun _ h => absurd h List.not_mem_nil⟩⟩⟩⟩⟩⟩⟩⟩⟩⟩⟩⟩⟩⟩⟩⟩
theorem lw_p32 : lw_okq (⟨"MaskEdgesModel", "moveAll", "(II)Z"⟩, 28) := ⟨⟨by decide +kernel, by decide +kernel⟩, List.mem_of_getElem? (i := 477) (by decide +kernel), List.mem_of_getElem? (i := 692) (by decide +kernel), List.mem_of_getElem? (i := 693) (by decide +kernel)⟩
theorem lw_p33 : lw_okq (⟨"MaskEdgesModel", "moveBack", "()V"⟩, 28) := ⟨⟨by decide +kernel, by decide +kernel⟩, List.mem_of_getElem? (i := 477) (by decide +kernel), List.mem_of_getElem? (i := 699) (by decide +kernel), List.mem_of_getElem? (i := 700) (by decide +kernel)⟩
theorem lw_p34 : lw_okq (⟨"MaskEdgesModel", "hasCome", "(III)Z"⟩, 28) := ⟨⟨by decide +kernel, by decide +kernel⟩, List.mem_of_getElem? (i := 477) (by decide +kernel), List.mem_of_getElem? (i := 716) (by decide +kernel), List.mem_of_getElem? (i := 717) (by decide +kernel)⟩
theorem lw_p35 : lw_okq (⟨"MaskEdgesModel", "isFree", "(IIII)Z"⟩, 28) := ⟨⟨by decide +kernel, by decide +kernel⟩, List.mem_of_getElem? (i := 477) (by decide +kernel), List.mem_of_getElem? (i := 720) (by decide +kernel), List.mem_of_getElem? (i := 721) (by decide +kernel)⟩
def lw_privs_3 : List (MethodName × Nat) := [(⟨"MaskEdgesModel", "moveAll", "(II)Z"⟩, 28), (⟨"MaskEdgesModel", "moveBack", "()V"⟩, 28), (⟨"MaskEdgesModel", "hasCome", "(III)Z"⟩, 28), (⟨"MaskEdgesModel", "isFree", "(IIII)Z"⟩, 28)]
theorem lw_r3 : ∀ q ∈ lw_privs_3, lw_okq q := List.forall_mem_cons.mpr ⟨lw_p32, List.forall_mem_cons.mpr ⟨lw_p33, List.forall_mem_cons.mpr ⟨lw_p34, List.forall_mem_cons.mpr ⟨lw_p35, fun _ h => absurd h List.not_mem_nil⟩⟩⟩⟩
def lw_privs : List (MethodName × Nat) := lw_privs_1 ++ (lw_privs_2 ++ (lw_privs_3))
def lw_tbl : List Cond := k2_sels lw_privs ++ tables_1
theorem lw_privs_ok : ∀ q ∈ lw_privs, lw_okq q := by
  show ∀ q ∈ lw_privs_1 ++ (lw_privs_2 ++ (lw_privs_3)), lw_okq q
  exact List.forall_mem_append.mpr ⟨lw_r1, List.forall_mem_append.mpr ⟨lw_r2, lw_r3⟩⟩
theorem xgoodIn {big : List Cond} (ws : List Cond) (ps : List Nat) (hp : ws = ps.filterMap (fun i => big[i]?)) (h : ws.all goodWord = true) : GoodIn big ws := by
  intro w hw
  have h1 := List.all_eq_true.mp h w hw
  rw [hp] at hw
  obtain ⟨i, -, hi⟩ := List.mem_filterMap.mp hw
  exact ⟨List.mem_of_getElem? hi, good_of_word h1⟩
theorem xgood_app {big a b : List Cond} (ha : GoodIn big a) (hb : GoodIn big b) : GoodIn big (a ++ b) := fun w h => (List.mem_append.mp h).elim (ha w) (hb w)
abbrev y_Outline_maySideGoTo : MethodName := { cls := "MaskEdges$Outline", name := "maySideGoTo", desc := "(II)Z" }
abbrev y_MaskEdges_addToTarget : MethodName := { cls := "MaskEdges", name := "addToTarget", desc := "(LMaskEdges$Outline;)V" }
abbrev y_MaskEdges_renewMask : MethodName := { cls := "MaskEdges", name := "renewMask", desc := "()V" }
abbrev y_MaskEdges_applyMove : MethodName := { cls := "MaskEdges", name := "applyMove", desc := "(LMaskEdges$Piece;)V" }
abbrev y_MaskEdges_piecesFor : MethodName := { cls := "MaskEdges", name := "piecesFor", desc := "(I)I" }
abbrev y_MaskEdges_cutOutline : MethodName := { cls := "MaskEdges", name := "cutOutline", desc := "(LMaskEdges$Outline;I)V" }
abbrev y_Piece_faceOutward : MethodName := { cls := "MaskEdges$Piece", name := "faceOutward", desc := "(LMaskEdges$Outline;)V" }
abbrev y_MaskEdges_isPiece : MethodName := { cls := "MaskEdges", name := "isPiece", desc := "(I)Z" }
abbrev y_MaskEdges_errorOf : MethodName := { cls := "MaskEdges", name := "errorOf", desc := "(LMaskEdges$Piece;I)I" }
abbrev y_MaskEdges_worstError : MethodName := { cls := "MaskEdges", name := "worstError", desc := "()I" }
abbrev y_MaskEdges_moveAgainstErrors : MethodName := { cls := "MaskEdges", name := "moveAgainstErrors", desc := "(II)Z" }
abbrev y_MaskEdges_takeMovesBack : MethodName := { cls := "MaskEdges", name := "takeMovesBack", desc := "()V" }
abbrev y_MaskEdges_placeBar : MethodName := { cls := "MaskEdges", name := "placeBar", desc := "(LMaskEdges$Piece;II)V" }
abbrev y_MaskEdges_sameTargetAround : MethodName := { cls := "MaskEdges", name := "sameTargetAround", desc := "(LMaskEdges$Piece;LMaskEdges$Piece;)Z" }
abbrev y_MaskEdgesModel_goesAlongX : MethodName := { cls := "MaskEdgesModel", name := "goesAlongX", desc := "(II)Z" }
abbrev y_MaskEdgesModel_hasClosed : MethodName := { cls := "MaskEdgesModel", name := "hasClosed", desc := "()Z" }
abbrev y_MaskEdgesModel_lengthOf : MethodName := { cls := "MaskEdgesModel", name := "lengthOf", desc := "(II)I" }
abbrev y_MaskEdgesModel_addPieces : MethodName := { cls := "MaskEdgesModel", name := "addPieces", desc := "(III)V" }
abbrev y_MaskEdgesModel_besideX : MethodName := { cls := "MaskEdgesModel", name := "besideX", desc := "(II)I" }
abbrev y_MaskEdgesModel_middle : MethodName := { cls := "MaskEdgesModel", name := "middle", desc := "(I)I" }
abbrev y_MaskEdgesModel_besideY : MethodName := { cls := "MaskEdgesModel", name := "besideY", desc := "(II)I" }
abbrev y_MaskEdgesModel_isIn : MethodName := { cls := "MaskEdgesModel", name := "isIn", desc := "(III)Z" }
abbrev y_MaskEdgesModel_make : MethodName := { cls := "MaskEdgesModel", name := "make", desc := "()V" }
abbrev y_MaskEdgesModel_isTarget : MethodName := { cls := "MaskEdgesModel", name := "isTarget", desc := "(II)Z" }
abbrev y_MaskEdgesModel_putPiece : MethodName := { cls := "MaskEdgesModel", name := "putPiece", desc := "(I)V" }
abbrev y_MaskEdgesModel_put : MethodName := { cls := "MaskEdgesModel", name := "put", desc := "(IIZ)V" }
abbrev y_MaskEdgesModel_imageAt : MethodName := { cls := "MaskEdgesModel", name := "imageAt", desc := "(II)I" }
abbrev y_MaskEdgesModel_countAt : MethodName := { cls := "MaskEdgesModel", name := "countAt", desc := "(III)I" }
abbrev y_MaskEdgesModel_isPiece : MethodName := { cls := "MaskEdgesModel", name := "isPiece", desc := "(I)Z" }
abbrev y_MaskEdgesModel_errorAt : MethodName := { cls := "MaskEdgesModel", name := "errorAt", desc := "(II)I" }
abbrev y_MaskEdgesModel_doesPrint : MethodName := { cls := "MaskEdgesModel", name := "doesPrint", desc := "(III)Z" }
abbrev y_MaskEdgesModel_worstNow : MethodName := { cls := "MaskEdgesModel", name := "worstNow", desc := "()I" }
abbrev y_MaskEdgesModel_moveAll : MethodName := { cls := "MaskEdgesModel", name := "moveAll", desc := "(II)Z" }
abbrev y_MaskEdgesModel_moveBack : MethodName := { cls := "MaskEdgesModel", name := "moveBack", desc := "()V" }
abbrev y_MaskEdgesModel_hasCome : MethodName := { cls := "MaskEdgesModel", name := "hasCome", desc := "(III)Z" }
abbrev y_MaskEdgesModel_isFree : MethodName := { cls := "MaskEdgesModel", name := "isFree", desc := "(IIII)Z" }
abbrev y_MaskEdges_init : MethodName := { cls := "MaskEdges", name := "<init>", desc := "()V" }
abbrev y_Object_init : MethodName := { cls := "java/lang/Object", name := "<init>", desc := "()V" }
abbrev y_CellSet_init : MethodName := { cls := "MaskEdges$CellSet", name := "<init>", desc := "()V" }
abbrev y_Exposure_init : MethodName := { cls := "MaskEdges$Exposure", name := "<init>", desc := "()V" }
abbrev y_Box_init : MethodName := { cls := "MaskEdges$Box", name := "<init>", desc := "()V" }
abbrev y_Outline_init : MethodName := { cls := "MaskEdges$Outline", name := "<init>", desc := "()V" }
abbrev y_Piece_init : MethodName := { cls := "MaskEdges$Piece", name := "<init>", desc := "()V" }
abbrev y_MaskEdges_polygon : MethodName := { cls := "MaskEdges", name := "polygon", desc := "()I" }
abbrev y_MaskEdges_corner : MethodName := { cls := "MaskEdges", name := "corner", desc := "(IJJ)Z" }
abbrev y_Outline_takeCorner : MethodName := { cls := "MaskEdges$Outline", name := "takeCorner", desc := "(II)Z" }
abbrev y_Outline_isAlongX : MethodName := { cls := "MaskEdges$Outline", name := "isAlongX", desc := "(I)Z" }
abbrev y_Outline_nextCorner : MethodName := { cls := "MaskEdges$Outline", name := "nextCorner", desc := "(I)I" }
abbrev y_Outline_holds : MethodName := { cls := "MaskEdges$Outline", name := "holds", desc := "(II)Z" }
abbrev y_Math_min : MethodName := { cls := "java/lang/Math", name := "min", desc := "(II)I" }
abbrev y_Math_max : MethodName := { cls := "java/lang/Math", name := "max", desc := "(II)I" }
abbrev y_CellSet_add : MethodName := { cls := "MaskEdges$CellSet", name := "add", desc := "(II)V" }
abbrev y_MaskEdges_onGrid : MethodName := { cls := "MaskEdges", name := "onGrid", desc := "(II)Z" }
abbrev y_CellSet_copyFrom : MethodName := { cls := "MaskEdges$CellSet", name := "copyFrom", desc := "(LMaskEdges$CellSet;)V" }
abbrev y_Box_layBeside : MethodName := { cls := "MaskEdges$Box", name := "layBeside", desc := "(LMaskEdges$Piece;IIIII)V" }
abbrev y_CellSet_addBox : MethodName := { cls := "MaskEdges$CellSet", name := "addBox", desc := "(LMaskEdges$Box;)V" }
abbrev y_MaskEdges_columnBits : MethodName := { cls := "MaskEdges", name := "columnBits", desc := "(II)J" }
abbrev y_CellSet_removeBox : MethodName := { cls := "MaskEdges$CellSet", name := "removeBox", desc := "(LMaskEdges$Box;)V" }
abbrev y_CellSet_addAll : MethodName := { cls := "MaskEdges$CellSet", name := "addAll", desc := "(LMaskEdges$CellSet;)V" }
abbrev y_MaskEdges_kernel : MethodName := { cls := "MaskEdges", name := "kernel", desc := "(II)I" }
abbrev y_MaskEdges_within : MethodName := { cls := "MaskEdges", name := "within", desc := "(III)Z" }
abbrev y_Exposure_addKernel : MethodName := { cls := "MaskEdges$Exposure", name := "addKernel", desc := "(II)I" }
abbrev y_MaskEdges_cut : MethodName := { cls := "MaskEdges", name := "cut", desc := "(I)I" }
abbrev y_Outline_partsOf : MethodName := { cls := "MaskEdges$Outline", name := "partsOf", desc := "(II)I" }
abbrev y_Outline_sideEnd : MethodName := { cls := "MaskEdges$Outline", name := "sideEnd", desc := "(I)I" }
abbrev y_Outline_sideStart : MethodName := { cls := "MaskEdges$Outline", name := "sideStart", desc := "(I)I" }
abbrev y_Math_abs : MethodName := { cls := "java/lang/Math", name := "abs", desc := "(I)I" }
abbrev y_Piece_lieOn : MethodName := { cls := "MaskEdges$Piece", name := "lieOn", desc := "(LMaskEdges$Outline;III)V" }
abbrev y_Piece_pointAt : MethodName := { cls := "MaskEdges$Piece", name := "pointAt", desc := "(IIII)I" }
abbrev y_MaskEdges_image : MethodName := { cls := "MaskEdges", name := "image", desc := "(II)I" }
abbrev y_Exposure_imageAt : MethodName := { cls := "MaskEdges$Exposure", name := "imageAt", desc := "(LMaskEdges$CellSet;II)I" }
abbrev y_CellSet_countAround : MethodName := { cls := "MaskEdges$CellSet", name := "countAround", desc := "(III)I" }
abbrev y_Long_bitCount : MethodName := { cls := "java/lang/Long", name := "bitCount", desc := "(J)I" }
abbrev y_MaskEdges_error : MethodName := { cls := "MaskEdges", name := "error", desc := "(I)I" }
abbrev y_Piece_isFlat : MethodName := { cls := "MaskEdges$Piece", name := "isFlat", desc := "()Z" }
abbrev y_Exposure_printsAt : MethodName := { cls := "MaskEdges$Exposure", name := "printsAt", desc := "(LMaskEdges$CellSet;III)Z" }
abbrev y_MaskEdges_run : MethodName := { cls := "MaskEdges", name := "run", desc := "(IIII)I" }
abbrev y_MaskEdges_clamp : MethodName := { cls := "MaskEdges", name := "clamp", desc := "(II)I" }
abbrev y_Piece_moveTo : MethodName := { cls := "MaskEdges$Piece", name := "moveTo", desc := "(II)Z" }
abbrev y_MaskEdges_moved : MethodName := { cls := "MaskEdges", name := "moved", desc := "(I)I" }
abbrev y_MaskEdges_worst : MethodName := { cls := "MaskEdges", name := "worst", desc := "(I)I" }
abbrev y_MaskEdges_helper : MethodName := { cls := "MaskEdges", name := "helper", desc := "(II)I" }
abbrev y_Piece_mayHaveBar : MethodName := { cls := "MaskEdges$Piece", name := "mayHaveBar", desc := "()Z" }
abbrev y_Box_isOnGrid : MethodName := { cls := "MaskEdges$Box", name := "isOnGrid", desc := "()Z" }
abbrev y_CellSet_meets : MethodName := { cls := "MaskEdges$CellSet", name := "meets", desc := "(LMaskEdges$Box;)Z" }
abbrev y_Box_copyFrom : MethodName := { cls := "MaskEdges$Box", name := "copyFrom", desc := "(LMaskEdges$Box;)V" }
abbrev y_MaskEdges_prints : MethodName := { cls := "MaskEdges", name := "prints", desc := "(II)Z" }
abbrev y_MaskEdges_edge : MethodName := { cls := "MaskEdges", name := "edge", desc := "(II)I" }
abbrev y_MaskEdges_alike : MethodName := { cls := "MaskEdges", name := "alike", desc := "(II)Z" }
abbrev y_Piece_facesLike : MethodName := { cls := "MaskEdges$Piece", name := "facesLike", desc := "(LMaskEdges$Piece;)Z" }
abbrev y_CellSet_has : MethodName := { cls := "MaskEdges$CellSet", name := "has", desc := "(II)Z" }
abbrev y_MaskEdges_shift : MethodName := { cls := "MaskEdges", name := "shift", desc := "(II)I" }
abbrev y_Piece_fitsRule : MethodName := { cls := "MaskEdges$Piece", name := "fitsRule", desc := "(I)Z" }
abbrev y_MaskEdges_is : MethodName := { cls := "MaskEdges", name := "is", desc := "(III)Z" }
abbrev y_MaskEdgesModel_init : MethodName := { cls := "MaskEdgesModel", name := "<init>", desc := "()V" }
abbrev y_MaskEdgesModel_polygon : MethodName := { cls := "MaskEdgesModel", name := "polygon", desc := "()I" }
abbrev y_MaskEdgesModel_corner : MethodName := { cls := "MaskEdgesModel", name := "corner", desc := "(IJJ)Z" }
abbrev y_MaskEdgesModel_isBetween : MethodName := { cls := "MaskEdgesModel", name := "isBetween", desc := "(JJJ)Z" }
abbrev y_MaskEdgesModel_kernel : MethodName := { cls := "MaskEdgesModel", name := "kernel", desc := "(II)I" }
abbrev y_MaskEdgesModel_cut : MethodName := { cls := "MaskEdgesModel", name := "cut", desc := "(I)I" }
abbrev y_MaskEdgesModel_isCell : MethodName := { cls := "MaskEdgesModel", name := "isCell", desc := "(II)Z" }
abbrev y_MaskEdgesModel_image : MethodName := { cls := "MaskEdgesModel", name := "image", desc := "(II)I" }
abbrev y_MaskEdgesModel_within : MethodName := { cls := "MaskEdgesModel", name := "within", desc := "(I)I" }
abbrev y_MaskEdgesModel_error : MethodName := { cls := "MaskEdgesModel", name := "error", desc := "(I)I" }
abbrev y_MaskEdgesModel_edge : MethodName := { cls := "MaskEdgesModel", name := "edge", desc := "(II)I" }
abbrev y_MaskEdgesModel_run : MethodName := { cls := "MaskEdgesModel", name := "run", desc := "(IIII)I" }
abbrev y_MaskEdgesModel_clamp : MethodName := { cls := "MaskEdgesModel", name := "clamp", desc := "(II)I" }
abbrev y_MaskEdgesModel_moved : MethodName := { cls := "MaskEdgesModel", name := "moved", desc := "(I)I" }
abbrev y_MaskEdgesModel_worst : MethodName := { cls := "MaskEdgesModel", name := "worst", desc := "(I)I" }
abbrev y_MaskEdgesModel_helper : MethodName := { cls := "MaskEdgesModel", name := "helper", desc := "(II)I" }
abbrev y_MaskEdgesModel_prints : MethodName := { cls := "MaskEdgesModel", name := "prints", desc := "(II)Z" }
abbrev y_MaskEdgesModel_alike : MethodName := { cls := "MaskEdgesModel", name := "alike", desc := "(II)Z" }
abbrev y_MaskEdgesModel_shift : MethodName := { cls := "MaskEdgesModel", name := "shift", desc := "(II)I" }
abbrev y_MaskEdgesModel_is : MethodName := { cls := "MaskEdgesModel", name := "is", desc := "(III)Z" }
def xT_0 : List Cond := [Cond.selects "MaskEdges$Outline" y_Outline_maySideGoTo y_Outline_maySideGoTo, Cond.selects "MaskEdges" y_MaskEdges_addToTarget y_MaskEdges_addToTarget, Cond.selects "MaskEdges" y_MaskEdges_renewMask y_MaskEdges_renewMask, Cond.selects "MaskEdges" y_MaskEdges_applyMove y_MaskEdges_applyMove, Cond.selects "MaskEdges" y_MaskEdges_piecesFor y_MaskEdges_piecesFor, Cond.selects "MaskEdges" y_MaskEdges_cutOutline y_MaskEdges_cutOutline, Cond.selects "MaskEdges$Piece" y_Piece_faceOutward y_Piece_faceOutward, Cond.selects "MaskEdges" y_MaskEdges_isPiece y_MaskEdges_isPiece, Cond.selects "MaskEdges" y_MaskEdges_errorOf y_MaskEdges_errorOf, Cond.selects "MaskEdges" y_MaskEdges_worstError y_MaskEdges_worstError, Cond.selects "MaskEdges" y_MaskEdges_moveAgainstErrors y_MaskEdges_moveAgainstErrors, Cond.selects "MaskEdges" y_MaskEdges_takeMovesBack y_MaskEdges_takeMovesBack, Cond.selects "MaskEdges" y_MaskEdges_placeBar y_MaskEdges_placeBar, Cond.selects "MaskEdges" y_MaskEdges_sameTargetAround y_MaskEdges_sameTargetAround, Cond.selects "MaskEdgesModel" y_MaskEdgesModel_goesAlongX y_MaskEdgesModel_goesAlongX, Cond.selects "MaskEdgesModel" y_MaskEdgesModel_hasClosed y_MaskEdgesModel_hasClosed, Cond.selects "MaskEdgesModel" y_MaskEdgesModel_lengthOf y_MaskEdgesModel_lengthOf, Cond.selects "MaskEdgesModel" y_MaskEdgesModel_addPieces y_MaskEdgesModel_addPieces, Cond.selects "MaskEdgesModel" y_MaskEdgesModel_besideX y_MaskEdgesModel_besideX, Cond.selects "MaskEdgesModel" y_MaskEdgesModel_middle y_MaskEdgesModel_middle, Cond.selects "MaskEdgesModel" y_MaskEdgesModel_besideY y_MaskEdgesModel_besideY, Cond.selects "MaskEdgesModel" y_MaskEdgesModel_isIn y_MaskEdgesModel_isIn, Cond.selects "MaskEdgesModel" y_MaskEdgesModel_make y_MaskEdgesModel_make, Cond.selects "MaskEdgesModel" y_MaskEdgesModel_isTarget y_MaskEdgesModel_isTarget, Cond.selects "MaskEdgesModel" y_MaskEdgesModel_putPiece y_MaskEdgesModel_putPiece]
def xT_1 : List Cond := [Cond.selects "MaskEdgesModel" y_MaskEdgesModel_put y_MaskEdgesModel_put, Cond.selects "MaskEdgesModel" y_MaskEdgesModel_imageAt y_MaskEdgesModel_imageAt, Cond.selects "MaskEdgesModel" y_MaskEdgesModel_countAt y_MaskEdgesModel_countAt, Cond.selects "MaskEdgesModel" y_MaskEdgesModel_isPiece y_MaskEdgesModel_isPiece, Cond.selects "MaskEdgesModel" y_MaskEdgesModel_errorAt y_MaskEdgesModel_errorAt, Cond.selects "MaskEdgesModel" y_MaskEdgesModel_doesPrint y_MaskEdgesModel_doesPrint, Cond.selects "MaskEdgesModel" y_MaskEdgesModel_worstNow y_MaskEdgesModel_worstNow, Cond.selects "MaskEdgesModel" y_MaskEdgesModel_moveAll y_MaskEdgesModel_moveAll, Cond.selects "MaskEdgesModel" y_MaskEdgesModel_moveBack y_MaskEdgesModel_moveBack, Cond.selects "MaskEdgesModel" y_MaskEdgesModel_hasCome y_MaskEdgesModel_hasCome, Cond.selects "MaskEdgesModel" y_MaskEdgesModel_isFree y_MaskEdgesModel_isFree, Cond.initialized "MaskEdgesLaw", Cond.initialized "MaskEdges", Cond.initialized "MaskEdges$CellSet", Cond.initialized "MaskEdges$Exposure", Cond.initialized "MaskEdges$Box", Cond.initialized "MaskEdges$Outline", Cond.initialized "MaskEdges$Piece", Cond.initialized "MaskEdgesModel", Cond.initialized "java/lang/Math", Cond.initialized "java/lang/Long", Cond.classLink "MaskEdgesLaw" 7 "MaskEdges", Cond.instantiable "MaskEdges" 14, Cond.methodLink "MaskEdgesLaw" 9 y_MaskEdges_init, Cond.instanceMethod y_MaskEdges_init]
def xT_2 : List Cond := [Cond.code y_MaskEdges_init prog_1_method_1_code 2 none, Cond.methodLink "MaskEdges" 1 y_Object_init, Cond.instanceMethod y_Object_init, Cond.code y_Object_init object_method_1_code 1 none, Cond.classLink "MaskEdges" 9 "MaskEdges$Outline", Cond.classLink "MaskEdges" 15 "MaskEdges$Piece", Cond.classLink "MaskEdges" 25 "MaskEdges$Box", Cond.classLink "MaskEdges" 31 "MaskEdges$CellSet", Cond.instantiable "MaskEdges$CellSet" 1, Cond.instanceMethod y_CellSet_init, Cond.code y_CellSet_init prog_3_method_1_code 1 none, Cond.methodLink "MaskEdges$CellSet" 3 y_Object_init, Cond.fieldLink "MaskEdges$CellSet" 9 "MaskEdges$CellSet" "rows" "[J", Cond.laysFinal "MaskEdges$CellSet" "MaskEdges$CellSet" "rows" "[J", Cond.arrayClass .int, Cond.arrayClass .long, Cond.classLink "MaskEdges" 44 "MaskEdges$Exposure", Cond.instantiable "MaskEdges$Exposure" 4, Cond.instanceMethod y_Exposure_init, Cond.code y_Exposure_init prog_4_method_1_code 1 none, Cond.methodLink "MaskEdges$Exposure" 3 y_Object_init, Cond.fieldLink "MaskEdges$Exposure" 9 "MaskEdges$Exposure" "weights" "[I", Cond.fieldLink "MaskEdges$Exposure" 15 "MaskEdges$Exposure" "widths" "[I", Cond.fieldLink "MaskEdges$Exposure" 22 "MaskEdges$Exposure" "kernels" "I", Cond.fieldLink "MaskEdges$Exposure" 18 "MaskEdges$Exposure" "threshold" "I"]
def xT_3 : List Cond := [Cond.fieldLink "MaskEdges" 117 "MaskEdges$Exposure" "threshold" "I", Cond.laysFinal "MaskEdges$Exposure" "MaskEdges$Exposure" "weights" "[I", Cond.laysFinal "MaskEdges$Exposure" "MaskEdges$Exposure" "widths" "[I", Cond.lays "MaskEdges$Exposure" "MaskEdges$Exposure" "kernels" "I", Cond.lays "MaskEdges$Exposure" "MaskEdges$Exposure" "threshold" "I", Cond.instantiable "MaskEdges$Box" 4, Cond.instanceMethod y_Box_init, Cond.code y_Box_init prog_2_method_1_code 1 none, Cond.methodLink "MaskEdges$Box" 3 y_Object_init, Cond.fieldLink "MaskEdges$Box" 28 "MaskEdges$Box" "left" "I", Cond.fieldLink "MaskEdges$CellSet" 19 "MaskEdges$Box" "left" "I", Cond.fieldLink "MaskEdges" 153 "MaskEdges$Box" "left" "I", Cond.fieldLink "MaskEdges$Box" 36 "MaskEdges$Box" "top" "I", Cond.fieldLink "MaskEdges$CellSet" 41 "MaskEdges$Box" "top" "I", Cond.fieldLink "MaskEdges" 147 "MaskEdges$Box" "top" "I", Cond.fieldLink "MaskEdges$Box" 33 "MaskEdges$Box" "right" "I", Cond.fieldLink "MaskEdges$CellSet" 25 "MaskEdges$Box" "right" "I", Cond.fieldLink "MaskEdges" 156 "MaskEdges$Box" "right" "I", Cond.fieldLink "MaskEdges$Box" 39 "MaskEdges$Box" "bottom" "I", Cond.fieldLink "MaskEdges$CellSet" 32 "MaskEdges$Box" "bottom" "I", Cond.fieldLink "MaskEdges" 150 "MaskEdges$Box" "bottom" "I", Cond.lays "MaskEdges$Box" "MaskEdges$Box" "left" "I", Cond.lays "MaskEdges$Box" "MaskEdges$Box" "top" "I", Cond.lays "MaskEdges$Box" "MaskEdges$Box" "right" "I", Cond.lays "MaskEdges$Box" "MaskEdges$Box" "bottom" "I"]
def xT_4 : List Cond := [Cond.instantiable "MaskEdges$Outline" 4, Cond.instanceMethod y_Outline_init, Cond.code y_Outline_init prog_5_method_1_code 1 none, Cond.methodLink "MaskEdges$Outline" 3 y_Object_init, Cond.fieldLink "MaskEdges$Outline" 9 "MaskEdges$Outline" "xs" "[I", Cond.fieldLink "MaskEdges$Piece" 32 "MaskEdges$Outline" "xs" "[I", Cond.fieldLink "MaskEdges$Outline" 15 "MaskEdges$Outline" "ys" "[I", Cond.fieldLink "MaskEdges$Piece" 28 "MaskEdges$Outline" "ys" "[I", Cond.fieldLink "MaskEdges$Outline" 26 "MaskEdges$Outline" "corners" "I", Cond.fieldLink "MaskEdges" 229 "MaskEdges$Outline" "corners" "I", Cond.fieldLink "MaskEdges$Outline" 18 "MaskEdges$Outline" "closed" "Z", Cond.fieldLink "MaskEdges" 74 "MaskEdges$Outline" "closed" "Z", Cond.laysFinal "MaskEdges$Outline" "MaskEdges$Outline" "xs" "[I", Cond.laysFinal "MaskEdges$Outline" "MaskEdges$Outline" "ys" "[I", Cond.lays "MaskEdges$Outline" "MaskEdges$Outline" "corners" "I", Cond.lays "MaskEdges$Outline" "MaskEdges$Outline" "closed" "Z", Cond.instantiable "MaskEdges$Piece" 12, Cond.instanceMethod y_Piece_init, Cond.code y_Piece_init prog_6_method_1_code 1 none, Cond.methodLink "MaskEdges$Piece" 3 y_Object_init, Cond.fieldLink "MaskEdges$Piece" 22 "MaskEdges$Piece" "alongX" "Z", Cond.fieldLink "MaskEdges$Box" 24 "MaskEdges$Piece" "alongX" "Z", Cond.fieldLink "MaskEdges" 245 "MaskEdges$Piece" "alongX" "Z", Cond.fieldLink "MaskEdges$Box" 9 "MaskEdges$Piece" "line" "I", Cond.fieldLink "MaskEdges$Piece" 35 "MaskEdges$Piece" "line" "I"]
def xT_5 : List Cond := [Cond.fieldLink "MaskEdges$Piece" 67 "MaskEdges$Piece" "low" "I", Cond.fieldLink "MaskEdges" 209 "MaskEdges$Piece" "low" "I", Cond.fieldLink "MaskEdges$Piece" 70 "MaskEdges$Piece" "high" "I", Cond.fieldLink "MaskEdges" 212 "MaskEdges$Piece" "high" "I", Cond.fieldLink "MaskEdges$Piece" 45 "MaskEdges$Piece" "sideLow" "I", Cond.fieldLink "MaskEdges" 254 "MaskEdges$Piece" "sideLow" "I", Cond.fieldLink "MaskEdges$Piece" 51 "MaskEdges$Piece" "sideHigh" "I", Cond.fieldLink "MaskEdges" 257 "MaskEdges$Piece" "sideHigh" "I", Cond.fieldLink "MaskEdges$Piece" 54 "MaskEdges$Piece" "first" "Z", Cond.fieldLink "MaskEdges$Piece" 57 "MaskEdges$Piece" "last" "Z", Cond.fieldLink "MaskEdges$Piece" 84 "MaskEdges$Piece" "outward" "I", Cond.fieldLink "MaskEdges" 215 "MaskEdges$Piece" "outward" "I", Cond.fieldLink "MaskEdges$Piece" 87 "MaskEdges$Piece" "insideX" "I", Cond.fieldLink "MaskEdges" 239 "MaskEdges$Piece" "insideX" "I", Cond.fieldLink "MaskEdges$Piece" 90 "MaskEdges$Piece" "insideY" "I", Cond.fieldLink "MaskEdges" 242 "MaskEdges$Piece" "insideY" "I", Cond.fieldLink "MaskEdges$Piece" 60 "MaskEdges$Piece" "move" "I", Cond.fieldLink "MaskEdges" 133 "MaskEdges$Piece" "move" "I", Cond.lays "MaskEdges$Piece" "MaskEdges$Piece" "alongX" "Z", Cond.lays "MaskEdges$Piece" "MaskEdges$Piece" "line" "I", Cond.lays "MaskEdges$Piece" "MaskEdges$Piece" "low" "I", Cond.lays "MaskEdges$Piece" "MaskEdges$Piece" "high" "I", Cond.lays "MaskEdges$Piece" "MaskEdges$Piece" "sideLow" "I", Cond.lays "MaskEdges$Piece" "MaskEdges$Piece" "sideHigh" "I", Cond.lays "MaskEdges$Piece" "MaskEdges$Piece" "first" "Z"]
def xT_6 : List Cond := [Cond.lays "MaskEdges$Piece" "MaskEdges$Piece" "last" "Z", Cond.lays "MaskEdges$Piece" "MaskEdges$Piece" "outward" "I", Cond.lays "MaskEdges$Piece" "MaskEdges$Piece" "insideX" "I", Cond.lays "MaskEdges$Piece" "MaskEdges$Piece" "insideY" "I", Cond.lays "MaskEdges$Piece" "MaskEdges$Piece" "move" "I", Cond.fieldLink "MaskEdges" 11 "MaskEdges" "outlines" "[LMaskEdges$Outline;", Cond.fieldLink "MaskEdges" 65 "MaskEdges" "outlineCount" "I", Cond.fieldLink "MaskEdges" 17 "MaskEdges" "pieces" "[LMaskEdges$Piece;", Cond.fieldLink "MaskEdges" 61 "MaskEdges" "pieceCount" "I", Cond.fieldLink "MaskEdges" 21 "MaskEdges" "movesBefore" "[I", Cond.fieldLink "MaskEdges" 27 "MaskEdges" "bars" "[LMaskEdges$Box;", Cond.fieldLink "MaskEdges" 136 "MaskEdges" "barCount" "I", Cond.fieldLink "MaskEdges" 34 "MaskEdges" "target" "LMaskEdges$CellSet;", Cond.fieldLink "MaskEdges" 38 "MaskEdges" "barCells" "LMaskEdges$CellSet;", Cond.fieldLink "MaskEdges" 41 "MaskEdges" "mask" "LMaskEdges$CellSet;", Cond.fieldLink "MaskEdges" 47 "MaskEdges" "exposure" "LMaskEdges$Exposure;", Cond.fieldLink "MaskEdges" 51 "MaskEdges" "worsts" "[I", Cond.fieldLink "MaskEdges" 130 "MaskEdges" "worstCount" "I", Cond.fieldLink "MaskEdges" 55 "MaskEdges" "box" "LMaskEdges$Box;", Cond.laysFinal "MaskEdges" "MaskEdges" "outlines" "[LMaskEdges$Outline;", Cond.lays "MaskEdges" "MaskEdges" "outlineCount" "I", Cond.laysFinal "MaskEdges" "MaskEdges" "pieces" "[LMaskEdges$Piece;", Cond.lays "MaskEdges" "MaskEdges" "pieceCount" "I", Cond.laysFinal "MaskEdges" "MaskEdges" "movesBefore" "[I", Cond.laysFinal "MaskEdges" "MaskEdges" "bars" "[LMaskEdges$Box;"]
def xT_7 : List Cond := [Cond.lays "MaskEdges" "MaskEdges" "barCount" "I", Cond.laysFinal "MaskEdges" "MaskEdges" "target" "LMaskEdges$CellSet;", Cond.laysFinal "MaskEdges" "MaskEdges" "barCells" "LMaskEdges$CellSet;", Cond.laysFinal "MaskEdges" "MaskEdges" "mask" "LMaskEdges$CellSet;", Cond.laysFinal "MaskEdges" "MaskEdges" "exposure" "LMaskEdges$Exposure;", Cond.laysFinal "MaskEdges" "MaskEdges" "worsts" "[I", Cond.lays "MaskEdges" "MaskEdges" "worstCount" "I", Cond.laysFinal "MaskEdges" "MaskEdges" "box" "LMaskEdges$Box;", Cond.methodLink "MaskEdgesLaw" 13 y_MaskEdges_polygon, Cond.instanceMethod y_MaskEdges_polygon, Cond.selects "MaskEdges" y_MaskEdges_polygon y_MaskEdges_polygon, Cond.code y_MaskEdges_polygon prog_1_method_2_code 1 (some .int), Cond.methodLink "MaskEdgesLaw" 20 y_MaskEdges_corner, Cond.instanceMethod y_MaskEdges_corner, Cond.selects "MaskEdges" y_MaskEdges_corner y_MaskEdges_corner, Cond.code y_MaskEdges_corner prog_1_method_3_code 8 (some .boolean), Cond.constantLong "MaskEdges" 68 (48 : Int64), Cond.methodLink "MaskEdges" 70 y_Outline_takeCorner, Cond.instanceMethod y_Outline_takeCorner, Cond.selects "MaskEdges$Outline" y_Outline_takeCorner y_Outline_takeCorner, Cond.code y_Outline_takeCorner prog_5_method_2_code 3 (some .boolean), Cond.methodLink "MaskEdges$Outline" 22 y_Outline_maySideGoTo, Cond.instanceMethod y_Outline_maySideGoTo, Cond.code y_Outline_maySideGoTo prog_5_method_3_code 5 (some .boolean), Cond.methodLink "MaskEdges$Outline" 30 y_Outline_isAlongX]
def xT_8 : List Cond := [Cond.instanceMethod y_Outline_isAlongX, Cond.selects "MaskEdges$Outline" y_Outline_isAlongX y_Outline_isAlongX, Cond.code y_Outline_isAlongX prog_5_method_5_code 2 (some .boolean), Cond.methodLink "MaskEdges$Outline" 34 y_Outline_nextCorner, Cond.instanceMethod y_Outline_nextCorner, Cond.selects "MaskEdges$Outline" y_Outline_nextCorner y_Outline_nextCorner, Cond.code y_Outline_nextCorner prog_5_method_4_code 2 (some .int), Cond.methodLink "MaskEdges" 78 y_MaskEdges_addToTarget, Cond.instanceMethod y_MaskEdges_addToTarget, Cond.code y_MaskEdges_addToTarget prog_1_method_22_code 4 none, Cond.methodLink "MaskEdges" 191 y_Outline_holds, Cond.instanceMethod y_Outline_holds, Cond.selects "MaskEdges$Outline" y_Outline_holds y_Outline_holds, Cond.code y_Outline_holds prog_5_method_9_code 7 (some .boolean), Cond.methodLink "MaskEdges$Outline" 49 y_Math_min, Cond.static y_Math_min, Cond.code y_Math_min prog_10_method_69_code 2 (some .int), Cond.methodLink "MaskEdges$Outline" 53 y_Math_max, Cond.static y_Math_max, Cond.code y_Math_max prog_10_method_65_code 2 (some .int), Cond.methodLink "MaskEdges" 194 y_CellSet_add, Cond.instanceMethod y_CellSet_add, Cond.selects "MaskEdges$CellSet" y_CellSet_add y_CellSet_add, Cond.code y_CellSet_add prog_3_method_3_code 3 none, Cond.static y_MaskEdges_onGrid]
def xT_9 : List Cond := [Cond.code y_MaskEdges_onGrid prog_1_method_18_code 2 (some .boolean), Cond.methodLink "MaskEdges" 82 y_MaskEdges_renewMask, Cond.instanceMethod y_MaskEdges_renewMask, Cond.code y_MaskEdges_renewMask prog_1_method_23_code 2 none, Cond.methodLink "MaskEdges" 198 y_CellSet_copyFrom, Cond.instanceMethod y_CellSet_copyFrom, Cond.selects "MaskEdges$CellSet" y_CellSet_copyFrom y_CellSet_copyFrom, Cond.code y_CellSet_copyFrom prog_3_method_4_code 3 none, Cond.methodLink "MaskEdges" 202 y_MaskEdges_applyMove, Cond.instanceMethod y_MaskEdges_applyMove, Cond.code y_MaskEdges_applyMove prog_1_method_24_code 2 none, Cond.methodLink "MaskEdges" 218 y_Box_layBeside, Cond.instanceMethod y_Box_layBeside, Cond.selects "MaskEdges$Box" y_Box_layBeside y_Box_layBeside, Cond.code y_Box_layBeside prog_2_method_2_code 11 none, Cond.methodLink "MaskEdges$Box" 15 y_Math_min, Cond.methodLink "MaskEdges$Box" 21 y_Math_max, Cond.methodLink "MaskEdges" 222 y_CellSet_addBox, Cond.instanceMethod y_CellSet_addBox, Cond.selects "MaskEdges$CellSet" y_CellSet_addBox y_CellSet_addBox, Cond.code y_CellSet_addBox prog_3_method_6_code 6 none, Cond.static y_MaskEdges_columnBits, Cond.code y_MaskEdges_columnBits prog_1_method_20_code 4 (some .long), Cond.methodLink "MaskEdges$CellSet" 35 y_Math_min, Cond.methodLink "MaskEdges$CellSet" 44 y_Math_max]
def xT_10 : List Cond := [Cond.methodLink "MaskEdges" 226 y_CellSet_removeBox, Cond.instanceMethod y_CellSet_removeBox, Cond.selects "MaskEdges$CellSet" y_CellSet_removeBox y_CellSet_removeBox, Cond.code y_CellSet_removeBox prog_3_method_7_code 6 none, Cond.constantLong "MaskEdges$CellSet" 47 (-1 : Int64), Cond.methodLink "MaskEdges" 206 y_CellSet_addAll, Cond.instanceMethod y_CellSet_addAll, Cond.selects "MaskEdges$CellSet" y_CellSet_addAll y_CellSet_addAll, Cond.code y_CellSet_addAll prog_3_method_5_code 3 none, Cond.methodLink "MaskEdgesLaw" 25 y_MaskEdges_kernel, Cond.instanceMethod y_MaskEdges_kernel, Cond.selects "MaskEdges" y_MaskEdges_kernel y_MaskEdges_kernel, Cond.code y_MaskEdges_kernel prog_1_method_4_code 3 (some .int), Cond.methodLink "MaskEdges" 85 y_MaskEdges_within, Cond.static y_MaskEdges_within, Cond.code y_MaskEdges_within prog_1_method_17_code 3 (some .boolean), Cond.methodLink "MaskEdges" 89 y_Exposure_addKernel, Cond.instanceMethod y_Exposure_addKernel, Cond.selects "MaskEdges$Exposure" y_Exposure_addKernel y_Exposure_addKernel, Cond.code y_Exposure_addKernel prog_4_method_2_code 3 (some .int), Cond.methodLink "MaskEdgesLaw" 30 y_MaskEdges_cut, Cond.instanceMethod y_MaskEdges_cut, Cond.selects "MaskEdges" y_MaskEdges_cut y_MaskEdges_cut, Cond.code y_MaskEdges_cut prog_1_method_5_code 4 (some .int), Cond.methodLink "MaskEdges" 93 y_MaskEdges_piecesFor]
def xT_11 : List Cond := [Cond.instanceMethod y_MaskEdges_piecesFor, Cond.code y_MaskEdges_piecesFor prog_1_method_25_code 6 (some .int), Cond.methodLink "MaskEdges" 232 y_Outline_partsOf, Cond.instanceMethod y_Outline_partsOf, Cond.selects "MaskEdges$Outline" y_Outline_partsOf y_Outline_partsOf, Cond.code y_Outline_partsOf prog_5_method_8_code 4 (some .int), Cond.methodLink "MaskEdges$Outline" 38 y_Outline_sideEnd, Cond.instanceMethod y_Outline_sideEnd, Cond.selects "MaskEdges$Outline" y_Outline_sideEnd y_Outline_sideEnd, Cond.code y_Outline_sideEnd prog_5_method_7_code 3 (some .int), Cond.methodLink "MaskEdges$Outline" 41 y_Outline_sideStart, Cond.instanceMethod y_Outline_sideStart, Cond.selects "MaskEdges$Outline" y_Outline_sideStart y_Outline_sideStart, Cond.code y_Outline_sideStart prog_5_method_6_code 2 (some .int), Cond.methodLink "MaskEdges$Outline" 44 y_Math_abs, Cond.static y_Math_abs, Cond.code y_Math_abs prog_10_method_59_code 1 (some .int), Cond.methodLink "MaskEdges" 97 y_MaskEdges_cutOutline, Cond.instanceMethod y_MaskEdges_cutOutline, Cond.code y_MaskEdges_cutOutline prog_1_method_26_code 6 none, Cond.methodLink "MaskEdges" 235 y_Piece_lieOn, Cond.instanceMethod y_Piece_lieOn, Cond.selects "MaskEdges$Piece" y_Piece_lieOn y_Piece_lieOn, Cond.code y_Piece_lieOn prog_6_method_2_code 9 none, Cond.methodLink "MaskEdges$Piece" 9 y_Outline_sideStart]
def xT_12 : List Cond := [Cond.methodLink "MaskEdges$Piece" 15 y_Outline_sideEnd, Cond.methodLink "MaskEdges$Piece" 18 y_Outline_isAlongX, Cond.methodLink "MaskEdges$Piece" 39 y_Math_min, Cond.methodLink "MaskEdges$Piece" 48 y_Math_max, Cond.methodLink "MaskEdges$Piece" 63 y_Piece_pointAt, Cond.static y_Piece_pointAt, Cond.code y_Piece_pointAt prog_6_method_3_code 5 (some .int), Cond.methodLink "MaskEdges$Piece" 77 y_Math_abs, Cond.methodLink "MaskEdges$Piece" 73 y_Piece_faceOutward, Cond.instanceMethod y_Piece_faceOutward, Cond.code y_Piece_faceOutward prog_6_method_4_code 6 none, Cond.methodLink "MaskEdges$Piece" 80 y_Outline_holds, Cond.methodLink "MaskEdgesLaw" 35 y_MaskEdges_image, Cond.instanceMethod y_MaskEdges_image, Cond.selects "MaskEdges" y_MaskEdges_image y_MaskEdges_image, Cond.code y_MaskEdges_image prog_1_method_6_code 3 (some .int), Cond.methodLink "MaskEdges" 101 y_MaskEdges_onGrid, Cond.methodLink "MaskEdges" 104 y_Exposure_imageAt, Cond.instanceMethod y_Exposure_imageAt, Cond.selects "MaskEdges$Exposure" y_Exposure_imageAt y_Exposure_imageAt, Cond.code y_Exposure_imageAt prog_4_method_3_code 6 (some .int), Cond.methodLink "MaskEdges$Exposure" 25 y_CellSet_countAround, Cond.instanceMethod y_CellSet_countAround, Cond.selects "MaskEdges$CellSet" y_CellSet_countAround y_CellSet_countAround, Cond.code y_CellSet_countAround prog_3_method_9_code 9 (some .int)]
def xT_13 : List Cond := [Cond.methodLink "MaskEdges$CellSet" 49 y_Long_bitCount, Cond.static y_Long_bitCount, Cond.code y_Long_bitCount prog_9_method_50_code 2 (some .int), Cond.constantLong "java/lang/Long" 314 (6148914691236517205 : Int64), Cond.constantLong "java/lang/Long" 316 (3689348814741910323 : Int64), Cond.constantLong "java/lang/Long" 318 (1085102592571150095 : Int64), Cond.methodLink "MaskEdgesLaw" 39 y_MaskEdges_error, Cond.instanceMethod y_MaskEdges_error, Cond.selects "MaskEdges" y_MaskEdges_error y_MaskEdges_error, Cond.code y_MaskEdges_error prog_1_method_7_code 2 (some .int), Cond.methodLink "MaskEdges" 108 y_MaskEdges_isPiece, Cond.instanceMethod y_MaskEdges_isPiece, Cond.code y_MaskEdges_isPiece prog_1_method_21_code 2 (some .boolean), Cond.methodLink "MaskEdges" 112 y_MaskEdges_errorOf, Cond.instanceMethod y_MaskEdges_errorOf, Cond.code y_MaskEdges_errorOf prog_1_method_27_code 10 (some .int), Cond.methodLink "MaskEdges" 163 y_Piece_isFlat, Cond.instanceMethod y_Piece_isFlat, Cond.selects "MaskEdges$Piece" y_Piece_isFlat y_Piece_isFlat, Cond.code y_Piece_isFlat prog_6_method_5_code 1 (some .boolean), Cond.methodLink "MaskEdges" 159 y_Exposure_printsAt, Cond.instanceMethod y_Exposure_printsAt, Cond.selects "MaskEdges$Exposure" y_Exposure_printsAt y_Exposure_printsAt, Cond.code y_Exposure_printsAt prog_4_method_4_code 5 (some .boolean), Cond.methodLink "MaskEdges$Exposure" 35 y_Exposure_imageAt]
def xT_14 : List Cond := [Cond.methodLink "MaskEdgesLaw" 43 y_MaskEdges_run, Cond.instanceMethod y_MaskEdges_run, Cond.selects "MaskEdges" y_MaskEdges_run y_MaskEdges_run, Cond.code y_MaskEdges_run prog_1_method_8_code 7 (some .int), Cond.constant "MaskEdges" 116 (100000 : Int32), Cond.methodLink "MaskEdges" 120 y_MaskEdges_worstError, Cond.instanceMethod y_MaskEdges_worstError, Cond.code y_MaskEdges_worstError prog_1_method_28_code 3 (some .int), Cond.methodLink "MaskEdges" 248 y_Math_abs, Cond.methodLink "MaskEdges" 188 y_Math_max, Cond.methodLink "MaskEdges" 124 y_MaskEdges_moveAgainstErrors, Cond.instanceMethod y_MaskEdges_moveAgainstErrors, Cond.code y_MaskEdges_moveAgainstErrors prog_1_method_29_code 7 (some .boolean), Cond.methodLink "MaskEdges" 251 y_MaskEdges_clamp, Cond.static y_MaskEdges_clamp, Cond.code y_MaskEdges_clamp prog_1_method_19_code 2 (some .int), Cond.methodLink "MaskEdges" 183 y_Math_min, Cond.methodLink "MaskEdges" 177 y_Piece_moveTo, Cond.instanceMethod y_Piece_moveTo, Cond.selects "MaskEdges$Piece" y_Piece_moveTo y_Piece_moveTo, Cond.code y_Piece_moveTo prog_6_method_9_code 4 (some .boolean), Cond.methodLink "MaskEdges$Piece" 93 y_Piece_isFlat, Cond.methodLink "MaskEdges" 127 y_MaskEdges_takeMovesBack, Cond.instanceMethod y_MaskEdges_takeMovesBack, Cond.code y_MaskEdges_takeMovesBack prog_1_method_30_code 2 none]
def xT_15 : List Cond := [Cond.methodLink "MaskEdgesLaw" 48 y_MaskEdges_moved, Cond.instanceMethod y_MaskEdges_moved, Cond.selects "MaskEdges" y_MaskEdges_moved y_MaskEdges_moved, Cond.code y_MaskEdges_moved prog_1_method_9_code 2 (some .int), Cond.methodLink "MaskEdgesLaw" 52 y_MaskEdges_worst, Cond.instanceMethod y_MaskEdges_worst, Cond.selects "MaskEdges" y_MaskEdges_worst y_MaskEdges_worst, Cond.code y_MaskEdges_worst prog_1_method_10_code 2 (some .int), Cond.methodLink "MaskEdgesLaw" 56 y_MaskEdges_helper, Cond.instanceMethod y_MaskEdges_helper, Cond.selects "MaskEdges" y_MaskEdges_helper y_MaskEdges_helper, Cond.code y_MaskEdges_helper prog_1_method_11_code 5 (some .int), Cond.methodLink "MaskEdges" 139 y_Piece_mayHaveBar, Cond.instanceMethod y_Piece_mayHaveBar, Cond.selects "MaskEdges$Piece" y_Piece_mayHaveBar y_Piece_mayHaveBar, Cond.code y_Piece_mayHaveBar prog_6_method_7_code 1 (some .boolean), Cond.methodLink "MaskEdges" 143 y_MaskEdges_placeBar, Cond.instanceMethod y_MaskEdges_placeBar, Cond.code y_MaskEdges_placeBar prog_1_method_31_code 4 none, Cond.methodLink "MaskEdges" 260 y_Box_isOnGrid, Cond.instanceMethod y_Box_isOnGrid, Cond.selects "MaskEdges$Box" y_Box_isOnGrid y_Box_isOnGrid, Cond.code y_Box_isOnGrid prog_2_method_4_code 1 (some .boolean), Cond.methodLink "MaskEdges" 263 y_CellSet_meets, Cond.instanceMethod y_CellSet_meets]
def xT_16 : List Cond := [Cond.selects "MaskEdges$CellSet" y_CellSet_meets y_CellSet_meets, Cond.code y_CellSet_meets prog_3_method_8_code 6 (some .boolean), Cond.methodLink "MaskEdges" 267 y_Box_copyFrom, Cond.instanceMethod y_Box_copyFrom, Cond.selects "MaskEdges$Box" y_Box_copyFrom y_Box_copyFrom, Cond.code y_Box_copyFrom prog_2_method_3_code 2 none, Cond.methodLink "MaskEdgesLaw" 60 y_MaskEdges_prints, Cond.instanceMethod y_MaskEdges_prints, Cond.selects "MaskEdges" y_MaskEdges_prints y_MaskEdges_prints, Cond.code y_MaskEdges_prints prog_1_method_12_code 6 (some .boolean), Cond.methodLink "MaskEdgesLaw" 65 y_MaskEdges_edge, Cond.instanceMethod y_MaskEdges_edge, Cond.selects "MaskEdges" y_MaskEdges_edge y_MaskEdges_edge, Cond.code y_MaskEdges_edge prog_1_method_13_code 3 (some .int), Cond.methodLink "MaskEdgesLaw" 69 y_MaskEdges_alike, Cond.instanceMethod y_MaskEdges_alike, Cond.selects "MaskEdges" y_MaskEdges_alike y_MaskEdges_alike, Cond.code y_MaskEdges_alike prog_1_method_14_code 5 (some .boolean), Cond.methodLink "MaskEdges" 166 y_Piece_facesLike, Cond.instanceMethod y_Piece_facesLike, Cond.selects "MaskEdges$Piece" y_Piece_facesLike y_Piece_facesLike, Cond.code y_Piece_facesLike prog_6_method_6_code 2 (some .boolean), Cond.methodLink "MaskEdges" 170 y_MaskEdges_sameTargetAround, Cond.instanceMethod y_MaskEdges_sameTargetAround, Cond.code y_MaskEdges_sameTargetAround prog_1_method_32_code 6 (some .boolean)]
def xT_17 : List Cond := [Cond.methodLink "MaskEdges" 180 y_CellSet_has, Cond.instanceMethod y_CellSet_has, Cond.selects "MaskEdges$CellSet" y_CellSet_has y_CellSet_has, Cond.code y_CellSet_has prog_3_method_2_code 3 (some .boolean), Cond.methodLink "MaskEdgesLaw" 73 y_MaskEdges_shift, Cond.instanceMethod y_MaskEdges_shift, Cond.selects "MaskEdges" y_MaskEdges_shift y_MaskEdges_shift, Cond.code y_MaskEdges_shift prog_1_method_15_code 6 (some .int), Cond.methodLink "MaskEdges" 174 y_Piece_fitsRule, Cond.instanceMethod y_Piece_fitsRule, Cond.selects "MaskEdges$Piece" y_Piece_fitsRule y_Piece_fitsRule, Cond.code y_Piece_fitsRule prog_6_method_8_code 2 (some .boolean), Cond.methodLink "MaskEdgesLaw" 77 y_MaskEdges_is, Cond.instanceMethod y_MaskEdges_is, Cond.selects "MaskEdges" y_MaskEdges_is y_MaskEdges_is, Cond.code y_MaskEdges_is prog_1_method_16_code 4 (some .boolean), Cond.classLink "MaskEdgesLaw" 10 "MaskEdgesModel", Cond.instantiable "MaskEdgesModel" 28, Cond.methodLink "MaskEdgesLaw" 12 y_MaskEdgesModel_init, Cond.instanceMethod y_MaskEdgesModel_init, Cond.code y_MaskEdgesModel_init prog_8_method_1_code 1 none, Cond.methodLink "MaskEdgesModel" 1 y_Object_init, Cond.fieldLink "MaskEdgesModel" 93 "MaskEdgesModel" "polygons" "I", Cond.fieldLink "MaskEdgesModel" 7 "MaskEdgesModel" "xs" "[I", Cond.fieldLink "MaskEdgesModel" 13 "MaskEdgesModel" "ys" "[I"]
def xT_18 : List Cond := [Cond.fieldLink "MaskEdgesModel" 16 "MaskEdgesModel" "sizes" "[I", Cond.fieldLink "MaskEdgesModel" 19 "MaskEdgesModel" "isClosed" "[Z", Cond.fieldLink "MaskEdgesModel" 115 "MaskEdgesModel" "kernels" "I", Cond.fieldLink "MaskEdgesModel" 23 "MaskEdgesModel" "weights" "[I", Cond.fieldLink "MaskEdgesModel" 26 "MaskEdgesModel" "widths" "[I", Cond.fieldLink "MaskEdgesModel" 29 "MaskEdgesModel" "threshold" "I", Cond.fieldLink "MaskEdgesModel" 90 "MaskEdgesModel" "pieces" "I", Cond.fieldLink "MaskEdgesModel" 33 "MaskEdgesModel" "across" "[I", Cond.fieldLink "MaskEdgesModel" 36 "MaskEdgesModel" "from" "[I", Cond.fieldLink "MaskEdgesModel" 39 "MaskEdgesModel" "to" "[I", Cond.fieldLink "MaskEdgesModel" 42 "MaskEdgesModel" "isAlongX" "[Z", Cond.fieldLink "MaskEdgesModel" 45 "MaskEdgesModel" "isFirst" "[Z", Cond.fieldLink "MaskEdgesModel" 48 "MaskEdgesModel" "isLast" "[Z", Cond.fieldLink "MaskEdgesModel" 51 "MaskEdgesModel" "out" "[I", Cond.fieldLink "MaskEdgesModel" 54 "MaskEdgesModel" "moves" "[I", Cond.fieldLink "MaskEdgesModel" 57 "MaskEdgesModel" "before" "[I", Cond.fieldLink "MaskEdgesModel" 151 "MaskEdgesModel" "bars" "I", Cond.fieldLink "MaskEdgesModel" 60 "MaskEdgesModel" "barX" "[I", Cond.fieldLink "MaskEdgesModel" 63 "MaskEdgesModel" "barY" "[I", Cond.fieldLink "MaskEdgesModel" 66 "MaskEdgesModel" "barFarX" "[I", Cond.fieldLink "MaskEdgesModel" 69 "MaskEdgesModel" "barFarY" "[I", Cond.fieldLink "MaskEdgesModel" 72 "MaskEdgesModel" "mask" "[Z", Cond.fieldLink "MaskEdgesModel" 75 "MaskEdgesModel" "sums" "[I", Cond.fieldLink "MaskEdgesModel" 78 "MaskEdgesModel" "kept" "I", Cond.fieldLink "MaskEdgesModel" 81 "MaskEdgesModel" "worsts" "[I"]
def xT_19 : List Cond := [Cond.lays "MaskEdgesModel" "MaskEdgesModel" "polygons" "I", Cond.laysFinal "MaskEdgesModel" "MaskEdgesModel" "xs" "[I", Cond.laysFinal "MaskEdgesModel" "MaskEdgesModel" "ys" "[I", Cond.laysFinal "MaskEdgesModel" "MaskEdgesModel" "sizes" "[I", Cond.laysFinal "MaskEdgesModel" "MaskEdgesModel" "isClosed" "[Z", Cond.lays "MaskEdgesModel" "MaskEdgesModel" "kernels" "I", Cond.laysFinal "MaskEdgesModel" "MaskEdgesModel" "weights" "[I", Cond.laysFinal "MaskEdgesModel" "MaskEdgesModel" "widths" "[I", Cond.lays "MaskEdgesModel" "MaskEdgesModel" "threshold" "I", Cond.lays "MaskEdgesModel" "MaskEdgesModel" "pieces" "I", Cond.laysFinal "MaskEdgesModel" "MaskEdgesModel" "across" "[I", Cond.laysFinal "MaskEdgesModel" "MaskEdgesModel" "from" "[I", Cond.laysFinal "MaskEdgesModel" "MaskEdgesModel" "to" "[I", Cond.laysFinal "MaskEdgesModel" "MaskEdgesModel" "isAlongX" "[Z", Cond.laysFinal "MaskEdgesModel" "MaskEdgesModel" "isFirst" "[Z", Cond.laysFinal "MaskEdgesModel" "MaskEdgesModel" "isLast" "[Z", Cond.laysFinal "MaskEdgesModel" "MaskEdgesModel" "out" "[I", Cond.laysFinal "MaskEdgesModel" "MaskEdgesModel" "moves" "[I", Cond.laysFinal "MaskEdgesModel" "MaskEdgesModel" "before" "[I", Cond.lays "MaskEdgesModel" "MaskEdgesModel" "bars" "I", Cond.laysFinal "MaskEdgesModel" "MaskEdgesModel" "barX" "[I", Cond.laysFinal "MaskEdgesModel" "MaskEdgesModel" "barY" "[I", Cond.laysFinal "MaskEdgesModel" "MaskEdgesModel" "barFarX" "[I", Cond.laysFinal "MaskEdgesModel" "MaskEdgesModel" "barFarY" "[I", Cond.laysFinal "MaskEdgesModel" "MaskEdgesModel" "mask" "[Z"]
def xT_20 : List Cond := [Cond.laysFinal "MaskEdgesModel" "MaskEdgesModel" "sums" "[I", Cond.lays "MaskEdgesModel" "MaskEdgesModel" "kept" "I", Cond.laysFinal "MaskEdgesModel" "MaskEdgesModel" "worsts" "[I", Cond.arrayClass .boolean, Cond.methodLink "MaskEdgesLaw" 17 y_MaskEdgesModel_polygon, Cond.instanceMethod y_MaskEdgesModel_polygon, Cond.selects "MaskEdgesModel" y_MaskEdgesModel_polygon y_MaskEdgesModel_polygon, Cond.code y_MaskEdgesModel_polygon prog_8_method_4_code 1 (some .int), Cond.methodLink "MaskEdgesLaw" 24 y_MaskEdgesModel_corner, Cond.instanceMethod y_MaskEdgesModel_corner, Cond.selects "MaskEdgesModel" y_MaskEdgesModel_corner y_MaskEdgesModel_corner, Cond.code y_MaskEdgesModel_corner prog_8_method_6_code 10 (some .boolean), Cond.methodLink "MaskEdgesModel" 86 y_MaskEdgesModel_isBetween, Cond.static y_MaskEdgesModel_isBetween, Cond.code y_MaskEdgesModel_isBetween prog_8_method_2_code 6 (some .boolean), Cond.constantLong "MaskEdgesModel" 96 (48 : Int64), Cond.methodLink "MaskEdgesModel" 98 y_MaskEdgesModel_goesAlongX, Cond.instanceMethod y_MaskEdgesModel_goesAlongX, Cond.code y_MaskEdgesModel_goesAlongX prog_8_method_5_code 5 (some .boolean), Cond.methodLink "MaskEdgesLaw" 29 y_MaskEdgesModel_kernel, Cond.instanceMethod y_MaskEdgesModel_kernel, Cond.selects "MaskEdgesModel" y_MaskEdgesModel_kernel y_MaskEdgesModel_kernel, Cond.code y_MaskEdgesModel_kernel prog_8_method_9_code 3 (some .int), Cond.constantLong "MaskEdgesModel" 109 (-20 : Int64), Cond.constantLong "MaskEdgesModel" 111 (20 : Int64)]
def xT_21 : List Cond := [Cond.constantLong "MaskEdgesModel" 113 (6 : Int64), Cond.methodLink "MaskEdgesLaw" 34 y_MaskEdgesModel_cut, Cond.instanceMethod y_MaskEdgesModel_cut, Cond.selects "MaskEdgesModel" y_MaskEdgesModel_cut y_MaskEdgesModel_cut, Cond.code y_MaskEdgesModel_cut prog_8_method_16_code 5 (some .int), Cond.methodLink "MaskEdgesModel" 132 y_MaskEdgesModel_hasClosed, Cond.instanceMethod y_MaskEdgesModel_hasClosed, Cond.code y_MaskEdgesModel_hasClosed prog_8_method_10_code 3 (some .boolean), Cond.methodLink "MaskEdgesModel" 122 y_MaskEdgesModel_lengthOf, Cond.instanceMethod y_MaskEdgesModel_lengthOf, Cond.code y_MaskEdgesModel_lengthOf prog_8_method_11_code 6 (some .int), Cond.methodLink "MaskEdgesModel" 136 y_MaskEdgesModel_addPieces, Cond.instanceMethod y_MaskEdgesModel_addPieces, Cond.code y_MaskEdgesModel_addPieces prog_8_method_15_code 15 none, Cond.methodLink "MaskEdgesModel" 126 y_MaskEdgesModel_besideX, Cond.instanceMethod y_MaskEdgesModel_besideX, Cond.code y_MaskEdgesModel_besideX prog_8_method_13_code 3 (some .int), Cond.methodLink "MaskEdgesModel" 118 y_MaskEdgesModel_middle, Cond.instanceMethod y_MaskEdgesModel_middle, Cond.code y_MaskEdgesModel_middle prog_8_method_12_code 2 (some .int), Cond.methodLink "MaskEdgesModel" 129 y_MaskEdgesModel_besideY, Cond.instanceMethod y_MaskEdgesModel_besideY, Cond.code y_MaskEdgesModel_besideY prog_8_method_14_code 3 (some .int), Cond.methodLink "MaskEdgesModel" 105 y_MaskEdgesModel_isIn, Cond.instanceMethod y_MaskEdgesModel_isIn]
def xT_22 : List Cond := [Cond.code y_MaskEdgesModel_isIn prog_8_method_7_code 10 (some .boolean), Cond.methodLink "MaskEdgesModel" 102 y_MaskEdgesModel_isCell, Cond.static y_MaskEdgesModel_isCell, Cond.code y_MaskEdgesModel_isCell prog_8_method_3_code 2 (some .boolean), Cond.constantLong "MaskEdgesModel" 84 (47 : Int64), Cond.methodLink "MaskEdgesLaw" 38 y_MaskEdgesModel_image, Cond.instanceMethod y_MaskEdgesModel_image, Cond.selects "MaskEdgesModel" y_MaskEdgesModel_image y_MaskEdgesModel_image, Cond.code y_MaskEdgesModel_image prog_8_method_24_code 3 (some .int), Cond.methodLink "MaskEdgesModel" 166 y_MaskEdgesModel_make, Cond.instanceMethod y_MaskEdgesModel_make, Cond.code y_MaskEdgesModel_make prog_8_method_19_code 4 none, Cond.methodLink "MaskEdgesModel" 144 y_MaskEdgesModel_isTarget, Cond.instanceMethod y_MaskEdgesModel_isTarget, Cond.code y_MaskEdgesModel_isTarget prog_8_method_8_code 5 (some .boolean), Cond.methodLink "MaskEdgesModel" 147 y_MaskEdgesModel_putPiece, Cond.instanceMethod y_MaskEdgesModel_putPiece, Cond.code y_MaskEdgesModel_putPiece prog_8_method_18_code 7 none, Cond.methodLink "MaskEdgesModel" 140 y_MaskEdgesModel_put, Cond.instanceMethod y_MaskEdgesModel_put, Cond.code y_MaskEdgesModel_put prog_8_method_17_code 4 none, Cond.methodLink "MaskEdgesModel" 161 y_MaskEdgesModel_imageAt, Cond.instanceMethod y_MaskEdgesModel_imageAt, Cond.code y_MaskEdgesModel_imageAt prog_8_method_22_code 5 (some .int), Cond.methodLink "MaskEdgesModel" 157 y_MaskEdgesModel_countAt]
def xT_23 : List Cond := [Cond.instanceMethod y_MaskEdgesModel_countAt, Cond.code y_MaskEdgesModel_countAt prog_8_method_21_code 8 (some .int), Cond.methodLink "MaskEdgesModel" 154 y_MaskEdgesModel_within, Cond.static y_MaskEdgesModel_within, Cond.code y_MaskEdgesModel_within prog_8_method_20_code 1 (some .int), Cond.methodLink "MaskEdgesLaw" 42 y_MaskEdgesModel_error, Cond.instanceMethod y_MaskEdgesModel_error, Cond.selects "MaskEdgesModel" y_MaskEdgesModel_error y_MaskEdgesModel_error, Cond.code y_MaskEdgesModel_error prog_8_method_28_code 2 (some .int), Cond.methodLink "MaskEdgesModel" 175 y_MaskEdgesModel_edge, Cond.instanceMethod y_MaskEdgesModel_edge, Cond.selects "MaskEdgesModel" y_MaskEdgesModel_edge y_MaskEdgesModel_edge, Cond.code y_MaskEdgesModel_edge prog_8_method_29_code 3 (some .int), Cond.methodLink "MaskEdgesModel" 178 y_MaskEdgesModel_isPiece, Cond.instanceMethod y_MaskEdgesModel_isPiece, Cond.code y_MaskEdgesModel_isPiece prog_8_method_25_code 2 (some .boolean), Cond.constantLong "MaskEdgesModel" 182 (1000 : Int64), Cond.methodLink "MaskEdgesModel" 172 y_MaskEdgesModel_errorAt, Cond.instanceMethod y_MaskEdgesModel_errorAt, Cond.code y_MaskEdgesModel_errorAt prog_8_method_26_code 10 (some .int), Cond.methodLink "MaskEdgesModel" 169 y_MaskEdgesModel_doesPrint, Cond.instanceMethod y_MaskEdgesModel_doesPrint, Cond.code y_MaskEdgesModel_doesPrint prog_8_method_23_code 4 (some .boolean), Cond.constantLong "MaskEdgesModel" 164 (100 : Int64), Cond.methodLink "MaskEdgesLaw" 68 y_MaskEdgesModel_edge]
def xT_24 : List Cond := [Cond.methodLink "MaskEdgesLaw" 47 y_MaskEdgesModel_run, Cond.instanceMethod y_MaskEdgesModel_run, Cond.selects "MaskEdgesModel" y_MaskEdgesModel_run y_MaskEdgesModel_run, Cond.code y_MaskEdgesModel_run prog_8_method_33_code 7 (some .int), Cond.constantLong "MaskEdgesModel" 187 (100000 : Int64), Cond.constantLong "MaskEdgesModel" 189 (4 : Int64), Cond.methodLink "MaskEdgesModel" 191 y_MaskEdgesModel_worstNow, Cond.instanceMethod y_MaskEdgesModel_worstNow, Cond.code y_MaskEdgesModel_worstNow prog_8_method_27_code 4 (some .int), Cond.methodLink "MaskEdgesModel" 195 y_MaskEdgesModel_moveAll, Cond.instanceMethod y_MaskEdgesModel_moveAll, Cond.code y_MaskEdgesModel_moveAll prog_8_method_31_code 6 (some .boolean), Cond.methodLink "MaskEdgesModel" 184 y_MaskEdgesModel_clamp, Cond.static y_MaskEdgesModel_clamp, Cond.code y_MaskEdgesModel_clamp prog_8_method_30_code 2 (some .int), Cond.methodLink "MaskEdgesModel" 198 y_MaskEdgesModel_moveBack, Cond.instanceMethod y_MaskEdgesModel_moveBack, Cond.code y_MaskEdgesModel_moveBack prog_8_method_32_code 2 none, Cond.methodLink "MaskEdgesLaw" 51 y_MaskEdgesModel_moved, Cond.instanceMethod y_MaskEdgesModel_moved, Cond.selects "MaskEdgesModel" y_MaskEdgesModel_moved y_MaskEdgesModel_moved, Cond.code y_MaskEdgesModel_moved prog_8_method_34_code 2 (some .int), Cond.methodLink "MaskEdgesLaw" 55 y_MaskEdgesModel_worst, Cond.instanceMethod y_MaskEdgesModel_worst, Cond.selects "MaskEdgesModel" y_MaskEdgesModel_worst y_MaskEdgesModel_worst]
def xT_25 : List Cond := [Cond.code y_MaskEdgesModel_worst prog_8_method_35_code 2 (some .int), Cond.methodLink "MaskEdgesLaw" 59 y_MaskEdgesModel_helper, Cond.instanceMethod y_MaskEdgesModel_helper, Cond.selects "MaskEdgesModel" y_MaskEdgesModel_helper y_MaskEdgesModel_helper, Cond.code y_MaskEdgesModel_helper prog_8_method_38_code 5 (some .int), Cond.constantLong "MaskEdgesModel" 205 (8 : Int64), Cond.methodLink "MaskEdgesModel" 207 y_MaskEdgesModel_hasCome, Cond.instanceMethod y_MaskEdgesModel_hasCome, Cond.code y_MaskEdgesModel_hasCome prog_8_method_37_code 12 (some .boolean), Cond.methodLink "MaskEdgesModel" 201 y_MaskEdgesModel_isFree, Cond.instanceMethod y_MaskEdgesModel_isFree, Cond.code y_MaskEdgesModel_isFree prog_8_method_36_code 8 (some .boolean), Cond.methodLink "MaskEdgesLaw" 64 y_MaskEdgesModel_prints, Cond.instanceMethod y_MaskEdgesModel_prints, Cond.selects "MaskEdgesModel" y_MaskEdgesModel_prints y_MaskEdgesModel_prints, Cond.code y_MaskEdgesModel_prints prog_8_method_39_code 6 (some .boolean), Cond.methodLink "MaskEdgesLaw" 72 y_MaskEdgesModel_alike, Cond.instanceMethod y_MaskEdgesModel_alike, Cond.selects "MaskEdgesModel" y_MaskEdgesModel_alike y_MaskEdgesModel_alike, Cond.code y_MaskEdgesModel_alike prog_8_method_40_code 7 (some .boolean), Cond.methodLink "MaskEdgesLaw" 76 y_MaskEdgesModel_shift, Cond.instanceMethod y_MaskEdgesModel_shift, Cond.selects "MaskEdgesModel" y_MaskEdgesModel_shift y_MaskEdgesModel_shift, Cond.code y_MaskEdgesModel_shift prog_8_method_41_code 7 (some .int), Cond.constantLong "MaskEdgesModel" 210 (3 : Int64)]
def xT_26 : List Cond := [Cond.constantLong "MaskEdgesModel" 212 (-6 : Int64), Cond.methodLink "MaskEdgesLaw" 81 y_MaskEdgesModel_is, Cond.instanceMethod y_MaskEdgesModel_is, Cond.selects "MaskEdgesModel" y_MaskEdgesModel_is y_MaskEdgesModel_is, Cond.code y_MaskEdgesModel_is prog_8_method_42_code 4 (some .boolean), Cond.constantLong "MaskEdgesModel" 214 (2 : Int64), Cond.constantLong "MaskEdgesLaw" 18 (4294967295 : Int64)]
def xT : List Cond := xT_0 ++ (xT_1 ++ (xT_2 ++ (xT_3 ++ (xT_4 ++ (xT_5 ++ (xT_6 ++ (xT_7 ++ (xT_8 ++ (xT_9 ++ (xT_10 ++ (xT_11 ++ (xT_12 ++ (xT_13 ++ (xT_14 ++ (xT_15 ++ (xT_16 ++ (xT_17 ++ (xT_18 ++ (xT_19 ++ (xT_20 ++ (xT_21 ++ (xT_22 ++ (xT_23 ++ (xT_24 ++ (xT_25 ++ (xT_26))))))))))))))))))))))))))
theorem xTi_0 : ∀ w ∈ xT_0, w ∈ xT := fun _ h => List.mem_append_left _ h
theorem xTi_1 : ∀ w ∈ xT_1, w ∈ xT := fun _ h => List.mem_append_right _ (List.mem_append_left _ h)
theorem xTi_2 : ∀ w ∈ xT_2, w ∈ xT := fun _ h => List.mem_append_right _ (List.mem_append_right _ (List.mem_append_left _ h))
theorem xTi_3 : ∀ w ∈ xT_3, w ∈ xT := fun _ h => List.mem_append_right _ (List.mem_append_right _ (List.mem_append_right _ (List.mem_append_left _ h)))
theorem xTi_4 : ∀ w ∈ xT_4, w ∈ xT := fun _ h => List.mem_append_right _ (List.mem_append_right _ (List.mem_append_right _ (List.mem_append_right _ (List.mem_append_left _ h))))
theorem xTi_5 : ∀ w ∈ xT_5, w ∈ xT := fun _ h => List.mem_append_right _ (List.mem_append_right _ (List.mem_append_right _ (List.mem_append_right _ (List.mem_append_right _ (List.mem_append_left _ h)))))
theorem xTi_6 : ∀ w ∈ xT_6, w ∈ xT := fun _ h => List.mem_append_right _ (List.mem_append_right _ (List.mem_append_right _ (List.mem_append_right _ (List.mem_append_right _ (List.mem_append_right _ (List.mem_append_left _ h))))))
theorem xTi_7 : ∀ w ∈ xT_7, w ∈ xT := fun _ h => List.mem_append_right _ (List.mem_append_right _ (List.mem_append_right _ (List.mem_append_right _ (List.mem_append_right _ (List.mem_append_right _ (List.mem_append_right _ (List.mem_append_left _ h)))))))
theorem xTi_8 : ∀ w ∈ xT_8, w ∈ xT := fun _ h => List.mem_append_right _ (List.mem_append_right _ (List.mem_append_right _ (List.mem_append_right _ (List.mem_append_right _ (List.mem_append_right _ (List.mem_append_right _ (List.mem_append_right _ (List.mem_append_left _ h))))))))
theorem xTi_9 : ∀ w ∈ xT_9, w ∈ xT := fun _ h => List.mem_append_right _ (List.mem_append_right _ (List.mem_append_right _ (List.mem_append_right _ (List.mem_append_right _ (List.mem_append_right _ (List.mem_append_right _ (List.mem_append_right _ (List.mem_append_right _ (List.mem_append_left _ h)))))))))
theorem xTi_10 : ∀ w ∈ xT_10, w ∈ xT := fun _ h => List.mem_append_right _ (List.mem_append_right _ (List.mem_append_right _ (List.mem_append_right _ (List.mem_append_right _ (List.mem_append_right _ (List.mem_append_right _ (List.mem_append_right _ (List.mem_append_right _ (List.mem_append_right _ (List.mem_append_left _ h))))))))))
theorem xTi_11 : ∀ w ∈ xT_11, w ∈ xT := fun _ h => List.mem_append_right _ (List.mem_append_right _ (List.mem_append_right _ (List.mem_append_right _ (List.mem_append_right _ (List.mem_append_right _ (List.mem_append_right _ (List.mem_append_right _ (List.mem_append_right _ (List.mem_append_right _ (List.mem_append_right _ (List.mem_append_left _ h)))))))))))
theorem xTi_12 : ∀ w ∈ xT_12, w ∈ xT := fun _ h => List.mem_append_right _ (List.mem_append_right _ (List.mem_append_right _ (List.mem_append_right _ (List.mem_append_right _ (List.mem_append_right _ (List.mem_append_right _ (List.mem_append_right _ (List.mem_append_right _ (List.mem_append_right _ (List.mem_append_right _ (List.mem_append_right _ (List.mem_append_left _ h))))))))))))
theorem xTi_13 : ∀ w ∈ xT_13, w ∈ xT := fun _ h => List.mem_append_right _ (List.mem_append_right _ (List.mem_append_right _ (List.mem_append_right _ (List.mem_append_right _ (List.mem_append_right _ (List.mem_append_right _ (List.mem_append_right _ (List.mem_append_right _ (List.mem_append_right _ (List.mem_append_right _ (List.mem_append_right _ (List.mem_append_right _ (List.mem_append_left _ h)))))))))))))
theorem xTi_14 : ∀ w ∈ xT_14, w ∈ xT := fun _ h => List.mem_append_right _ (List.mem_append_right _ (List.mem_append_right _ (List.mem_append_right _ (List.mem_append_right _ (List.mem_append_right _ (List.mem_append_right _ (List.mem_append_right _ (List.mem_append_right _ (List.mem_append_right _ (List.mem_append_right _ (List.mem_append_right _ (List.mem_append_right _ (List.mem_append_right _ (List.mem_append_left _ h))))))))))))))
theorem xTi_15 : ∀ w ∈ xT_15, w ∈ xT := fun _ h => List.mem_append_right _ (List.mem_append_right _ (List.mem_append_right _ (List.mem_append_right _ (List.mem_append_right _ (List.mem_append_right _ (List.mem_append_right _ (List.mem_append_right _ (List.mem_append_right _ (List.mem_append_right _ (List.mem_append_right _ (List.mem_append_right _ (List.mem_append_right _ (List.mem_append_right _ (List.mem_append_right _ (List.mem_append_left _ h)))))))))))))))
theorem xTi_16 : ∀ w ∈ xT_16, w ∈ xT := fun _ h => List.mem_append_right _ (List.mem_append_right _ (List.mem_append_right _ (List.mem_append_right _ (List.mem_append_right _ (List.mem_append_right _ (List.mem_append_right _ (List.mem_append_right _ (List.mem_append_right _ (List.mem_append_right _ (List.mem_append_right _ (List.mem_append_right _ (List.mem_append_right _ (List.mem_append_right _ (List.mem_append_right _ (List.mem_append_right _ (List.mem_append_left _ h))))))))))))))))
theorem xTi_17 : ∀ w ∈ xT_17, w ∈ xT := fun _ h => List.mem_append_right _ (List.mem_append_right _ (List.mem_append_right _ (List.mem_append_right _ (List.mem_append_right _ (List.mem_append_right _ (List.mem_append_right _ (List.mem_append_right _ (List.mem_append_right _ (List.mem_append_right _ (List.mem_append_right _ (List.mem_append_right _ (List.mem_append_right _ (List.mem_append_right _ (List.mem_append_right _ (List.mem_append_right _ (List.mem_append_right _ (List.mem_append_left _ h)))))))))))))))))
theorem xTi_18 : ∀ w ∈ xT_18, w ∈ xT := fun _ h => List.mem_append_right _ (List.mem_append_right _ (List.mem_append_right _ (List.mem_append_right _ (List.mem_append_right _ (List.mem_append_right _ (List.mem_append_right _ (List.mem_append_right _ (List.mem_append_right _ (List.mem_append_right _ (List.mem_append_right _ (List.mem_append_right _ (List.mem_append_right _ (List.mem_append_right _ (List.mem_append_right _ (List.mem_append_right _ (List.mem_append_right _ (List.mem_append_right _ (List.mem_append_left _ h))))))))))))))))))
theorem xTi_19 : ∀ w ∈ xT_19, w ∈ xT := fun _ h => List.mem_append_right _ (List.mem_append_right _ (List.mem_append_right _ (List.mem_append_right _ (List.mem_append_right _ (List.mem_append_right _ (List.mem_append_right _ (List.mem_append_right _ (List.mem_append_right _ (List.mem_append_right _ (List.mem_append_right _ (List.mem_append_right _ (List.mem_append_right _ (List.mem_append_right _ (List.mem_append_right _ (List.mem_append_right _ (List.mem_append_right _ (List.mem_append_right _ (List.mem_append_right _ (List.mem_append_left _ h)))))))))))))))))))
theorem xTi_20 : ∀ w ∈ xT_20, w ∈ xT := fun _ h => List.mem_append_right _ (List.mem_append_right _ (List.mem_append_right _ (List.mem_append_right _ (List.mem_append_right _ (List.mem_append_right _ (List.mem_append_right _ (List.mem_append_right _ (List.mem_append_right _ (List.mem_append_right _ (List.mem_append_right _ (List.mem_append_right _ (List.mem_append_right _ (List.mem_append_right _ (List.mem_append_right _ (List.mem_append_right _ (List.mem_append_right _ (List.mem_append_right _ (List.mem_append_right _ (List.mem_append_right _ (List.mem_append_left _ h))))))))))))))))))))
theorem xTi_21 : ∀ w ∈ xT_21, w ∈ xT := fun _ h => List.mem_append_right _ (List.mem_append_right _ (List.mem_append_right _ (List.mem_append_right _ (List.mem_append_right _ (List.mem_append_right _ (List.mem_append_right _ (List.mem_append_right _ (List.mem_append_right _ (List.mem_append_right _ (List.mem_append_right _ (List.mem_append_right _ (List.mem_append_right _ (List.mem_append_right _ (List.mem_append_right _ (List.mem_append_right _ (List.mem_append_right _ (List.mem_append_right _ (List.mem_append_right _ (List.mem_append_right _ (List.mem_append_right _ (List.mem_append_left _ h)))))))))))))))))))))
theorem xTi_22 : ∀ w ∈ xT_22, w ∈ xT := fun _ h => List.mem_append_right _ (List.mem_append_right _ (List.mem_append_right _ (List.mem_append_right _ (List.mem_append_right _ (List.mem_append_right _ (List.mem_append_right _ (List.mem_append_right _ (List.mem_append_right _ (List.mem_append_right _ (List.mem_append_right _ (List.mem_append_right _ (List.mem_append_right _ (List.mem_append_right _ (List.mem_append_right _ (List.mem_append_right _ (List.mem_append_right _ (List.mem_append_right _ (List.mem_append_right _ (List.mem_append_right _ (List.mem_append_right _ (List.mem_append_right _ (List.mem_append_left _ h))))))))))))))))))))))
theorem xTi_23 : ∀ w ∈ xT_23, w ∈ xT := fun _ h => List.mem_append_right _ (List.mem_append_right _ (List.mem_append_right _ (List.mem_append_right _ (List.mem_append_right _ (List.mem_append_right _ (List.mem_append_right _ (List.mem_append_right _ (List.mem_append_right _ (List.mem_append_right _ (List.mem_append_right _ (List.mem_append_right _ (List.mem_append_right _ (List.mem_append_right _ (List.mem_append_right _ (List.mem_append_right _ (List.mem_append_right _ (List.mem_append_right _ (List.mem_append_right _ (List.mem_append_right _ (List.mem_append_right _ (List.mem_append_right _ (List.mem_append_right _ (List.mem_append_left _ h)))))))))))))))))))))))
theorem xTi_24 : ∀ w ∈ xT_24, w ∈ xT := fun _ h => List.mem_append_right _ (List.mem_append_right _ (List.mem_append_right _ (List.mem_append_right _ (List.mem_append_right _ (List.mem_append_right _ (List.mem_append_right _ (List.mem_append_right _ (List.mem_append_right _ (List.mem_append_right _ (List.mem_append_right _ (List.mem_append_right _ (List.mem_append_right _ (List.mem_append_right _ (List.mem_append_right _ (List.mem_append_right _ (List.mem_append_right _ (List.mem_append_right _ (List.mem_append_right _ (List.mem_append_right _ (List.mem_append_right _ (List.mem_append_right _ (List.mem_append_right _ (List.mem_append_right _ (List.mem_append_left _ h))))))))))))))))))))))))
theorem xTi_25 : ∀ w ∈ xT_25, w ∈ xT := fun _ h => List.mem_append_right _ (List.mem_append_right _ (List.mem_append_right _ (List.mem_append_right _ (List.mem_append_right _ (List.mem_append_right _ (List.mem_append_right _ (List.mem_append_right _ (List.mem_append_right _ (List.mem_append_right _ (List.mem_append_right _ (List.mem_append_right _ (List.mem_append_right _ (List.mem_append_right _ (List.mem_append_right _ (List.mem_append_right _ (List.mem_append_right _ (List.mem_append_right _ (List.mem_append_right _ (List.mem_append_right _ (List.mem_append_right _ (List.mem_append_right _ (List.mem_append_right _ (List.mem_append_right _ (List.mem_append_right _ (List.mem_append_left _ h)))))))))))))))))))))))))
theorem xTi_26 : ∀ w ∈ xT_26, w ∈ xT := fun _ h => List.mem_append_right _ (List.mem_append_right _ (List.mem_append_right _ (List.mem_append_right _ (List.mem_append_right _ (List.mem_append_right _ (List.mem_append_right _ (List.mem_append_right _ (List.mem_append_right _ (List.mem_append_right _ (List.mem_append_right _ (List.mem_append_right _ (List.mem_append_right _ (List.mem_append_right _ (List.mem_append_right _ (List.mem_append_right _ (List.mem_append_right _ (List.mem_append_right _ (List.mem_append_right _ (List.mem_append_right _ (List.mem_append_right _ (List.mem_append_right _ (List.mem_append_right _ (List.mem_append_right _ (List.mem_append_right _ (List.mem_append_right _ (h))))))))))))))))))))))))))
set_option maxRecDepth 100000 in
theorem xTg_0 : GoodIn lw_tbl xT_0 := xgoodIn xT_0 [0, 1, 2, 3, 4, 5, 6, 7, 8, 9, 10, 11, 12, 13, 14, 15, 16, 17, 18, 19, 20, 21, 22, 23, 24] rfl (by decide +kernel)
set_option maxRecDepth 100000 in
theorem xTg_1 : GoodIn lw_tbl xT_1 := xgoodIn xT_1 [25, 26, 27, 28, 29, 30, 31, 32, 33, 34, 35, 36, 37, 38, 39, 40, 41, 42, 43, 44, 45, 46, 47, 48, 49] rfl (by decide +kernel)
set_option maxRecDepth 100000 in
theorem xTg_2 : GoodIn lw_tbl xT_2 := xgoodIn xT_2 [50, 51, 52, 53, 54, 56, 58, 60, 61, 63, 64, 65, 66, 67, 70, 71, 72, 73, 75, 76, 77, 78, 79, 80, 81] rfl (by decide +kernel)
set_option maxRecDepth 100000 in
theorem xTg_3 : GoodIn lw_tbl xT_3 := xgoodIn xT_3 [82, 83, 85, 87, 89, 92, 94, 95, 96, 97, 98, 99, 100, 101, 102, 103, 104, 105, 106, 107, 108, 109, 111, 113, 115] rfl (by decide +kernel)
set_option maxRecDepth 100000 in
theorem xTg_4 : GoodIn lw_tbl xT_4 := xgoodIn xT_4 [118, 120, 121, 122, 123, 124, 125, 126, 127, 128, 129, 130, 131, 133, 135, 137, 140, 142, 143, 144, 145, 146, 147, 148, 149] rfl (by decide +kernel)
set_option maxRecDepth 100000 in
theorem xTg_5 : GoodIn lw_tbl xT_5 := xgoodIn xT_5 [150, 151, 152, 153, 154, 155, 156, 157, 158, 159, 160, 161, 162, 163, 164, 165, 166, 167, 168, 170, 172, 174, 176, 178, 180] rfl (by decide +kernel)
set_option maxRecDepth 100000 in
theorem xTg_6 : GoodIn lw_tbl xT_6 := xgoodIn xT_6 [182, 184, 186, 188, 190, 193, 194, 195, 196, 197, 198, 199, 200, 201, 202, 203, 204, 205, 206, 207, 209, 211, 213, 215, 217] rfl (by decide +kernel)
set_option maxRecDepth 100000 in
theorem xTg_7 : GoodIn lw_tbl xT_7 := xgoodIn xT_7 [219, 221, 223, 225, 227, 229, 231, 233, 236, 237, 238, 239, 240, 241, 242, 243, 244, 245, 246, 247, 248, 249, 251, 252, 253] rfl (by decide +kernel)
set_option maxRecDepth 100000 in
theorem xTg_8 : GoodIn lw_tbl xT_8 := xgoodIn xT_8 [254, 255, 256, 257, 258, 259, 260, 261, 263, 264, 265, 266, 267, 268, 269, 270, 271, 272, 273, 274, 275, 276, 277, 278, 280] rfl (by decide +kernel)
set_option maxRecDepth 100000 in
theorem xTg_9 : GoodIn lw_tbl xT_9 := xgoodIn xT_9 [281, 282, 284, 285, 286, 287, 288, 289, 290, 292, 293, 294, 295, 296, 297, 298, 299, 300, 301, 302, 303, 305, 306, 307, 308] rfl (by decide +kernel)
set_option maxRecDepth 100000 in
theorem xTg_10 : GoodIn lw_tbl xT_10 := xgoodIn xT_10 [309, 310, 311, 312, 313, 314, 315, 316, 317, 318, 319, 320, 321, 322, 323, 324, 325, 326, 327, 328, 329, 330, 331, 332, 333] rfl (by decide +kernel)
set_option maxRecDepth 100000 in
theorem xTg_11 : GoodIn lw_tbl xT_11 := xgoodIn xT_11 [335, 336, 337, 338, 339, 340, 341, 342, 343, 344, 345, 346, 347, 348, 349, 350, 351, 352, 354, 355, 356, 357, 358, 359, 360] rfl (by decide +kernel)
set_option maxRecDepth 100000 in
theorem xTg_12 : GoodIn lw_tbl xT_12 := xgoodIn xT_12 [361, 362, 363, 364, 365, 366, 367, 368, 369, 371, 372, 373, 374, 375, 376, 377, 378, 379, 380, 381, 382, 383, 384, 385, 386] rfl (by decide +kernel)
set_option maxRecDepth 100000 in
theorem xTg_13 : GoodIn lw_tbl xT_13 := xgoodIn xT_13 [387, 388, 389, 390, 391, 392, 393, 394, 395, 396, 397, 399, 400, 401, 403, 404, 405, 406, 407, 408, 409, 410, 411, 412, 414] rfl (by decide +kernel)
set_option maxRecDepth 100000 in
theorem xTg_14 : GoodIn lw_tbl xT_14 := xgoodIn xT_14 [415, 416, 417, 418, 419, 420, 422, 423, 424, 425, 426, 428, 429, 430, 431, 432, 433, 434, 435, 436, 437, 438, 440, 442, 443] rfl (by decide +kernel)
set_option maxRecDepth 100000 in
theorem xTg_15 : GoodIn lw_tbl xT_15 := xgoodIn xT_15 [444, 445, 446, 447, 448, 449, 450, 451, 452, 453, 454, 455, 456, 457, 458, 459, 460, 462, 463, 464, 465, 466, 467, 468, 469] rfl (by decide +kernel)
set_option maxRecDepth 100000 in
theorem xTg_16 : GoodIn lw_tbl xT_16 := xgoodIn xT_16 [470, 471, 472, 473, 474, 475, 476, 477, 478, 479, 480, 481, 482, 483, 484, 485, 486, 487, 488, 489, 490, 491, 492, 494, 495] rfl (by decide +kernel)
set_option maxRecDepth 100000 in
theorem xTg_17 : GoodIn lw_tbl xT_17 := xgoodIn xT_17 [496, 497, 498, 499, 500, 501, 502, 503, 504, 505, 506, 507, 508, 509, 510, 511, 512, 513, 514, 515, 516, 517, 518, 519, 520] rfl (by decide +kernel)
set_option maxRecDepth 100000 in
theorem xTg_18 : GoodIn lw_tbl xT_18 := xgoodIn xT_18 [521, 522, 523, 524, 525, 526, 527, 528, 529, 530, 531, 532, 533, 534, 535, 536, 537, 538, 539, 540, 541, 542, 543, 544, 545] rfl (by decide +kernel)
set_option maxRecDepth 100000 in
theorem xTg_19 : GoodIn lw_tbl xT_19 := xgoodIn xT_19 [546, 548, 550, 552, 554, 556, 558, 560, 562, 564, 566, 568, 570, 572, 574, 576, 578, 580, 582, 584, 586, 588, 590, 592, 594] rfl (by decide +kernel)
set_option maxRecDepth 100000 in
theorem xTg_20 : GoodIn lw_tbl xT_20 := xgoodIn xT_20 [596, 598, 600, 603, 604, 605, 606, 607, 608, 609, 610, 611, 612, 613, 614, 615, 616, 618, 619, 620, 621, 622, 623, 624, 625] rfl (by decide +kernel)
set_option maxRecDepth 100000 in
theorem xTg_21 : GoodIn lw_tbl xT_21 := xgoodIn xT_21 [626, 627, 628, 629, 630, 631, 633, 634, 635, 637, 638, 639, 641, 642, 643, 645, 646, 647, 649, 650, 651, 653, 654, 655, 657] rfl (by decide +kernel)
set_option maxRecDepth 100000 in
theorem xTg_22 : GoodIn lw_tbl xT_22 := xgoodIn xT_22 [658, 659, 660, 661, 662, 663, 664, 665, 666, 667, 669, 670, 671, 673, 674, 675, 677, 678, 679, 681, 682, 683, 685, 686, 687] rfl (by decide +kernel)
set_option maxRecDepth 100000 in
theorem xTg_23 : GoodIn lw_tbl xT_23 := xgoodIn xT_23 [689, 690, 691, 692, 693, 694, 695, 696, 697, 698, 699, 700, 701, 702, 704, 705, 706, 707, 709, 710, 711, 713, 714, 715, 716] rfl (by decide +kernel)
set_option maxRecDepth 100000 in
theorem xTg_24 : GoodIn lw_tbl xT_24 := xgoodIn xT_24 [717, 718, 719, 720, 721, 722, 723, 725, 726, 727, 729, 730, 731, 732, 733, 734, 736, 737, 738, 739, 740, 741, 742, 743, 744] rfl (by decide +kernel)
set_option maxRecDepth 100000 in
theorem xTg_25 : GoodIn lw_tbl xT_25 := xgoodIn xT_25 [745, 746, 747, 748, 749, 750, 751, 753, 754, 755, 757, 758, 759, 760, 761, 762, 763, 764, 765, 766, 767, 768, 769, 770, 771] rfl (by decide +kernel)
set_option maxRecDepth 100000 in
theorem xTg_26 : GoodIn lw_tbl xT_26 := xgoodIn xT_26 [772, 773, 774, 775, 776, 777, 778] rfl (by decide +kernel)
theorem xTg : GoodIn lw_tbl xT := xgood_app xTg_0 (xgood_app xTg_1 (xgood_app xTg_2 (xgood_app xTg_3 (xgood_app xTg_4 (xgood_app xTg_5 (xgood_app xTg_6 (xgood_app xTg_7 (xgood_app xTg_8 (xgood_app xTg_9 (xgood_app xTg_10 (xgood_app xTg_11 (xgood_app xTg_12 (xgood_app xTg_13 (xgood_app xTg_14 (xgood_app xTg_15 (xgood_app xTg_16 (xgood_app xTg_17 (xgood_app xTg_18 (xgood_app xTg_19 (xgood_app xTg_20 (xgood_app xTg_21 (xgood_app xTg_22 (xgood_app xTg_23 (xgood_app xTg_24 (xgood_app xTg_25 (xTg_26))))))))))))))))))))))))))
theorem xw_0 : Cond.selects "MaskEdges$Outline" y_Outline_maySideGoTo y_Outline_maySideGoTo ∈ xT := xTi_0 _ (List.mem_of_getElem? (i := 0) rfl)
theorem xw_1 : Cond.selects "MaskEdges" y_MaskEdges_addToTarget y_MaskEdges_addToTarget ∈ xT := xTi_0 _ (List.mem_of_getElem? (i := 1) rfl)
theorem xw_2 : Cond.selects "MaskEdges" y_MaskEdges_renewMask y_MaskEdges_renewMask ∈ xT := xTi_0 _ (List.mem_of_getElem? (i := 2) rfl)
theorem xw_3 : Cond.selects "MaskEdges" y_MaskEdges_applyMove y_MaskEdges_applyMove ∈ xT := xTi_0 _ (List.mem_of_getElem? (i := 3) rfl)
theorem xw_4 : Cond.selects "MaskEdges" y_MaskEdges_piecesFor y_MaskEdges_piecesFor ∈ xT := xTi_0 _ (List.mem_of_getElem? (i := 4) rfl)
theorem xw_5 : Cond.selects "MaskEdges" y_MaskEdges_cutOutline y_MaskEdges_cutOutline ∈ xT := xTi_0 _ (List.mem_of_getElem? (i := 5) rfl)
theorem xw_6 : Cond.selects "MaskEdges$Piece" y_Piece_faceOutward y_Piece_faceOutward ∈ xT := xTi_0 _ (List.mem_of_getElem? (i := 6) rfl)
theorem xw_7 : Cond.selects "MaskEdges" y_MaskEdges_isPiece y_MaskEdges_isPiece ∈ xT := xTi_0 _ (List.mem_of_getElem? (i := 7) rfl)
theorem xw_8 : Cond.selects "MaskEdges" y_MaskEdges_errorOf y_MaskEdges_errorOf ∈ xT := xTi_0 _ (List.mem_of_getElem? (i := 8) rfl)
theorem xw_9 : Cond.selects "MaskEdges" y_MaskEdges_worstError y_MaskEdges_worstError ∈ xT := xTi_0 _ (List.mem_of_getElem? (i := 9) rfl)
theorem xw_10 : Cond.selects "MaskEdges" y_MaskEdges_moveAgainstErrors y_MaskEdges_moveAgainstErrors ∈ xT := xTi_0 _ (List.mem_of_getElem? (i := 10) rfl)
theorem xw_11 : Cond.selects "MaskEdges" y_MaskEdges_takeMovesBack y_MaskEdges_takeMovesBack ∈ xT := xTi_0 _ (List.mem_of_getElem? (i := 11) rfl)
theorem xw_12 : Cond.selects "MaskEdges" y_MaskEdges_placeBar y_MaskEdges_placeBar ∈ xT := xTi_0 _ (List.mem_of_getElem? (i := 12) rfl)
theorem xw_13 : Cond.selects "MaskEdges" y_MaskEdges_sameTargetAround y_MaskEdges_sameTargetAround ∈ xT := xTi_0 _ (List.mem_of_getElem? (i := 13) rfl)
theorem xw_14 : Cond.selects "MaskEdgesModel" y_MaskEdgesModel_goesAlongX y_MaskEdgesModel_goesAlongX ∈ xT := xTi_0 _ (List.mem_of_getElem? (i := 14) rfl)
theorem xw_15 : Cond.selects "MaskEdgesModel" y_MaskEdgesModel_hasClosed y_MaskEdgesModel_hasClosed ∈ xT := xTi_0 _ (List.mem_of_getElem? (i := 15) rfl)
theorem xw_16 : Cond.selects "MaskEdgesModel" y_MaskEdgesModel_lengthOf y_MaskEdgesModel_lengthOf ∈ xT := xTi_0 _ (List.mem_of_getElem? (i := 16) rfl)
theorem xw_17 : Cond.selects "MaskEdgesModel" y_MaskEdgesModel_addPieces y_MaskEdgesModel_addPieces ∈ xT := xTi_0 _ (List.mem_of_getElem? (i := 17) rfl)
theorem xw_18 : Cond.selects "MaskEdgesModel" y_MaskEdgesModel_besideX y_MaskEdgesModel_besideX ∈ xT := xTi_0 _ (List.mem_of_getElem? (i := 18) rfl)
theorem xw_19 : Cond.selects "MaskEdgesModel" y_MaskEdgesModel_middle y_MaskEdgesModel_middle ∈ xT := xTi_0 _ (List.mem_of_getElem? (i := 19) rfl)
theorem xw_20 : Cond.selects "MaskEdgesModel" y_MaskEdgesModel_besideY y_MaskEdgesModel_besideY ∈ xT := xTi_0 _ (List.mem_of_getElem? (i := 20) rfl)
theorem xw_21 : Cond.selects "MaskEdgesModel" y_MaskEdgesModel_isIn y_MaskEdgesModel_isIn ∈ xT := xTi_0 _ (List.mem_of_getElem? (i := 21) rfl)
theorem xw_22 : Cond.selects "MaskEdgesModel" y_MaskEdgesModel_make y_MaskEdgesModel_make ∈ xT := xTi_0 _ (List.mem_of_getElem? (i := 22) rfl)
theorem xw_23 : Cond.selects "MaskEdgesModel" y_MaskEdgesModel_isTarget y_MaskEdgesModel_isTarget ∈ xT := xTi_0 _ (List.mem_of_getElem? (i := 23) rfl)
theorem xw_24 : Cond.selects "MaskEdgesModel" y_MaskEdgesModel_putPiece y_MaskEdgesModel_putPiece ∈ xT := xTi_0 _ (List.mem_of_getElem? (i := 24) rfl)
theorem xw_25 : Cond.selects "MaskEdgesModel" y_MaskEdgesModel_put y_MaskEdgesModel_put ∈ xT := xTi_1 _ (List.mem_of_getElem? (i := 0) rfl)
theorem xw_26 : Cond.selects "MaskEdgesModel" y_MaskEdgesModel_imageAt y_MaskEdgesModel_imageAt ∈ xT := xTi_1 _ (List.mem_of_getElem? (i := 1) rfl)
theorem xw_27 : Cond.selects "MaskEdgesModel" y_MaskEdgesModel_countAt y_MaskEdgesModel_countAt ∈ xT := xTi_1 _ (List.mem_of_getElem? (i := 2) rfl)
theorem xw_28 : Cond.selects "MaskEdgesModel" y_MaskEdgesModel_isPiece y_MaskEdgesModel_isPiece ∈ xT := xTi_1 _ (List.mem_of_getElem? (i := 3) rfl)
theorem xw_29 : Cond.selects "MaskEdgesModel" y_MaskEdgesModel_errorAt y_MaskEdgesModel_errorAt ∈ xT := xTi_1 _ (List.mem_of_getElem? (i := 4) rfl)
theorem xw_30 : Cond.selects "MaskEdgesModel" y_MaskEdgesModel_doesPrint y_MaskEdgesModel_doesPrint ∈ xT := xTi_1 _ (List.mem_of_getElem? (i := 5) rfl)
theorem xw_31 : Cond.selects "MaskEdgesModel" y_MaskEdgesModel_worstNow y_MaskEdgesModel_worstNow ∈ xT := xTi_1 _ (List.mem_of_getElem? (i := 6) rfl)
theorem xw_32 : Cond.selects "MaskEdgesModel" y_MaskEdgesModel_moveAll y_MaskEdgesModel_moveAll ∈ xT := xTi_1 _ (List.mem_of_getElem? (i := 7) rfl)
theorem xw_33 : Cond.selects "MaskEdgesModel" y_MaskEdgesModel_moveBack y_MaskEdgesModel_moveBack ∈ xT := xTi_1 _ (List.mem_of_getElem? (i := 8) rfl)
theorem xw_34 : Cond.selects "MaskEdgesModel" y_MaskEdgesModel_hasCome y_MaskEdgesModel_hasCome ∈ xT := xTi_1 _ (List.mem_of_getElem? (i := 9) rfl)
theorem xw_35 : Cond.selects "MaskEdgesModel" y_MaskEdgesModel_isFree y_MaskEdgesModel_isFree ∈ xT := xTi_1 _ (List.mem_of_getElem? (i := 10) rfl)
theorem xw_36 : Cond.initialized "MaskEdgesLaw" ∈ xT := xTi_1 _ (List.mem_of_getElem? (i := 11) rfl)
theorem xw_37 : Cond.initialized "MaskEdges" ∈ xT := xTi_1 _ (List.mem_of_getElem? (i := 12) rfl)
theorem xw_38 : Cond.initialized "MaskEdges$CellSet" ∈ xT := xTi_1 _ (List.mem_of_getElem? (i := 13) rfl)
theorem xw_39 : Cond.initialized "MaskEdges$Exposure" ∈ xT := xTi_1 _ (List.mem_of_getElem? (i := 14) rfl)
theorem xw_40 : Cond.initialized "MaskEdges$Box" ∈ xT := xTi_1 _ (List.mem_of_getElem? (i := 15) rfl)
theorem xw_41 : Cond.initialized "MaskEdges$Outline" ∈ xT := xTi_1 _ (List.mem_of_getElem? (i := 16) rfl)
theorem xw_42 : Cond.initialized "MaskEdges$Piece" ∈ xT := xTi_1 _ (List.mem_of_getElem? (i := 17) rfl)
theorem xw_43 : Cond.initialized "MaskEdgesModel" ∈ xT := xTi_1 _ (List.mem_of_getElem? (i := 18) rfl)
theorem xw_44 : Cond.initialized "java/lang/Math" ∈ xT := xTi_1 _ (List.mem_of_getElem? (i := 19) rfl)
theorem xw_45 : Cond.initialized "java/lang/Long" ∈ xT := xTi_1 _ (List.mem_of_getElem? (i := 20) rfl)
theorem xw_46 : Cond.classLink "MaskEdgesLaw" 7 "MaskEdges" ∈ xT := xTi_1 _ (List.mem_of_getElem? (i := 21) rfl)
theorem xw_47 : Cond.instantiable "MaskEdges" 14 ∈ xT := xTi_1 _ (List.mem_of_getElem? (i := 22) rfl)
theorem xw_48 : Cond.methodLink "MaskEdgesLaw" 9 y_MaskEdges_init ∈ xT := xTi_1 _ (List.mem_of_getElem? (i := 23) rfl)
theorem xw_49 : Cond.instanceMethod y_MaskEdges_init ∈ xT := xTi_1 _ (List.mem_of_getElem? (i := 24) rfl)
theorem xw_50 : Cond.code y_MaskEdges_init prog_1_method_1_code 2 none ∈ xT := xTi_2 _ (List.mem_of_getElem? (i := 0) rfl)
theorem xw_51 : Cond.methodLink "MaskEdges" 1 y_Object_init ∈ xT := xTi_2 _ (List.mem_of_getElem? (i := 1) rfl)
theorem xw_52 : Cond.instanceMethod y_Object_init ∈ xT := xTi_2 _ (List.mem_of_getElem? (i := 2) rfl)
theorem xw_53 : Cond.code y_Object_init object_method_1_code 1 none ∈ xT := xTi_2 _ (List.mem_of_getElem? (i := 3) rfl)
theorem xw_54 : Cond.classLink "MaskEdges" 9 "MaskEdges$Outline" ∈ xT := xTi_2 _ (List.mem_of_getElem? (i := 4) rfl)
theorem xw_55 : Cond.classLink "MaskEdges" 15 "MaskEdges$Piece" ∈ xT := xTi_2 _ (List.mem_of_getElem? (i := 5) rfl)
theorem xw_56 : Cond.classLink "MaskEdges" 25 "MaskEdges$Box" ∈ xT := xTi_2 _ (List.mem_of_getElem? (i := 6) rfl)
theorem xw_57 : Cond.classLink "MaskEdges" 31 "MaskEdges$CellSet" ∈ xT := xTi_2 _ (List.mem_of_getElem? (i := 7) rfl)
theorem xw_58 : Cond.instantiable "MaskEdges$CellSet" 1 ∈ xT := xTi_2 _ (List.mem_of_getElem? (i := 8) rfl)
theorem xw_59 : Cond.instanceMethod y_CellSet_init ∈ xT := xTi_2 _ (List.mem_of_getElem? (i := 9) rfl)
theorem xw_60 : Cond.code y_CellSet_init prog_3_method_1_code 1 none ∈ xT := xTi_2 _ (List.mem_of_getElem? (i := 10) rfl)
theorem xw_61 : Cond.methodLink "MaskEdges$CellSet" 3 y_Object_init ∈ xT := xTi_2 _ (List.mem_of_getElem? (i := 11) rfl)
theorem xw_62 : Cond.fieldLink "MaskEdges$CellSet" 9 "MaskEdges$CellSet" "rows" "[J" ∈ xT := xTi_2 _ (List.mem_of_getElem? (i := 12) rfl)
theorem xw_63 : Cond.laysFinal "MaskEdges$CellSet" "MaskEdges$CellSet" "rows" "[J" ∈ xT := xTi_2 _ (List.mem_of_getElem? (i := 13) rfl)
theorem xw_64 : Cond.arrayClass .int ∈ xT := xTi_2 _ (List.mem_of_getElem? (i := 14) rfl)
theorem xw_65 : Cond.arrayClass .long ∈ xT := xTi_2 _ (List.mem_of_getElem? (i := 15) rfl)
theorem xw_66 : Cond.classLink "MaskEdges" 44 "MaskEdges$Exposure" ∈ xT := xTi_2 _ (List.mem_of_getElem? (i := 16) rfl)
theorem xw_67 : Cond.instantiable "MaskEdges$Exposure" 4 ∈ xT := xTi_2 _ (List.mem_of_getElem? (i := 17) rfl)
theorem xw_68 : Cond.instanceMethod y_Exposure_init ∈ xT := xTi_2 _ (List.mem_of_getElem? (i := 18) rfl)
theorem xw_69 : Cond.code y_Exposure_init prog_4_method_1_code 1 none ∈ xT := xTi_2 _ (List.mem_of_getElem? (i := 19) rfl)
theorem xw_70 : Cond.methodLink "MaskEdges$Exposure" 3 y_Object_init ∈ xT := xTi_2 _ (List.mem_of_getElem? (i := 20) rfl)
theorem xw_71 : Cond.fieldLink "MaskEdges$Exposure" 9 "MaskEdges$Exposure" "weights" "[I" ∈ xT := xTi_2 _ (List.mem_of_getElem? (i := 21) rfl)
theorem xw_72 : Cond.fieldLink "MaskEdges$Exposure" 15 "MaskEdges$Exposure" "widths" "[I" ∈ xT := xTi_2 _ (List.mem_of_getElem? (i := 22) rfl)
theorem xw_73 : Cond.fieldLink "MaskEdges$Exposure" 22 "MaskEdges$Exposure" "kernels" "I" ∈ xT := xTi_2 _ (List.mem_of_getElem? (i := 23) rfl)
theorem xw_74 : Cond.fieldLink "MaskEdges$Exposure" 18 "MaskEdges$Exposure" "threshold" "I" ∈ xT := xTi_2 _ (List.mem_of_getElem? (i := 24) rfl)
theorem xw_75 : Cond.fieldLink "MaskEdges" 117 "MaskEdges$Exposure" "threshold" "I" ∈ xT := xTi_3 _ (List.mem_of_getElem? (i := 0) rfl)
theorem xw_76 : Cond.laysFinal "MaskEdges$Exposure" "MaskEdges$Exposure" "weights" "[I" ∈ xT := xTi_3 _ (List.mem_of_getElem? (i := 1) rfl)
theorem xw_77 : Cond.laysFinal "MaskEdges$Exposure" "MaskEdges$Exposure" "widths" "[I" ∈ xT := xTi_3 _ (List.mem_of_getElem? (i := 2) rfl)
theorem xw_78 : Cond.lays "MaskEdges$Exposure" "MaskEdges$Exposure" "kernels" "I" ∈ xT := xTi_3 _ (List.mem_of_getElem? (i := 3) rfl)
theorem xw_79 : Cond.lays "MaskEdges$Exposure" "MaskEdges$Exposure" "threshold" "I" ∈ xT := xTi_3 _ (List.mem_of_getElem? (i := 4) rfl)
theorem xw_80 : Cond.instantiable "MaskEdges$Box" 4 ∈ xT := xTi_3 _ (List.mem_of_getElem? (i := 5) rfl)
theorem xw_81 : Cond.instanceMethod y_Box_init ∈ xT := xTi_3 _ (List.mem_of_getElem? (i := 6) rfl)
theorem xw_82 : Cond.code y_Box_init prog_2_method_1_code 1 none ∈ xT := xTi_3 _ (List.mem_of_getElem? (i := 7) rfl)
theorem xw_83 : Cond.methodLink "MaskEdges$Box" 3 y_Object_init ∈ xT := xTi_3 _ (List.mem_of_getElem? (i := 8) rfl)
theorem xw_84 : Cond.fieldLink "MaskEdges$Box" 28 "MaskEdges$Box" "left" "I" ∈ xT := xTi_3 _ (List.mem_of_getElem? (i := 9) rfl)
theorem xw_85 : Cond.fieldLink "MaskEdges$CellSet" 19 "MaskEdges$Box" "left" "I" ∈ xT := xTi_3 _ (List.mem_of_getElem? (i := 10) rfl)
theorem xw_86 : Cond.fieldLink "MaskEdges" 153 "MaskEdges$Box" "left" "I" ∈ xT := xTi_3 _ (List.mem_of_getElem? (i := 11) rfl)
theorem xw_87 : Cond.fieldLink "MaskEdges$Box" 36 "MaskEdges$Box" "top" "I" ∈ xT := xTi_3 _ (List.mem_of_getElem? (i := 12) rfl)
theorem xw_88 : Cond.fieldLink "MaskEdges$CellSet" 41 "MaskEdges$Box" "top" "I" ∈ xT := xTi_3 _ (List.mem_of_getElem? (i := 13) rfl)
theorem xw_89 : Cond.fieldLink "MaskEdges" 147 "MaskEdges$Box" "top" "I" ∈ xT := xTi_3 _ (List.mem_of_getElem? (i := 14) rfl)
theorem xw_90 : Cond.fieldLink "MaskEdges$Box" 33 "MaskEdges$Box" "right" "I" ∈ xT := xTi_3 _ (List.mem_of_getElem? (i := 15) rfl)
theorem xw_91 : Cond.fieldLink "MaskEdges$CellSet" 25 "MaskEdges$Box" "right" "I" ∈ xT := xTi_3 _ (List.mem_of_getElem? (i := 16) rfl)
theorem xw_92 : Cond.fieldLink "MaskEdges" 156 "MaskEdges$Box" "right" "I" ∈ xT := xTi_3 _ (List.mem_of_getElem? (i := 17) rfl)
theorem xw_93 : Cond.fieldLink "MaskEdges$Box" 39 "MaskEdges$Box" "bottom" "I" ∈ xT := xTi_3 _ (List.mem_of_getElem? (i := 18) rfl)
theorem xw_94 : Cond.fieldLink "MaskEdges$CellSet" 32 "MaskEdges$Box" "bottom" "I" ∈ xT := xTi_3 _ (List.mem_of_getElem? (i := 19) rfl)
theorem xw_95 : Cond.fieldLink "MaskEdges" 150 "MaskEdges$Box" "bottom" "I" ∈ xT := xTi_3 _ (List.mem_of_getElem? (i := 20) rfl)
theorem xw_96 : Cond.lays "MaskEdges$Box" "MaskEdges$Box" "left" "I" ∈ xT := xTi_3 _ (List.mem_of_getElem? (i := 21) rfl)
theorem xw_97 : Cond.lays "MaskEdges$Box" "MaskEdges$Box" "top" "I" ∈ xT := xTi_3 _ (List.mem_of_getElem? (i := 22) rfl)
theorem xw_98 : Cond.lays "MaskEdges$Box" "MaskEdges$Box" "right" "I" ∈ xT := xTi_3 _ (List.mem_of_getElem? (i := 23) rfl)
theorem xw_99 : Cond.lays "MaskEdges$Box" "MaskEdges$Box" "bottom" "I" ∈ xT := xTi_3 _ (List.mem_of_getElem? (i := 24) rfl)
theorem xw_100 : Cond.instantiable "MaskEdges$Outline" 4 ∈ xT := xTi_4 _ (List.mem_of_getElem? (i := 0) rfl)
theorem xw_101 : Cond.instanceMethod y_Outline_init ∈ xT := xTi_4 _ (List.mem_of_getElem? (i := 1) rfl)
theorem xw_102 : Cond.code y_Outline_init prog_5_method_1_code 1 none ∈ xT := xTi_4 _ (List.mem_of_getElem? (i := 2) rfl)
theorem xw_103 : Cond.methodLink "MaskEdges$Outline" 3 y_Object_init ∈ xT := xTi_4 _ (List.mem_of_getElem? (i := 3) rfl)
theorem xw_104 : Cond.fieldLink "MaskEdges$Outline" 9 "MaskEdges$Outline" "xs" "[I" ∈ xT := xTi_4 _ (List.mem_of_getElem? (i := 4) rfl)
theorem xw_105 : Cond.fieldLink "MaskEdges$Piece" 32 "MaskEdges$Outline" "xs" "[I" ∈ xT := xTi_4 _ (List.mem_of_getElem? (i := 5) rfl)
theorem xw_106 : Cond.fieldLink "MaskEdges$Outline" 15 "MaskEdges$Outline" "ys" "[I" ∈ xT := xTi_4 _ (List.mem_of_getElem? (i := 6) rfl)
theorem xw_107 : Cond.fieldLink "MaskEdges$Piece" 28 "MaskEdges$Outline" "ys" "[I" ∈ xT := xTi_4 _ (List.mem_of_getElem? (i := 7) rfl)
theorem xw_108 : Cond.fieldLink "MaskEdges$Outline" 26 "MaskEdges$Outline" "corners" "I" ∈ xT := xTi_4 _ (List.mem_of_getElem? (i := 8) rfl)
theorem xw_109 : Cond.fieldLink "MaskEdges" 229 "MaskEdges$Outline" "corners" "I" ∈ xT := xTi_4 _ (List.mem_of_getElem? (i := 9) rfl)
theorem xw_110 : Cond.fieldLink "MaskEdges$Outline" 18 "MaskEdges$Outline" "closed" "Z" ∈ xT := xTi_4 _ (List.mem_of_getElem? (i := 10) rfl)
theorem xw_111 : Cond.fieldLink "MaskEdges" 74 "MaskEdges$Outline" "closed" "Z" ∈ xT := xTi_4 _ (List.mem_of_getElem? (i := 11) rfl)
theorem xw_112 : Cond.laysFinal "MaskEdges$Outline" "MaskEdges$Outline" "xs" "[I" ∈ xT := xTi_4 _ (List.mem_of_getElem? (i := 12) rfl)
theorem xw_113 : Cond.laysFinal "MaskEdges$Outline" "MaskEdges$Outline" "ys" "[I" ∈ xT := xTi_4 _ (List.mem_of_getElem? (i := 13) rfl)
theorem xw_114 : Cond.lays "MaskEdges$Outline" "MaskEdges$Outline" "corners" "I" ∈ xT := xTi_4 _ (List.mem_of_getElem? (i := 14) rfl)
theorem xw_115 : Cond.lays "MaskEdges$Outline" "MaskEdges$Outline" "closed" "Z" ∈ xT := xTi_4 _ (List.mem_of_getElem? (i := 15) rfl)
theorem xw_116 : Cond.instantiable "MaskEdges$Piece" 12 ∈ xT := xTi_4 _ (List.mem_of_getElem? (i := 16) rfl)
theorem xw_117 : Cond.instanceMethod y_Piece_init ∈ xT := xTi_4 _ (List.mem_of_getElem? (i := 17) rfl)
theorem xw_118 : Cond.code y_Piece_init prog_6_method_1_code 1 none ∈ xT := xTi_4 _ (List.mem_of_getElem? (i := 18) rfl)
theorem xw_119 : Cond.methodLink "MaskEdges$Piece" 3 y_Object_init ∈ xT := xTi_4 _ (List.mem_of_getElem? (i := 19) rfl)
theorem xw_120 : Cond.fieldLink "MaskEdges$Piece" 22 "MaskEdges$Piece" "alongX" "Z" ∈ xT := xTi_4 _ (List.mem_of_getElem? (i := 20) rfl)
theorem xw_121 : Cond.fieldLink "MaskEdges$Box" 24 "MaskEdges$Piece" "alongX" "Z" ∈ xT := xTi_4 _ (List.mem_of_getElem? (i := 21) rfl)
theorem xw_122 : Cond.fieldLink "MaskEdges" 245 "MaskEdges$Piece" "alongX" "Z" ∈ xT := xTi_4 _ (List.mem_of_getElem? (i := 22) rfl)
theorem xw_123 : Cond.fieldLink "MaskEdges$Box" 9 "MaskEdges$Piece" "line" "I" ∈ xT := xTi_4 _ (List.mem_of_getElem? (i := 23) rfl)
theorem xw_124 : Cond.fieldLink "MaskEdges$Piece" 35 "MaskEdges$Piece" "line" "I" ∈ xT := xTi_4 _ (List.mem_of_getElem? (i := 24) rfl)
theorem xw_125 : Cond.fieldLink "MaskEdges$Piece" 67 "MaskEdges$Piece" "low" "I" ∈ xT := xTi_5 _ (List.mem_of_getElem? (i := 0) rfl)
theorem xw_126 : Cond.fieldLink "MaskEdges" 209 "MaskEdges$Piece" "low" "I" ∈ xT := xTi_5 _ (List.mem_of_getElem? (i := 1) rfl)
theorem xw_127 : Cond.fieldLink "MaskEdges$Piece" 70 "MaskEdges$Piece" "high" "I" ∈ xT := xTi_5 _ (List.mem_of_getElem? (i := 2) rfl)
theorem xw_128 : Cond.fieldLink "MaskEdges" 212 "MaskEdges$Piece" "high" "I" ∈ xT := xTi_5 _ (List.mem_of_getElem? (i := 3) rfl)
theorem xw_129 : Cond.fieldLink "MaskEdges$Piece" 45 "MaskEdges$Piece" "sideLow" "I" ∈ xT := xTi_5 _ (List.mem_of_getElem? (i := 4) rfl)
theorem xw_130 : Cond.fieldLink "MaskEdges" 254 "MaskEdges$Piece" "sideLow" "I" ∈ xT := xTi_5 _ (List.mem_of_getElem? (i := 5) rfl)
theorem xw_131 : Cond.fieldLink "MaskEdges$Piece" 51 "MaskEdges$Piece" "sideHigh" "I" ∈ xT := xTi_5 _ (List.mem_of_getElem? (i := 6) rfl)
theorem xw_132 : Cond.fieldLink "MaskEdges" 257 "MaskEdges$Piece" "sideHigh" "I" ∈ xT := xTi_5 _ (List.mem_of_getElem? (i := 7) rfl)
theorem xw_133 : Cond.fieldLink "MaskEdges$Piece" 54 "MaskEdges$Piece" "first" "Z" ∈ xT := xTi_5 _ (List.mem_of_getElem? (i := 8) rfl)
theorem xw_134 : Cond.fieldLink "MaskEdges$Piece" 57 "MaskEdges$Piece" "last" "Z" ∈ xT := xTi_5 _ (List.mem_of_getElem? (i := 9) rfl)
theorem xw_135 : Cond.fieldLink "MaskEdges$Piece" 84 "MaskEdges$Piece" "outward" "I" ∈ xT := xTi_5 _ (List.mem_of_getElem? (i := 10) rfl)
theorem xw_136 : Cond.fieldLink "MaskEdges" 215 "MaskEdges$Piece" "outward" "I" ∈ xT := xTi_5 _ (List.mem_of_getElem? (i := 11) rfl)
theorem xw_137 : Cond.fieldLink "MaskEdges$Piece" 87 "MaskEdges$Piece" "insideX" "I" ∈ xT := xTi_5 _ (List.mem_of_getElem? (i := 12) rfl)
theorem xw_138 : Cond.fieldLink "MaskEdges" 239 "MaskEdges$Piece" "insideX" "I" ∈ xT := xTi_5 _ (List.mem_of_getElem? (i := 13) rfl)
theorem xw_139 : Cond.fieldLink "MaskEdges$Piece" 90 "MaskEdges$Piece" "insideY" "I" ∈ xT := xTi_5 _ (List.mem_of_getElem? (i := 14) rfl)
theorem xw_140 : Cond.fieldLink "MaskEdges" 242 "MaskEdges$Piece" "insideY" "I" ∈ xT := xTi_5 _ (List.mem_of_getElem? (i := 15) rfl)
theorem xw_141 : Cond.fieldLink "MaskEdges$Piece" 60 "MaskEdges$Piece" "move" "I" ∈ xT := xTi_5 _ (List.mem_of_getElem? (i := 16) rfl)
theorem xw_142 : Cond.fieldLink "MaskEdges" 133 "MaskEdges$Piece" "move" "I" ∈ xT := xTi_5 _ (List.mem_of_getElem? (i := 17) rfl)
theorem xw_143 : Cond.lays "MaskEdges$Piece" "MaskEdges$Piece" "alongX" "Z" ∈ xT := xTi_5 _ (List.mem_of_getElem? (i := 18) rfl)
theorem xw_144 : Cond.lays "MaskEdges$Piece" "MaskEdges$Piece" "line" "I" ∈ xT := xTi_5 _ (List.mem_of_getElem? (i := 19) rfl)
theorem xw_145 : Cond.lays "MaskEdges$Piece" "MaskEdges$Piece" "low" "I" ∈ xT := xTi_5 _ (List.mem_of_getElem? (i := 20) rfl)
theorem xw_146 : Cond.lays "MaskEdges$Piece" "MaskEdges$Piece" "high" "I" ∈ xT := xTi_5 _ (List.mem_of_getElem? (i := 21) rfl)
theorem xw_147 : Cond.lays "MaskEdges$Piece" "MaskEdges$Piece" "sideLow" "I" ∈ xT := xTi_5 _ (List.mem_of_getElem? (i := 22) rfl)
theorem xw_148 : Cond.lays "MaskEdges$Piece" "MaskEdges$Piece" "sideHigh" "I" ∈ xT := xTi_5 _ (List.mem_of_getElem? (i := 23) rfl)
theorem xw_149 : Cond.lays "MaskEdges$Piece" "MaskEdges$Piece" "first" "Z" ∈ xT := xTi_5 _ (List.mem_of_getElem? (i := 24) rfl)
theorem xw_150 : Cond.lays "MaskEdges$Piece" "MaskEdges$Piece" "last" "Z" ∈ xT := xTi_6 _ (List.mem_of_getElem? (i := 0) rfl)
theorem xw_151 : Cond.lays "MaskEdges$Piece" "MaskEdges$Piece" "outward" "I" ∈ xT := xTi_6 _ (List.mem_of_getElem? (i := 1) rfl)
theorem xw_152 : Cond.lays "MaskEdges$Piece" "MaskEdges$Piece" "insideX" "I" ∈ xT := xTi_6 _ (List.mem_of_getElem? (i := 2) rfl)
theorem xw_153 : Cond.lays "MaskEdges$Piece" "MaskEdges$Piece" "insideY" "I" ∈ xT := xTi_6 _ (List.mem_of_getElem? (i := 3) rfl)
theorem xw_154 : Cond.lays "MaskEdges$Piece" "MaskEdges$Piece" "move" "I" ∈ xT := xTi_6 _ (List.mem_of_getElem? (i := 4) rfl)
theorem xw_155 : Cond.fieldLink "MaskEdges" 11 "MaskEdges" "outlines" "[LMaskEdges$Outline;" ∈ xT := xTi_6 _ (List.mem_of_getElem? (i := 5) rfl)
theorem xw_156 : Cond.fieldLink "MaskEdges" 65 "MaskEdges" "outlineCount" "I" ∈ xT := xTi_6 _ (List.mem_of_getElem? (i := 6) rfl)
theorem xw_157 : Cond.fieldLink "MaskEdges" 17 "MaskEdges" "pieces" "[LMaskEdges$Piece;" ∈ xT := xTi_6 _ (List.mem_of_getElem? (i := 7) rfl)
theorem xw_158 : Cond.fieldLink "MaskEdges" 61 "MaskEdges" "pieceCount" "I" ∈ xT := xTi_6 _ (List.mem_of_getElem? (i := 8) rfl)
theorem xw_159 : Cond.fieldLink "MaskEdges" 21 "MaskEdges" "movesBefore" "[I" ∈ xT := xTi_6 _ (List.mem_of_getElem? (i := 9) rfl)
theorem xw_160 : Cond.fieldLink "MaskEdges" 27 "MaskEdges" "bars" "[LMaskEdges$Box;" ∈ xT := xTi_6 _ (List.mem_of_getElem? (i := 10) rfl)
theorem xw_161 : Cond.fieldLink "MaskEdges" 136 "MaskEdges" "barCount" "I" ∈ xT := xTi_6 _ (List.mem_of_getElem? (i := 11) rfl)
theorem xw_162 : Cond.fieldLink "MaskEdges" 34 "MaskEdges" "target" "LMaskEdges$CellSet;" ∈ xT := xTi_6 _ (List.mem_of_getElem? (i := 12) rfl)
theorem xw_163 : Cond.fieldLink "MaskEdges" 38 "MaskEdges" "barCells" "LMaskEdges$CellSet;" ∈ xT := xTi_6 _ (List.mem_of_getElem? (i := 13) rfl)
theorem xw_164 : Cond.fieldLink "MaskEdges" 41 "MaskEdges" "mask" "LMaskEdges$CellSet;" ∈ xT := xTi_6 _ (List.mem_of_getElem? (i := 14) rfl)
theorem xw_165 : Cond.fieldLink "MaskEdges" 47 "MaskEdges" "exposure" "LMaskEdges$Exposure;" ∈ xT := xTi_6 _ (List.mem_of_getElem? (i := 15) rfl)
theorem xw_166 : Cond.fieldLink "MaskEdges" 51 "MaskEdges" "worsts" "[I" ∈ xT := xTi_6 _ (List.mem_of_getElem? (i := 16) rfl)
theorem xw_167 : Cond.fieldLink "MaskEdges" 130 "MaskEdges" "worstCount" "I" ∈ xT := xTi_6 _ (List.mem_of_getElem? (i := 17) rfl)
theorem xw_168 : Cond.fieldLink "MaskEdges" 55 "MaskEdges" "box" "LMaskEdges$Box;" ∈ xT := xTi_6 _ (List.mem_of_getElem? (i := 18) rfl)
theorem xw_169 : Cond.laysFinal "MaskEdges" "MaskEdges" "outlines" "[LMaskEdges$Outline;" ∈ xT := xTi_6 _ (List.mem_of_getElem? (i := 19) rfl)
theorem xw_170 : Cond.lays "MaskEdges" "MaskEdges" "outlineCount" "I" ∈ xT := xTi_6 _ (List.mem_of_getElem? (i := 20) rfl)
theorem xw_171 : Cond.laysFinal "MaskEdges" "MaskEdges" "pieces" "[LMaskEdges$Piece;" ∈ xT := xTi_6 _ (List.mem_of_getElem? (i := 21) rfl)
theorem xw_172 : Cond.lays "MaskEdges" "MaskEdges" "pieceCount" "I" ∈ xT := xTi_6 _ (List.mem_of_getElem? (i := 22) rfl)
theorem xw_173 : Cond.laysFinal "MaskEdges" "MaskEdges" "movesBefore" "[I" ∈ xT := xTi_6 _ (List.mem_of_getElem? (i := 23) rfl)
theorem xw_174 : Cond.laysFinal "MaskEdges" "MaskEdges" "bars" "[LMaskEdges$Box;" ∈ xT := xTi_6 _ (List.mem_of_getElem? (i := 24) rfl)
theorem xw_175 : Cond.lays "MaskEdges" "MaskEdges" "barCount" "I" ∈ xT := xTi_7 _ (List.mem_of_getElem? (i := 0) rfl)
theorem xw_176 : Cond.laysFinal "MaskEdges" "MaskEdges" "target" "LMaskEdges$CellSet;" ∈ xT := xTi_7 _ (List.mem_of_getElem? (i := 1) rfl)
theorem xw_177 : Cond.laysFinal "MaskEdges" "MaskEdges" "barCells" "LMaskEdges$CellSet;" ∈ xT := xTi_7 _ (List.mem_of_getElem? (i := 2) rfl)
theorem xw_178 : Cond.laysFinal "MaskEdges" "MaskEdges" "mask" "LMaskEdges$CellSet;" ∈ xT := xTi_7 _ (List.mem_of_getElem? (i := 3) rfl)
theorem xw_179 : Cond.laysFinal "MaskEdges" "MaskEdges" "exposure" "LMaskEdges$Exposure;" ∈ xT := xTi_7 _ (List.mem_of_getElem? (i := 4) rfl)
theorem xw_180 : Cond.laysFinal "MaskEdges" "MaskEdges" "worsts" "[I" ∈ xT := xTi_7 _ (List.mem_of_getElem? (i := 5) rfl)
theorem xw_181 : Cond.lays "MaskEdges" "MaskEdges" "worstCount" "I" ∈ xT := xTi_7 _ (List.mem_of_getElem? (i := 6) rfl)
theorem xw_182 : Cond.laysFinal "MaskEdges" "MaskEdges" "box" "LMaskEdges$Box;" ∈ xT := xTi_7 _ (List.mem_of_getElem? (i := 7) rfl)
theorem xw_183 : Cond.methodLink "MaskEdgesLaw" 13 y_MaskEdges_polygon ∈ xT := xTi_7 _ (List.mem_of_getElem? (i := 8) rfl)
theorem xw_184 : Cond.instanceMethod y_MaskEdges_polygon ∈ xT := xTi_7 _ (List.mem_of_getElem? (i := 9) rfl)
theorem xw_185 : Cond.selects "MaskEdges" y_MaskEdges_polygon y_MaskEdges_polygon ∈ xT := xTi_7 _ (List.mem_of_getElem? (i := 10) rfl)
theorem xw_186 : Cond.code y_MaskEdges_polygon prog_1_method_2_code 1 (some .int) ∈ xT := xTi_7 _ (List.mem_of_getElem? (i := 11) rfl)
theorem xw_187 : Cond.methodLink "MaskEdgesLaw" 20 y_MaskEdges_corner ∈ xT := xTi_7 _ (List.mem_of_getElem? (i := 12) rfl)
theorem xw_188 : Cond.instanceMethod y_MaskEdges_corner ∈ xT := xTi_7 _ (List.mem_of_getElem? (i := 13) rfl)
theorem xw_189 : Cond.selects "MaskEdges" y_MaskEdges_corner y_MaskEdges_corner ∈ xT := xTi_7 _ (List.mem_of_getElem? (i := 14) rfl)
theorem xw_190 : Cond.code y_MaskEdges_corner prog_1_method_3_code 8 (some .boolean) ∈ xT := xTi_7 _ (List.mem_of_getElem? (i := 15) rfl)
theorem xw_191 : Cond.constantLong "MaskEdges" 68 (48 : Int64) ∈ xT := xTi_7 _ (List.mem_of_getElem? (i := 16) rfl)
theorem xw_192 : Cond.methodLink "MaskEdges" 70 y_Outline_takeCorner ∈ xT := xTi_7 _ (List.mem_of_getElem? (i := 17) rfl)
theorem xw_193 : Cond.instanceMethod y_Outline_takeCorner ∈ xT := xTi_7 _ (List.mem_of_getElem? (i := 18) rfl)
theorem xw_194 : Cond.selects "MaskEdges$Outline" y_Outline_takeCorner y_Outline_takeCorner ∈ xT := xTi_7 _ (List.mem_of_getElem? (i := 19) rfl)
theorem xw_195 : Cond.code y_Outline_takeCorner prog_5_method_2_code 3 (some .boolean) ∈ xT := xTi_7 _ (List.mem_of_getElem? (i := 20) rfl)
theorem xw_196 : Cond.methodLink "MaskEdges$Outline" 22 y_Outline_maySideGoTo ∈ xT := xTi_7 _ (List.mem_of_getElem? (i := 21) rfl)
theorem xw_197 : Cond.instanceMethod y_Outline_maySideGoTo ∈ xT := xTi_7 _ (List.mem_of_getElem? (i := 22) rfl)
theorem xw_198 : Cond.code y_Outline_maySideGoTo prog_5_method_3_code 5 (some .boolean) ∈ xT := xTi_7 _ (List.mem_of_getElem? (i := 23) rfl)
theorem xw_199 : Cond.methodLink "MaskEdges$Outline" 30 y_Outline_isAlongX ∈ xT := xTi_7 _ (List.mem_of_getElem? (i := 24) rfl)
theorem xw_200 : Cond.instanceMethod y_Outline_isAlongX ∈ xT := xTi_8 _ (List.mem_of_getElem? (i := 0) rfl)
theorem xw_201 : Cond.selects "MaskEdges$Outline" y_Outline_isAlongX y_Outline_isAlongX ∈ xT := xTi_8 _ (List.mem_of_getElem? (i := 1) rfl)
theorem xw_202 : Cond.code y_Outline_isAlongX prog_5_method_5_code 2 (some .boolean) ∈ xT := xTi_8 _ (List.mem_of_getElem? (i := 2) rfl)
theorem xw_203 : Cond.methodLink "MaskEdges$Outline" 34 y_Outline_nextCorner ∈ xT := xTi_8 _ (List.mem_of_getElem? (i := 3) rfl)
theorem xw_204 : Cond.instanceMethod y_Outline_nextCorner ∈ xT := xTi_8 _ (List.mem_of_getElem? (i := 4) rfl)
theorem xw_205 : Cond.selects "MaskEdges$Outline" y_Outline_nextCorner y_Outline_nextCorner ∈ xT := xTi_8 _ (List.mem_of_getElem? (i := 5) rfl)
theorem xw_206 : Cond.code y_Outline_nextCorner prog_5_method_4_code 2 (some .int) ∈ xT := xTi_8 _ (List.mem_of_getElem? (i := 6) rfl)
theorem xw_207 : Cond.methodLink "MaskEdges" 78 y_MaskEdges_addToTarget ∈ xT := xTi_8 _ (List.mem_of_getElem? (i := 7) rfl)
theorem xw_208 : Cond.instanceMethod y_MaskEdges_addToTarget ∈ xT := xTi_8 _ (List.mem_of_getElem? (i := 8) rfl)
theorem xw_209 : Cond.code y_MaskEdges_addToTarget prog_1_method_22_code 4 none ∈ xT := xTi_8 _ (List.mem_of_getElem? (i := 9) rfl)
theorem xw_210 : Cond.methodLink "MaskEdges" 191 y_Outline_holds ∈ xT := xTi_8 _ (List.mem_of_getElem? (i := 10) rfl)
theorem xw_211 : Cond.instanceMethod y_Outline_holds ∈ xT := xTi_8 _ (List.mem_of_getElem? (i := 11) rfl)
theorem xw_212 : Cond.selects "MaskEdges$Outline" y_Outline_holds y_Outline_holds ∈ xT := xTi_8 _ (List.mem_of_getElem? (i := 12) rfl)
theorem xw_213 : Cond.code y_Outline_holds prog_5_method_9_code 7 (some .boolean) ∈ xT := xTi_8 _ (List.mem_of_getElem? (i := 13) rfl)
theorem xw_214 : Cond.methodLink "MaskEdges$Outline" 49 y_Math_min ∈ xT := xTi_8 _ (List.mem_of_getElem? (i := 14) rfl)
theorem xw_215 : Cond.static y_Math_min ∈ xT := xTi_8 _ (List.mem_of_getElem? (i := 15) rfl)
theorem xw_216 : Cond.code y_Math_min prog_10_method_69_code 2 (some .int) ∈ xT := xTi_8 _ (List.mem_of_getElem? (i := 16) rfl)
theorem xw_217 : Cond.methodLink "MaskEdges$Outline" 53 y_Math_max ∈ xT := xTi_8 _ (List.mem_of_getElem? (i := 17) rfl)
theorem xw_218 : Cond.static y_Math_max ∈ xT := xTi_8 _ (List.mem_of_getElem? (i := 18) rfl)
theorem xw_219 : Cond.code y_Math_max prog_10_method_65_code 2 (some .int) ∈ xT := xTi_8 _ (List.mem_of_getElem? (i := 19) rfl)
theorem xw_220 : Cond.methodLink "MaskEdges" 194 y_CellSet_add ∈ xT := xTi_8 _ (List.mem_of_getElem? (i := 20) rfl)
theorem xw_221 : Cond.instanceMethod y_CellSet_add ∈ xT := xTi_8 _ (List.mem_of_getElem? (i := 21) rfl)
theorem xw_222 : Cond.selects "MaskEdges$CellSet" y_CellSet_add y_CellSet_add ∈ xT := xTi_8 _ (List.mem_of_getElem? (i := 22) rfl)
theorem xw_223 : Cond.code y_CellSet_add prog_3_method_3_code 3 none ∈ xT := xTi_8 _ (List.mem_of_getElem? (i := 23) rfl)
theorem xw_224 : Cond.static y_MaskEdges_onGrid ∈ xT := xTi_8 _ (List.mem_of_getElem? (i := 24) rfl)
theorem xw_225 : Cond.code y_MaskEdges_onGrid prog_1_method_18_code 2 (some .boolean) ∈ xT := xTi_9 _ (List.mem_of_getElem? (i := 0) rfl)
theorem xw_226 : Cond.methodLink "MaskEdges" 82 y_MaskEdges_renewMask ∈ xT := xTi_9 _ (List.mem_of_getElem? (i := 1) rfl)
theorem xw_227 : Cond.instanceMethod y_MaskEdges_renewMask ∈ xT := xTi_9 _ (List.mem_of_getElem? (i := 2) rfl)
theorem xw_228 : Cond.code y_MaskEdges_renewMask prog_1_method_23_code 2 none ∈ xT := xTi_9 _ (List.mem_of_getElem? (i := 3) rfl)
theorem xw_229 : Cond.methodLink "MaskEdges" 198 y_CellSet_copyFrom ∈ xT := xTi_9 _ (List.mem_of_getElem? (i := 4) rfl)
theorem xw_230 : Cond.instanceMethod y_CellSet_copyFrom ∈ xT := xTi_9 _ (List.mem_of_getElem? (i := 5) rfl)
theorem xw_231 : Cond.selects "MaskEdges$CellSet" y_CellSet_copyFrom y_CellSet_copyFrom ∈ xT := xTi_9 _ (List.mem_of_getElem? (i := 6) rfl)
theorem xw_232 : Cond.code y_CellSet_copyFrom prog_3_method_4_code 3 none ∈ xT := xTi_9 _ (List.mem_of_getElem? (i := 7) rfl)
theorem xw_233 : Cond.methodLink "MaskEdges" 202 y_MaskEdges_applyMove ∈ xT := xTi_9 _ (List.mem_of_getElem? (i := 8) rfl)
theorem xw_234 : Cond.instanceMethod y_MaskEdges_applyMove ∈ xT := xTi_9 _ (List.mem_of_getElem? (i := 9) rfl)
theorem xw_235 : Cond.code y_MaskEdges_applyMove prog_1_method_24_code 2 none ∈ xT := xTi_9 _ (List.mem_of_getElem? (i := 10) rfl)
theorem xw_236 : Cond.methodLink "MaskEdges" 218 y_Box_layBeside ∈ xT := xTi_9 _ (List.mem_of_getElem? (i := 11) rfl)
theorem xw_237 : Cond.instanceMethod y_Box_layBeside ∈ xT := xTi_9 _ (List.mem_of_getElem? (i := 12) rfl)
theorem xw_238 : Cond.selects "MaskEdges$Box" y_Box_layBeside y_Box_layBeside ∈ xT := xTi_9 _ (List.mem_of_getElem? (i := 13) rfl)
theorem xw_239 : Cond.code y_Box_layBeside prog_2_method_2_code 11 none ∈ xT := xTi_9 _ (List.mem_of_getElem? (i := 14) rfl)
theorem xw_240 : Cond.methodLink "MaskEdges$Box" 15 y_Math_min ∈ xT := xTi_9 _ (List.mem_of_getElem? (i := 15) rfl)
theorem xw_241 : Cond.methodLink "MaskEdges$Box" 21 y_Math_max ∈ xT := xTi_9 _ (List.mem_of_getElem? (i := 16) rfl)
theorem xw_242 : Cond.methodLink "MaskEdges" 222 y_CellSet_addBox ∈ xT := xTi_9 _ (List.mem_of_getElem? (i := 17) rfl)
theorem xw_243 : Cond.instanceMethod y_CellSet_addBox ∈ xT := xTi_9 _ (List.mem_of_getElem? (i := 18) rfl)
theorem xw_244 : Cond.selects "MaskEdges$CellSet" y_CellSet_addBox y_CellSet_addBox ∈ xT := xTi_9 _ (List.mem_of_getElem? (i := 19) rfl)
theorem xw_245 : Cond.code y_CellSet_addBox prog_3_method_6_code 6 none ∈ xT := xTi_9 _ (List.mem_of_getElem? (i := 20) rfl)
theorem xw_246 : Cond.static y_MaskEdges_columnBits ∈ xT := xTi_9 _ (List.mem_of_getElem? (i := 21) rfl)
theorem xw_247 : Cond.code y_MaskEdges_columnBits prog_1_method_20_code 4 (some .long) ∈ xT := xTi_9 _ (List.mem_of_getElem? (i := 22) rfl)
theorem xw_248 : Cond.methodLink "MaskEdges$CellSet" 35 y_Math_min ∈ xT := xTi_9 _ (List.mem_of_getElem? (i := 23) rfl)
theorem xw_249 : Cond.methodLink "MaskEdges$CellSet" 44 y_Math_max ∈ xT := xTi_9 _ (List.mem_of_getElem? (i := 24) rfl)
theorem xw_250 : Cond.methodLink "MaskEdges" 226 y_CellSet_removeBox ∈ xT := xTi_10 _ (List.mem_of_getElem? (i := 0) rfl)
theorem xw_251 : Cond.instanceMethod y_CellSet_removeBox ∈ xT := xTi_10 _ (List.mem_of_getElem? (i := 1) rfl)
theorem xw_252 : Cond.selects "MaskEdges$CellSet" y_CellSet_removeBox y_CellSet_removeBox ∈ xT := xTi_10 _ (List.mem_of_getElem? (i := 2) rfl)
theorem xw_253 : Cond.code y_CellSet_removeBox prog_3_method_7_code 6 none ∈ xT := xTi_10 _ (List.mem_of_getElem? (i := 3) rfl)
theorem xw_254 : Cond.constantLong "MaskEdges$CellSet" 47 (-1 : Int64) ∈ xT := xTi_10 _ (List.mem_of_getElem? (i := 4) rfl)
theorem xw_255 : Cond.methodLink "MaskEdges" 206 y_CellSet_addAll ∈ xT := xTi_10 _ (List.mem_of_getElem? (i := 5) rfl)
theorem xw_256 : Cond.instanceMethod y_CellSet_addAll ∈ xT := xTi_10 _ (List.mem_of_getElem? (i := 6) rfl)
theorem xw_257 : Cond.selects "MaskEdges$CellSet" y_CellSet_addAll y_CellSet_addAll ∈ xT := xTi_10 _ (List.mem_of_getElem? (i := 7) rfl)
theorem xw_258 : Cond.code y_CellSet_addAll prog_3_method_5_code 3 none ∈ xT := xTi_10 _ (List.mem_of_getElem? (i := 8) rfl)
theorem xw_259 : Cond.methodLink "MaskEdgesLaw" 25 y_MaskEdges_kernel ∈ xT := xTi_10 _ (List.mem_of_getElem? (i := 9) rfl)
theorem xw_260 : Cond.instanceMethod y_MaskEdges_kernel ∈ xT := xTi_10 _ (List.mem_of_getElem? (i := 10) rfl)
theorem xw_261 : Cond.selects "MaskEdges" y_MaskEdges_kernel y_MaskEdges_kernel ∈ xT := xTi_10 _ (List.mem_of_getElem? (i := 11) rfl)
theorem xw_262 : Cond.code y_MaskEdges_kernel prog_1_method_4_code 3 (some .int) ∈ xT := xTi_10 _ (List.mem_of_getElem? (i := 12) rfl)
theorem xw_263 : Cond.methodLink "MaskEdges" 85 y_MaskEdges_within ∈ xT := xTi_10 _ (List.mem_of_getElem? (i := 13) rfl)
theorem xw_264 : Cond.static y_MaskEdges_within ∈ xT := xTi_10 _ (List.mem_of_getElem? (i := 14) rfl)
theorem xw_265 : Cond.code y_MaskEdges_within prog_1_method_17_code 3 (some .boolean) ∈ xT := xTi_10 _ (List.mem_of_getElem? (i := 15) rfl)
theorem xw_266 : Cond.methodLink "MaskEdges" 89 y_Exposure_addKernel ∈ xT := xTi_10 _ (List.mem_of_getElem? (i := 16) rfl)
theorem xw_267 : Cond.instanceMethod y_Exposure_addKernel ∈ xT := xTi_10 _ (List.mem_of_getElem? (i := 17) rfl)
theorem xw_268 : Cond.selects "MaskEdges$Exposure" y_Exposure_addKernel y_Exposure_addKernel ∈ xT := xTi_10 _ (List.mem_of_getElem? (i := 18) rfl)
theorem xw_269 : Cond.code y_Exposure_addKernel prog_4_method_2_code 3 (some .int) ∈ xT := xTi_10 _ (List.mem_of_getElem? (i := 19) rfl)
theorem xw_270 : Cond.methodLink "MaskEdgesLaw" 30 y_MaskEdges_cut ∈ xT := xTi_10 _ (List.mem_of_getElem? (i := 20) rfl)
theorem xw_271 : Cond.instanceMethod y_MaskEdges_cut ∈ xT := xTi_10 _ (List.mem_of_getElem? (i := 21) rfl)
theorem xw_272 : Cond.selects "MaskEdges" y_MaskEdges_cut y_MaskEdges_cut ∈ xT := xTi_10 _ (List.mem_of_getElem? (i := 22) rfl)
theorem xw_273 : Cond.code y_MaskEdges_cut prog_1_method_5_code 4 (some .int) ∈ xT := xTi_10 _ (List.mem_of_getElem? (i := 23) rfl)
theorem xw_274 : Cond.methodLink "MaskEdges" 93 y_MaskEdges_piecesFor ∈ xT := xTi_10 _ (List.mem_of_getElem? (i := 24) rfl)
theorem xw_275 : Cond.instanceMethod y_MaskEdges_piecesFor ∈ xT := xTi_11 _ (List.mem_of_getElem? (i := 0) rfl)
theorem xw_276 : Cond.code y_MaskEdges_piecesFor prog_1_method_25_code 6 (some .int) ∈ xT := xTi_11 _ (List.mem_of_getElem? (i := 1) rfl)
theorem xw_277 : Cond.methodLink "MaskEdges" 232 y_Outline_partsOf ∈ xT := xTi_11 _ (List.mem_of_getElem? (i := 2) rfl)
theorem xw_278 : Cond.instanceMethod y_Outline_partsOf ∈ xT := xTi_11 _ (List.mem_of_getElem? (i := 3) rfl)
theorem xw_279 : Cond.selects "MaskEdges$Outline" y_Outline_partsOf y_Outline_partsOf ∈ xT := xTi_11 _ (List.mem_of_getElem? (i := 4) rfl)
theorem xw_280 : Cond.code y_Outline_partsOf prog_5_method_8_code 4 (some .int) ∈ xT := xTi_11 _ (List.mem_of_getElem? (i := 5) rfl)
theorem xw_281 : Cond.methodLink "MaskEdges$Outline" 38 y_Outline_sideEnd ∈ xT := xTi_11 _ (List.mem_of_getElem? (i := 6) rfl)
theorem xw_282 : Cond.instanceMethod y_Outline_sideEnd ∈ xT := xTi_11 _ (List.mem_of_getElem? (i := 7) rfl)
theorem xw_283 : Cond.selects "MaskEdges$Outline" y_Outline_sideEnd y_Outline_sideEnd ∈ xT := xTi_11 _ (List.mem_of_getElem? (i := 8) rfl)
theorem xw_284 : Cond.code y_Outline_sideEnd prog_5_method_7_code 3 (some .int) ∈ xT := xTi_11 _ (List.mem_of_getElem? (i := 9) rfl)
theorem xw_285 : Cond.methodLink "MaskEdges$Outline" 41 y_Outline_sideStart ∈ xT := xTi_11 _ (List.mem_of_getElem? (i := 10) rfl)
theorem xw_286 : Cond.instanceMethod y_Outline_sideStart ∈ xT := xTi_11 _ (List.mem_of_getElem? (i := 11) rfl)
theorem xw_287 : Cond.selects "MaskEdges$Outline" y_Outline_sideStart y_Outline_sideStart ∈ xT := xTi_11 _ (List.mem_of_getElem? (i := 12) rfl)
theorem xw_288 : Cond.code y_Outline_sideStart prog_5_method_6_code 2 (some .int) ∈ xT := xTi_11 _ (List.mem_of_getElem? (i := 13) rfl)
theorem xw_289 : Cond.methodLink "MaskEdges$Outline" 44 y_Math_abs ∈ xT := xTi_11 _ (List.mem_of_getElem? (i := 14) rfl)
theorem xw_290 : Cond.static y_Math_abs ∈ xT := xTi_11 _ (List.mem_of_getElem? (i := 15) rfl)
theorem xw_291 : Cond.code y_Math_abs prog_10_method_59_code 1 (some .int) ∈ xT := xTi_11 _ (List.mem_of_getElem? (i := 16) rfl)
theorem xw_292 : Cond.methodLink "MaskEdges" 97 y_MaskEdges_cutOutline ∈ xT := xTi_11 _ (List.mem_of_getElem? (i := 17) rfl)
theorem xw_293 : Cond.instanceMethod y_MaskEdges_cutOutline ∈ xT := xTi_11 _ (List.mem_of_getElem? (i := 18) rfl)
theorem xw_294 : Cond.code y_MaskEdges_cutOutline prog_1_method_26_code 6 none ∈ xT := xTi_11 _ (List.mem_of_getElem? (i := 19) rfl)
theorem xw_295 : Cond.methodLink "MaskEdges" 235 y_Piece_lieOn ∈ xT := xTi_11 _ (List.mem_of_getElem? (i := 20) rfl)
theorem xw_296 : Cond.instanceMethod y_Piece_lieOn ∈ xT := xTi_11 _ (List.mem_of_getElem? (i := 21) rfl)
theorem xw_297 : Cond.selects "MaskEdges$Piece" y_Piece_lieOn y_Piece_lieOn ∈ xT := xTi_11 _ (List.mem_of_getElem? (i := 22) rfl)
theorem xw_298 : Cond.code y_Piece_lieOn prog_6_method_2_code 9 none ∈ xT := xTi_11 _ (List.mem_of_getElem? (i := 23) rfl)
theorem xw_299 : Cond.methodLink "MaskEdges$Piece" 9 y_Outline_sideStart ∈ xT := xTi_11 _ (List.mem_of_getElem? (i := 24) rfl)
theorem xw_300 : Cond.methodLink "MaskEdges$Piece" 15 y_Outline_sideEnd ∈ xT := xTi_12 _ (List.mem_of_getElem? (i := 0) rfl)
theorem xw_301 : Cond.methodLink "MaskEdges$Piece" 18 y_Outline_isAlongX ∈ xT := xTi_12 _ (List.mem_of_getElem? (i := 1) rfl)
theorem xw_302 : Cond.methodLink "MaskEdges$Piece" 39 y_Math_min ∈ xT := xTi_12 _ (List.mem_of_getElem? (i := 2) rfl)
theorem xw_303 : Cond.methodLink "MaskEdges$Piece" 48 y_Math_max ∈ xT := xTi_12 _ (List.mem_of_getElem? (i := 3) rfl)
theorem xw_304 : Cond.methodLink "MaskEdges$Piece" 63 y_Piece_pointAt ∈ xT := xTi_12 _ (List.mem_of_getElem? (i := 4) rfl)
theorem xw_305 : Cond.static y_Piece_pointAt ∈ xT := xTi_12 _ (List.mem_of_getElem? (i := 5) rfl)
theorem xw_306 : Cond.code y_Piece_pointAt prog_6_method_3_code 5 (some .int) ∈ xT := xTi_12 _ (List.mem_of_getElem? (i := 6) rfl)
theorem xw_307 : Cond.methodLink "MaskEdges$Piece" 77 y_Math_abs ∈ xT := xTi_12 _ (List.mem_of_getElem? (i := 7) rfl)
theorem xw_308 : Cond.methodLink "MaskEdges$Piece" 73 y_Piece_faceOutward ∈ xT := xTi_12 _ (List.mem_of_getElem? (i := 8) rfl)
theorem xw_309 : Cond.instanceMethod y_Piece_faceOutward ∈ xT := xTi_12 _ (List.mem_of_getElem? (i := 9) rfl)
theorem xw_310 : Cond.code y_Piece_faceOutward prog_6_method_4_code 6 none ∈ xT := xTi_12 _ (List.mem_of_getElem? (i := 10) rfl)
theorem xw_311 : Cond.methodLink "MaskEdges$Piece" 80 y_Outline_holds ∈ xT := xTi_12 _ (List.mem_of_getElem? (i := 11) rfl)
theorem xw_312 : Cond.methodLink "MaskEdgesLaw" 35 y_MaskEdges_image ∈ xT := xTi_12 _ (List.mem_of_getElem? (i := 12) rfl)
theorem xw_313 : Cond.instanceMethod y_MaskEdges_image ∈ xT := xTi_12 _ (List.mem_of_getElem? (i := 13) rfl)
theorem xw_314 : Cond.selects "MaskEdges" y_MaskEdges_image y_MaskEdges_image ∈ xT := xTi_12 _ (List.mem_of_getElem? (i := 14) rfl)
theorem xw_315 : Cond.code y_MaskEdges_image prog_1_method_6_code 3 (some .int) ∈ xT := xTi_12 _ (List.mem_of_getElem? (i := 15) rfl)
theorem xw_316 : Cond.methodLink "MaskEdges" 101 y_MaskEdges_onGrid ∈ xT := xTi_12 _ (List.mem_of_getElem? (i := 16) rfl)
theorem xw_317 : Cond.methodLink "MaskEdges" 104 y_Exposure_imageAt ∈ xT := xTi_12 _ (List.mem_of_getElem? (i := 17) rfl)
theorem xw_318 : Cond.instanceMethod y_Exposure_imageAt ∈ xT := xTi_12 _ (List.mem_of_getElem? (i := 18) rfl)
theorem xw_319 : Cond.selects "MaskEdges$Exposure" y_Exposure_imageAt y_Exposure_imageAt ∈ xT := xTi_12 _ (List.mem_of_getElem? (i := 19) rfl)
theorem xw_320 : Cond.code y_Exposure_imageAt prog_4_method_3_code 6 (some .int) ∈ xT := xTi_12 _ (List.mem_of_getElem? (i := 20) rfl)
theorem xw_321 : Cond.methodLink "MaskEdges$Exposure" 25 y_CellSet_countAround ∈ xT := xTi_12 _ (List.mem_of_getElem? (i := 21) rfl)
theorem xw_322 : Cond.instanceMethod y_CellSet_countAround ∈ xT := xTi_12 _ (List.mem_of_getElem? (i := 22) rfl)
theorem xw_323 : Cond.selects "MaskEdges$CellSet" y_CellSet_countAround y_CellSet_countAround ∈ xT := xTi_12 _ (List.mem_of_getElem? (i := 23) rfl)
theorem xw_324 : Cond.code y_CellSet_countAround prog_3_method_9_code 9 (some .int) ∈ xT := xTi_12 _ (List.mem_of_getElem? (i := 24) rfl)
theorem xw_325 : Cond.methodLink "MaskEdges$CellSet" 49 y_Long_bitCount ∈ xT := xTi_13 _ (List.mem_of_getElem? (i := 0) rfl)
theorem xw_326 : Cond.static y_Long_bitCount ∈ xT := xTi_13 _ (List.mem_of_getElem? (i := 1) rfl)
theorem xw_327 : Cond.code y_Long_bitCount prog_9_method_50_code 2 (some .int) ∈ xT := xTi_13 _ (List.mem_of_getElem? (i := 2) rfl)
theorem xw_328 : Cond.constantLong "java/lang/Long" 314 (6148914691236517205 : Int64) ∈ xT := xTi_13 _ (List.mem_of_getElem? (i := 3) rfl)
theorem xw_329 : Cond.constantLong "java/lang/Long" 316 (3689348814741910323 : Int64) ∈ xT := xTi_13 _ (List.mem_of_getElem? (i := 4) rfl)
theorem xw_330 : Cond.constantLong "java/lang/Long" 318 (1085102592571150095 : Int64) ∈ xT := xTi_13 _ (List.mem_of_getElem? (i := 5) rfl)
theorem xw_331 : Cond.methodLink "MaskEdgesLaw" 39 y_MaskEdges_error ∈ xT := xTi_13 _ (List.mem_of_getElem? (i := 6) rfl)
theorem xw_332 : Cond.instanceMethod y_MaskEdges_error ∈ xT := xTi_13 _ (List.mem_of_getElem? (i := 7) rfl)
theorem xw_333 : Cond.selects "MaskEdges" y_MaskEdges_error y_MaskEdges_error ∈ xT := xTi_13 _ (List.mem_of_getElem? (i := 8) rfl)
theorem xw_334 : Cond.code y_MaskEdges_error prog_1_method_7_code 2 (some .int) ∈ xT := xTi_13 _ (List.mem_of_getElem? (i := 9) rfl)
theorem xw_335 : Cond.methodLink "MaskEdges" 108 y_MaskEdges_isPiece ∈ xT := xTi_13 _ (List.mem_of_getElem? (i := 10) rfl)
theorem xw_336 : Cond.instanceMethod y_MaskEdges_isPiece ∈ xT := xTi_13 _ (List.mem_of_getElem? (i := 11) rfl)
theorem xw_337 : Cond.code y_MaskEdges_isPiece prog_1_method_21_code 2 (some .boolean) ∈ xT := xTi_13 _ (List.mem_of_getElem? (i := 12) rfl)
theorem xw_338 : Cond.methodLink "MaskEdges" 112 y_MaskEdges_errorOf ∈ xT := xTi_13 _ (List.mem_of_getElem? (i := 13) rfl)
theorem xw_339 : Cond.instanceMethod y_MaskEdges_errorOf ∈ xT := xTi_13 _ (List.mem_of_getElem? (i := 14) rfl)
theorem xw_340 : Cond.code y_MaskEdges_errorOf prog_1_method_27_code 10 (some .int) ∈ xT := xTi_13 _ (List.mem_of_getElem? (i := 15) rfl)
theorem xw_341 : Cond.methodLink "MaskEdges" 163 y_Piece_isFlat ∈ xT := xTi_13 _ (List.mem_of_getElem? (i := 16) rfl)
theorem xw_342 : Cond.instanceMethod y_Piece_isFlat ∈ xT := xTi_13 _ (List.mem_of_getElem? (i := 17) rfl)
theorem xw_343 : Cond.selects "MaskEdges$Piece" y_Piece_isFlat y_Piece_isFlat ∈ xT := xTi_13 _ (List.mem_of_getElem? (i := 18) rfl)
theorem xw_344 : Cond.code y_Piece_isFlat prog_6_method_5_code 1 (some .boolean) ∈ xT := xTi_13 _ (List.mem_of_getElem? (i := 19) rfl)
theorem xw_345 : Cond.methodLink "MaskEdges" 159 y_Exposure_printsAt ∈ xT := xTi_13 _ (List.mem_of_getElem? (i := 20) rfl)
theorem xw_346 : Cond.instanceMethod y_Exposure_printsAt ∈ xT := xTi_13 _ (List.mem_of_getElem? (i := 21) rfl)
theorem xw_347 : Cond.selects "MaskEdges$Exposure" y_Exposure_printsAt y_Exposure_printsAt ∈ xT := xTi_13 _ (List.mem_of_getElem? (i := 22) rfl)
theorem xw_348 : Cond.code y_Exposure_printsAt prog_4_method_4_code 5 (some .boolean) ∈ xT := xTi_13 _ (List.mem_of_getElem? (i := 23) rfl)
theorem xw_349 : Cond.methodLink "MaskEdges$Exposure" 35 y_Exposure_imageAt ∈ xT := xTi_13 _ (List.mem_of_getElem? (i := 24) rfl)
theorem xw_350 : Cond.methodLink "MaskEdgesLaw" 43 y_MaskEdges_run ∈ xT := xTi_14 _ (List.mem_of_getElem? (i := 0) rfl)
theorem xw_351 : Cond.instanceMethod y_MaskEdges_run ∈ xT := xTi_14 _ (List.mem_of_getElem? (i := 1) rfl)
theorem xw_352 : Cond.selects "MaskEdges" y_MaskEdges_run y_MaskEdges_run ∈ xT := xTi_14 _ (List.mem_of_getElem? (i := 2) rfl)
theorem xw_353 : Cond.code y_MaskEdges_run prog_1_method_8_code 7 (some .int) ∈ xT := xTi_14 _ (List.mem_of_getElem? (i := 3) rfl)
theorem xw_354 : Cond.constant "MaskEdges" 116 (100000 : Int32) ∈ xT := xTi_14 _ (List.mem_of_getElem? (i := 4) rfl)
theorem xw_355 : Cond.methodLink "MaskEdges" 120 y_MaskEdges_worstError ∈ xT := xTi_14 _ (List.mem_of_getElem? (i := 5) rfl)
theorem xw_356 : Cond.instanceMethod y_MaskEdges_worstError ∈ xT := xTi_14 _ (List.mem_of_getElem? (i := 6) rfl)
theorem xw_357 : Cond.code y_MaskEdges_worstError prog_1_method_28_code 3 (some .int) ∈ xT := xTi_14 _ (List.mem_of_getElem? (i := 7) rfl)
theorem xw_358 : Cond.methodLink "MaskEdges" 248 y_Math_abs ∈ xT := xTi_14 _ (List.mem_of_getElem? (i := 8) rfl)
theorem xw_359 : Cond.methodLink "MaskEdges" 188 y_Math_max ∈ xT := xTi_14 _ (List.mem_of_getElem? (i := 9) rfl)
theorem xw_360 : Cond.methodLink "MaskEdges" 124 y_MaskEdges_moveAgainstErrors ∈ xT := xTi_14 _ (List.mem_of_getElem? (i := 10) rfl)
theorem xw_361 : Cond.instanceMethod y_MaskEdges_moveAgainstErrors ∈ xT := xTi_14 _ (List.mem_of_getElem? (i := 11) rfl)
theorem xw_362 : Cond.code y_MaskEdges_moveAgainstErrors prog_1_method_29_code 7 (some .boolean) ∈ xT := xTi_14 _ (List.mem_of_getElem? (i := 12) rfl)
theorem xw_363 : Cond.methodLink "MaskEdges" 251 y_MaskEdges_clamp ∈ xT := xTi_14 _ (List.mem_of_getElem? (i := 13) rfl)
theorem xw_364 : Cond.static y_MaskEdges_clamp ∈ xT := xTi_14 _ (List.mem_of_getElem? (i := 14) rfl)
theorem xw_365 : Cond.code y_MaskEdges_clamp prog_1_method_19_code 2 (some .int) ∈ xT := xTi_14 _ (List.mem_of_getElem? (i := 15) rfl)
theorem xw_366 : Cond.methodLink "MaskEdges" 183 y_Math_min ∈ xT := xTi_14 _ (List.mem_of_getElem? (i := 16) rfl)
theorem xw_367 : Cond.methodLink "MaskEdges" 177 y_Piece_moveTo ∈ xT := xTi_14 _ (List.mem_of_getElem? (i := 17) rfl)
theorem xw_368 : Cond.instanceMethod y_Piece_moveTo ∈ xT := xTi_14 _ (List.mem_of_getElem? (i := 18) rfl)
theorem xw_369 : Cond.selects "MaskEdges$Piece" y_Piece_moveTo y_Piece_moveTo ∈ xT := xTi_14 _ (List.mem_of_getElem? (i := 19) rfl)
theorem xw_370 : Cond.code y_Piece_moveTo prog_6_method_9_code 4 (some .boolean) ∈ xT := xTi_14 _ (List.mem_of_getElem? (i := 20) rfl)
theorem xw_371 : Cond.methodLink "MaskEdges$Piece" 93 y_Piece_isFlat ∈ xT := xTi_14 _ (List.mem_of_getElem? (i := 21) rfl)
theorem xw_372 : Cond.methodLink "MaskEdges" 127 y_MaskEdges_takeMovesBack ∈ xT := xTi_14 _ (List.mem_of_getElem? (i := 22) rfl)
theorem xw_373 : Cond.instanceMethod y_MaskEdges_takeMovesBack ∈ xT := xTi_14 _ (List.mem_of_getElem? (i := 23) rfl)
theorem xw_374 : Cond.code y_MaskEdges_takeMovesBack prog_1_method_30_code 2 none ∈ xT := xTi_14 _ (List.mem_of_getElem? (i := 24) rfl)
theorem xw_375 : Cond.methodLink "MaskEdgesLaw" 48 y_MaskEdges_moved ∈ xT := xTi_15 _ (List.mem_of_getElem? (i := 0) rfl)
theorem xw_376 : Cond.instanceMethod y_MaskEdges_moved ∈ xT := xTi_15 _ (List.mem_of_getElem? (i := 1) rfl)
theorem xw_377 : Cond.selects "MaskEdges" y_MaskEdges_moved y_MaskEdges_moved ∈ xT := xTi_15 _ (List.mem_of_getElem? (i := 2) rfl)
theorem xw_378 : Cond.code y_MaskEdges_moved prog_1_method_9_code 2 (some .int) ∈ xT := xTi_15 _ (List.mem_of_getElem? (i := 3) rfl)
theorem xw_379 : Cond.methodLink "MaskEdgesLaw" 52 y_MaskEdges_worst ∈ xT := xTi_15 _ (List.mem_of_getElem? (i := 4) rfl)
theorem xw_380 : Cond.instanceMethod y_MaskEdges_worst ∈ xT := xTi_15 _ (List.mem_of_getElem? (i := 5) rfl)
theorem xw_381 : Cond.selects "MaskEdges" y_MaskEdges_worst y_MaskEdges_worst ∈ xT := xTi_15 _ (List.mem_of_getElem? (i := 6) rfl)
theorem xw_382 : Cond.code y_MaskEdges_worst prog_1_method_10_code 2 (some .int) ∈ xT := xTi_15 _ (List.mem_of_getElem? (i := 7) rfl)
theorem xw_383 : Cond.methodLink "MaskEdgesLaw" 56 y_MaskEdges_helper ∈ xT := xTi_15 _ (List.mem_of_getElem? (i := 8) rfl)
theorem xw_384 : Cond.instanceMethod y_MaskEdges_helper ∈ xT := xTi_15 _ (List.mem_of_getElem? (i := 9) rfl)
theorem xw_385 : Cond.selects "MaskEdges" y_MaskEdges_helper y_MaskEdges_helper ∈ xT := xTi_15 _ (List.mem_of_getElem? (i := 10) rfl)
theorem xw_386 : Cond.code y_MaskEdges_helper prog_1_method_11_code 5 (some .int) ∈ xT := xTi_15 _ (List.mem_of_getElem? (i := 11) rfl)
theorem xw_387 : Cond.methodLink "MaskEdges" 139 y_Piece_mayHaveBar ∈ xT := xTi_15 _ (List.mem_of_getElem? (i := 12) rfl)
theorem xw_388 : Cond.instanceMethod y_Piece_mayHaveBar ∈ xT := xTi_15 _ (List.mem_of_getElem? (i := 13) rfl)
theorem xw_389 : Cond.selects "MaskEdges$Piece" y_Piece_mayHaveBar y_Piece_mayHaveBar ∈ xT := xTi_15 _ (List.mem_of_getElem? (i := 14) rfl)
theorem xw_390 : Cond.code y_Piece_mayHaveBar prog_6_method_7_code 1 (some .boolean) ∈ xT := xTi_15 _ (List.mem_of_getElem? (i := 15) rfl)
theorem xw_391 : Cond.methodLink "MaskEdges" 143 y_MaskEdges_placeBar ∈ xT := xTi_15 _ (List.mem_of_getElem? (i := 16) rfl)
theorem xw_392 : Cond.instanceMethod y_MaskEdges_placeBar ∈ xT := xTi_15 _ (List.mem_of_getElem? (i := 17) rfl)
theorem xw_393 : Cond.code y_MaskEdges_placeBar prog_1_method_31_code 4 none ∈ xT := xTi_15 _ (List.mem_of_getElem? (i := 18) rfl)
theorem xw_394 : Cond.methodLink "MaskEdges" 260 y_Box_isOnGrid ∈ xT := xTi_15 _ (List.mem_of_getElem? (i := 19) rfl)
theorem xw_395 : Cond.instanceMethod y_Box_isOnGrid ∈ xT := xTi_15 _ (List.mem_of_getElem? (i := 20) rfl)
theorem xw_396 : Cond.selects "MaskEdges$Box" y_Box_isOnGrid y_Box_isOnGrid ∈ xT := xTi_15 _ (List.mem_of_getElem? (i := 21) rfl)
theorem xw_397 : Cond.code y_Box_isOnGrid prog_2_method_4_code 1 (some .boolean) ∈ xT := xTi_15 _ (List.mem_of_getElem? (i := 22) rfl)
theorem xw_398 : Cond.methodLink "MaskEdges" 263 y_CellSet_meets ∈ xT := xTi_15 _ (List.mem_of_getElem? (i := 23) rfl)
theorem xw_399 : Cond.instanceMethod y_CellSet_meets ∈ xT := xTi_15 _ (List.mem_of_getElem? (i := 24) rfl)
theorem xw_400 : Cond.selects "MaskEdges$CellSet" y_CellSet_meets y_CellSet_meets ∈ xT := xTi_16 _ (List.mem_of_getElem? (i := 0) rfl)
theorem xw_401 : Cond.code y_CellSet_meets prog_3_method_8_code 6 (some .boolean) ∈ xT := xTi_16 _ (List.mem_of_getElem? (i := 1) rfl)
theorem xw_402 : Cond.methodLink "MaskEdges" 267 y_Box_copyFrom ∈ xT := xTi_16 _ (List.mem_of_getElem? (i := 2) rfl)
theorem xw_403 : Cond.instanceMethod y_Box_copyFrom ∈ xT := xTi_16 _ (List.mem_of_getElem? (i := 3) rfl)
theorem xw_404 : Cond.selects "MaskEdges$Box" y_Box_copyFrom y_Box_copyFrom ∈ xT := xTi_16 _ (List.mem_of_getElem? (i := 4) rfl)
theorem xw_405 : Cond.code y_Box_copyFrom prog_2_method_3_code 2 none ∈ xT := xTi_16 _ (List.mem_of_getElem? (i := 5) rfl)
theorem xw_406 : Cond.methodLink "MaskEdgesLaw" 60 y_MaskEdges_prints ∈ xT := xTi_16 _ (List.mem_of_getElem? (i := 6) rfl)
theorem xw_407 : Cond.instanceMethod y_MaskEdges_prints ∈ xT := xTi_16 _ (List.mem_of_getElem? (i := 7) rfl)
theorem xw_408 : Cond.selects "MaskEdges" y_MaskEdges_prints y_MaskEdges_prints ∈ xT := xTi_16 _ (List.mem_of_getElem? (i := 8) rfl)
theorem xw_409 : Cond.code y_MaskEdges_prints prog_1_method_12_code 6 (some .boolean) ∈ xT := xTi_16 _ (List.mem_of_getElem? (i := 9) rfl)
theorem xw_410 : Cond.methodLink "MaskEdgesLaw" 65 y_MaskEdges_edge ∈ xT := xTi_16 _ (List.mem_of_getElem? (i := 10) rfl)
theorem xw_411 : Cond.instanceMethod y_MaskEdges_edge ∈ xT := xTi_16 _ (List.mem_of_getElem? (i := 11) rfl)
theorem xw_412 : Cond.selects "MaskEdges" y_MaskEdges_edge y_MaskEdges_edge ∈ xT := xTi_16 _ (List.mem_of_getElem? (i := 12) rfl)
theorem xw_413 : Cond.code y_MaskEdges_edge prog_1_method_13_code 3 (some .int) ∈ xT := xTi_16 _ (List.mem_of_getElem? (i := 13) rfl)
theorem xw_414 : Cond.methodLink "MaskEdgesLaw" 69 y_MaskEdges_alike ∈ xT := xTi_16 _ (List.mem_of_getElem? (i := 14) rfl)
theorem xw_415 : Cond.instanceMethod y_MaskEdges_alike ∈ xT := xTi_16 _ (List.mem_of_getElem? (i := 15) rfl)
theorem xw_416 : Cond.selects "MaskEdges" y_MaskEdges_alike y_MaskEdges_alike ∈ xT := xTi_16 _ (List.mem_of_getElem? (i := 16) rfl)
theorem xw_417 : Cond.code y_MaskEdges_alike prog_1_method_14_code 5 (some .boolean) ∈ xT := xTi_16 _ (List.mem_of_getElem? (i := 17) rfl)
theorem xw_418 : Cond.methodLink "MaskEdges" 166 y_Piece_facesLike ∈ xT := xTi_16 _ (List.mem_of_getElem? (i := 18) rfl)
theorem xw_419 : Cond.instanceMethod y_Piece_facesLike ∈ xT := xTi_16 _ (List.mem_of_getElem? (i := 19) rfl)
theorem xw_420 : Cond.selects "MaskEdges$Piece" y_Piece_facesLike y_Piece_facesLike ∈ xT := xTi_16 _ (List.mem_of_getElem? (i := 20) rfl)
theorem xw_421 : Cond.code y_Piece_facesLike prog_6_method_6_code 2 (some .boolean) ∈ xT := xTi_16 _ (List.mem_of_getElem? (i := 21) rfl)
theorem xw_422 : Cond.methodLink "MaskEdges" 170 y_MaskEdges_sameTargetAround ∈ xT := xTi_16 _ (List.mem_of_getElem? (i := 22) rfl)
theorem xw_423 : Cond.instanceMethod y_MaskEdges_sameTargetAround ∈ xT := xTi_16 _ (List.mem_of_getElem? (i := 23) rfl)
theorem xw_424 : Cond.code y_MaskEdges_sameTargetAround prog_1_method_32_code 6 (some .boolean) ∈ xT := xTi_16 _ (List.mem_of_getElem? (i := 24) rfl)
theorem xw_425 : Cond.methodLink "MaskEdges" 180 y_CellSet_has ∈ xT := xTi_17 _ (List.mem_of_getElem? (i := 0) rfl)
theorem xw_426 : Cond.instanceMethod y_CellSet_has ∈ xT := xTi_17 _ (List.mem_of_getElem? (i := 1) rfl)
theorem xw_427 : Cond.selects "MaskEdges$CellSet" y_CellSet_has y_CellSet_has ∈ xT := xTi_17 _ (List.mem_of_getElem? (i := 2) rfl)
theorem xw_428 : Cond.code y_CellSet_has prog_3_method_2_code 3 (some .boolean) ∈ xT := xTi_17 _ (List.mem_of_getElem? (i := 3) rfl)
theorem xw_429 : Cond.methodLink "MaskEdgesLaw" 73 y_MaskEdges_shift ∈ xT := xTi_17 _ (List.mem_of_getElem? (i := 4) rfl)
theorem xw_430 : Cond.instanceMethod y_MaskEdges_shift ∈ xT := xTi_17 _ (List.mem_of_getElem? (i := 5) rfl)
theorem xw_431 : Cond.selects "MaskEdges" y_MaskEdges_shift y_MaskEdges_shift ∈ xT := xTi_17 _ (List.mem_of_getElem? (i := 6) rfl)
theorem xw_432 : Cond.code y_MaskEdges_shift prog_1_method_15_code 6 (some .int) ∈ xT := xTi_17 _ (List.mem_of_getElem? (i := 7) rfl)
theorem xw_433 : Cond.methodLink "MaskEdges" 174 y_Piece_fitsRule ∈ xT := xTi_17 _ (List.mem_of_getElem? (i := 8) rfl)
theorem xw_434 : Cond.instanceMethod y_Piece_fitsRule ∈ xT := xTi_17 _ (List.mem_of_getElem? (i := 9) rfl)
theorem xw_435 : Cond.selects "MaskEdges$Piece" y_Piece_fitsRule y_Piece_fitsRule ∈ xT := xTi_17 _ (List.mem_of_getElem? (i := 10) rfl)
theorem xw_436 : Cond.code y_Piece_fitsRule prog_6_method_8_code 2 (some .boolean) ∈ xT := xTi_17 _ (List.mem_of_getElem? (i := 11) rfl)
theorem xw_437 : Cond.methodLink "MaskEdgesLaw" 77 y_MaskEdges_is ∈ xT := xTi_17 _ (List.mem_of_getElem? (i := 12) rfl)
theorem xw_438 : Cond.instanceMethod y_MaskEdges_is ∈ xT := xTi_17 _ (List.mem_of_getElem? (i := 13) rfl)
theorem xw_439 : Cond.selects "MaskEdges" y_MaskEdges_is y_MaskEdges_is ∈ xT := xTi_17 _ (List.mem_of_getElem? (i := 14) rfl)
theorem xw_440 : Cond.code y_MaskEdges_is prog_1_method_16_code 4 (some .boolean) ∈ xT := xTi_17 _ (List.mem_of_getElem? (i := 15) rfl)
theorem xw_441 : Cond.classLink "MaskEdgesLaw" 10 "MaskEdgesModel" ∈ xT := xTi_17 _ (List.mem_of_getElem? (i := 16) rfl)
theorem xw_442 : Cond.instantiable "MaskEdgesModel" 28 ∈ xT := xTi_17 _ (List.mem_of_getElem? (i := 17) rfl)
theorem xw_443 : Cond.methodLink "MaskEdgesLaw" 12 y_MaskEdgesModel_init ∈ xT := xTi_17 _ (List.mem_of_getElem? (i := 18) rfl)
theorem xw_444 : Cond.instanceMethod y_MaskEdgesModel_init ∈ xT := xTi_17 _ (List.mem_of_getElem? (i := 19) rfl)
theorem xw_445 : Cond.code y_MaskEdgesModel_init prog_8_method_1_code 1 none ∈ xT := xTi_17 _ (List.mem_of_getElem? (i := 20) rfl)
theorem xw_446 : Cond.methodLink "MaskEdgesModel" 1 y_Object_init ∈ xT := xTi_17 _ (List.mem_of_getElem? (i := 21) rfl)
theorem xw_447 : Cond.fieldLink "MaskEdgesModel" 93 "MaskEdgesModel" "polygons" "I" ∈ xT := xTi_17 _ (List.mem_of_getElem? (i := 22) rfl)
theorem xw_448 : Cond.fieldLink "MaskEdgesModel" 7 "MaskEdgesModel" "xs" "[I" ∈ xT := xTi_17 _ (List.mem_of_getElem? (i := 23) rfl)
theorem xw_449 : Cond.fieldLink "MaskEdgesModel" 13 "MaskEdgesModel" "ys" "[I" ∈ xT := xTi_17 _ (List.mem_of_getElem? (i := 24) rfl)
theorem xw_450 : Cond.fieldLink "MaskEdgesModel" 16 "MaskEdgesModel" "sizes" "[I" ∈ xT := xTi_18 _ (List.mem_of_getElem? (i := 0) rfl)
theorem xw_451 : Cond.fieldLink "MaskEdgesModel" 19 "MaskEdgesModel" "isClosed" "[Z" ∈ xT := xTi_18 _ (List.mem_of_getElem? (i := 1) rfl)
theorem xw_452 : Cond.fieldLink "MaskEdgesModel" 115 "MaskEdgesModel" "kernels" "I" ∈ xT := xTi_18 _ (List.mem_of_getElem? (i := 2) rfl)
theorem xw_453 : Cond.fieldLink "MaskEdgesModel" 23 "MaskEdgesModel" "weights" "[I" ∈ xT := xTi_18 _ (List.mem_of_getElem? (i := 3) rfl)
theorem xw_454 : Cond.fieldLink "MaskEdgesModel" 26 "MaskEdgesModel" "widths" "[I" ∈ xT := xTi_18 _ (List.mem_of_getElem? (i := 4) rfl)
theorem xw_455 : Cond.fieldLink "MaskEdgesModel" 29 "MaskEdgesModel" "threshold" "I" ∈ xT := xTi_18 _ (List.mem_of_getElem? (i := 5) rfl)
theorem xw_456 : Cond.fieldLink "MaskEdgesModel" 90 "MaskEdgesModel" "pieces" "I" ∈ xT := xTi_18 _ (List.mem_of_getElem? (i := 6) rfl)
theorem xw_457 : Cond.fieldLink "MaskEdgesModel" 33 "MaskEdgesModel" "across" "[I" ∈ xT := xTi_18 _ (List.mem_of_getElem? (i := 7) rfl)
theorem xw_458 : Cond.fieldLink "MaskEdgesModel" 36 "MaskEdgesModel" "from" "[I" ∈ xT := xTi_18 _ (List.mem_of_getElem? (i := 8) rfl)
theorem xw_459 : Cond.fieldLink "MaskEdgesModel" 39 "MaskEdgesModel" "to" "[I" ∈ xT := xTi_18 _ (List.mem_of_getElem? (i := 9) rfl)
theorem xw_460 : Cond.fieldLink "MaskEdgesModel" 42 "MaskEdgesModel" "isAlongX" "[Z" ∈ xT := xTi_18 _ (List.mem_of_getElem? (i := 10) rfl)
theorem xw_461 : Cond.fieldLink "MaskEdgesModel" 45 "MaskEdgesModel" "isFirst" "[Z" ∈ xT := xTi_18 _ (List.mem_of_getElem? (i := 11) rfl)
theorem xw_462 : Cond.fieldLink "MaskEdgesModel" 48 "MaskEdgesModel" "isLast" "[Z" ∈ xT := xTi_18 _ (List.mem_of_getElem? (i := 12) rfl)
theorem xw_463 : Cond.fieldLink "MaskEdgesModel" 51 "MaskEdgesModel" "out" "[I" ∈ xT := xTi_18 _ (List.mem_of_getElem? (i := 13) rfl)
theorem xw_464 : Cond.fieldLink "MaskEdgesModel" 54 "MaskEdgesModel" "moves" "[I" ∈ xT := xTi_18 _ (List.mem_of_getElem? (i := 14) rfl)
theorem xw_465 : Cond.fieldLink "MaskEdgesModel" 57 "MaskEdgesModel" "before" "[I" ∈ xT := xTi_18 _ (List.mem_of_getElem? (i := 15) rfl)
theorem xw_466 : Cond.fieldLink "MaskEdgesModel" 151 "MaskEdgesModel" "bars" "I" ∈ xT := xTi_18 _ (List.mem_of_getElem? (i := 16) rfl)
theorem xw_467 : Cond.fieldLink "MaskEdgesModel" 60 "MaskEdgesModel" "barX" "[I" ∈ xT := xTi_18 _ (List.mem_of_getElem? (i := 17) rfl)
theorem xw_468 : Cond.fieldLink "MaskEdgesModel" 63 "MaskEdgesModel" "barY" "[I" ∈ xT := xTi_18 _ (List.mem_of_getElem? (i := 18) rfl)
theorem xw_469 : Cond.fieldLink "MaskEdgesModel" 66 "MaskEdgesModel" "barFarX" "[I" ∈ xT := xTi_18 _ (List.mem_of_getElem? (i := 19) rfl)
theorem xw_470 : Cond.fieldLink "MaskEdgesModel" 69 "MaskEdgesModel" "barFarY" "[I" ∈ xT := xTi_18 _ (List.mem_of_getElem? (i := 20) rfl)
theorem xw_471 : Cond.fieldLink "MaskEdgesModel" 72 "MaskEdgesModel" "mask" "[Z" ∈ xT := xTi_18 _ (List.mem_of_getElem? (i := 21) rfl)
theorem xw_472 : Cond.fieldLink "MaskEdgesModel" 75 "MaskEdgesModel" "sums" "[I" ∈ xT := xTi_18 _ (List.mem_of_getElem? (i := 22) rfl)
theorem xw_473 : Cond.fieldLink "MaskEdgesModel" 78 "MaskEdgesModel" "kept" "I" ∈ xT := xTi_18 _ (List.mem_of_getElem? (i := 23) rfl)
theorem xw_474 : Cond.fieldLink "MaskEdgesModel" 81 "MaskEdgesModel" "worsts" "[I" ∈ xT := xTi_18 _ (List.mem_of_getElem? (i := 24) rfl)
theorem xw_475 : Cond.lays "MaskEdgesModel" "MaskEdgesModel" "polygons" "I" ∈ xT := xTi_19 _ (List.mem_of_getElem? (i := 0) rfl)
theorem xw_476 : Cond.laysFinal "MaskEdgesModel" "MaskEdgesModel" "xs" "[I" ∈ xT := xTi_19 _ (List.mem_of_getElem? (i := 1) rfl)
theorem xw_477 : Cond.laysFinal "MaskEdgesModel" "MaskEdgesModel" "ys" "[I" ∈ xT := xTi_19 _ (List.mem_of_getElem? (i := 2) rfl)
theorem xw_478 : Cond.laysFinal "MaskEdgesModel" "MaskEdgesModel" "sizes" "[I" ∈ xT := xTi_19 _ (List.mem_of_getElem? (i := 3) rfl)
theorem xw_479 : Cond.laysFinal "MaskEdgesModel" "MaskEdgesModel" "isClosed" "[Z" ∈ xT := xTi_19 _ (List.mem_of_getElem? (i := 4) rfl)
theorem xw_480 : Cond.lays "MaskEdgesModel" "MaskEdgesModel" "kernels" "I" ∈ xT := xTi_19 _ (List.mem_of_getElem? (i := 5) rfl)
theorem xw_481 : Cond.laysFinal "MaskEdgesModel" "MaskEdgesModel" "weights" "[I" ∈ xT := xTi_19 _ (List.mem_of_getElem? (i := 6) rfl)
theorem xw_482 : Cond.laysFinal "MaskEdgesModel" "MaskEdgesModel" "widths" "[I" ∈ xT := xTi_19 _ (List.mem_of_getElem? (i := 7) rfl)
theorem xw_483 : Cond.lays "MaskEdgesModel" "MaskEdgesModel" "threshold" "I" ∈ xT := xTi_19 _ (List.mem_of_getElem? (i := 8) rfl)
theorem xw_484 : Cond.lays "MaskEdgesModel" "MaskEdgesModel" "pieces" "I" ∈ xT := xTi_19 _ (List.mem_of_getElem? (i := 9) rfl)
theorem xw_485 : Cond.laysFinal "MaskEdgesModel" "MaskEdgesModel" "across" "[I" ∈ xT := xTi_19 _ (List.mem_of_getElem? (i := 10) rfl)
theorem xw_486 : Cond.laysFinal "MaskEdgesModel" "MaskEdgesModel" "from" "[I" ∈ xT := xTi_19 _ (List.mem_of_getElem? (i := 11) rfl)
theorem xw_487 : Cond.laysFinal "MaskEdgesModel" "MaskEdgesModel" "to" "[I" ∈ xT := xTi_19 _ (List.mem_of_getElem? (i := 12) rfl)
theorem xw_488 : Cond.laysFinal "MaskEdgesModel" "MaskEdgesModel" "isAlongX" "[Z" ∈ xT := xTi_19 _ (List.mem_of_getElem? (i := 13) rfl)
theorem xw_489 : Cond.laysFinal "MaskEdgesModel" "MaskEdgesModel" "isFirst" "[Z" ∈ xT := xTi_19 _ (List.mem_of_getElem? (i := 14) rfl)
theorem xw_490 : Cond.laysFinal "MaskEdgesModel" "MaskEdgesModel" "isLast" "[Z" ∈ xT := xTi_19 _ (List.mem_of_getElem? (i := 15) rfl)
theorem xw_491 : Cond.laysFinal "MaskEdgesModel" "MaskEdgesModel" "out" "[I" ∈ xT := xTi_19 _ (List.mem_of_getElem? (i := 16) rfl)
theorem xw_492 : Cond.laysFinal "MaskEdgesModel" "MaskEdgesModel" "moves" "[I" ∈ xT := xTi_19 _ (List.mem_of_getElem? (i := 17) rfl)
theorem xw_493 : Cond.laysFinal "MaskEdgesModel" "MaskEdgesModel" "before" "[I" ∈ xT := xTi_19 _ (List.mem_of_getElem? (i := 18) rfl)
theorem xw_494 : Cond.lays "MaskEdgesModel" "MaskEdgesModel" "bars" "I" ∈ xT := xTi_19 _ (List.mem_of_getElem? (i := 19) rfl)
theorem xw_495 : Cond.laysFinal "MaskEdgesModel" "MaskEdgesModel" "barX" "[I" ∈ xT := xTi_19 _ (List.mem_of_getElem? (i := 20) rfl)
theorem xw_496 : Cond.laysFinal "MaskEdgesModel" "MaskEdgesModel" "barY" "[I" ∈ xT := xTi_19 _ (List.mem_of_getElem? (i := 21) rfl)
theorem xw_497 : Cond.laysFinal "MaskEdgesModel" "MaskEdgesModel" "barFarX" "[I" ∈ xT := xTi_19 _ (List.mem_of_getElem? (i := 22) rfl)
theorem xw_498 : Cond.laysFinal "MaskEdgesModel" "MaskEdgesModel" "barFarY" "[I" ∈ xT := xTi_19 _ (List.mem_of_getElem? (i := 23) rfl)
theorem xw_499 : Cond.laysFinal "MaskEdgesModel" "MaskEdgesModel" "mask" "[Z" ∈ xT := xTi_19 _ (List.mem_of_getElem? (i := 24) rfl)
theorem xw_500 : Cond.laysFinal "MaskEdgesModel" "MaskEdgesModel" "sums" "[I" ∈ xT := xTi_20 _ (List.mem_of_getElem? (i := 0) rfl)
theorem xw_501 : Cond.lays "MaskEdgesModel" "MaskEdgesModel" "kept" "I" ∈ xT := xTi_20 _ (List.mem_of_getElem? (i := 1) rfl)
theorem xw_502 : Cond.laysFinal "MaskEdgesModel" "MaskEdgesModel" "worsts" "[I" ∈ xT := xTi_20 _ (List.mem_of_getElem? (i := 2) rfl)
theorem xw_503 : Cond.arrayClass .boolean ∈ xT := xTi_20 _ (List.mem_of_getElem? (i := 3) rfl)
theorem xw_504 : Cond.methodLink "MaskEdgesLaw" 17 y_MaskEdgesModel_polygon ∈ xT := xTi_20 _ (List.mem_of_getElem? (i := 4) rfl)
theorem xw_505 : Cond.instanceMethod y_MaskEdgesModel_polygon ∈ xT := xTi_20 _ (List.mem_of_getElem? (i := 5) rfl)
theorem xw_506 : Cond.selects "MaskEdgesModel" y_MaskEdgesModel_polygon y_MaskEdgesModel_polygon ∈ xT := xTi_20 _ (List.mem_of_getElem? (i := 6) rfl)
theorem xw_507 : Cond.code y_MaskEdgesModel_polygon prog_8_method_4_code 1 (some .int) ∈ xT := xTi_20 _ (List.mem_of_getElem? (i := 7) rfl)
theorem xw_508 : Cond.methodLink "MaskEdgesLaw" 24 y_MaskEdgesModel_corner ∈ xT := xTi_20 _ (List.mem_of_getElem? (i := 8) rfl)
theorem xw_509 : Cond.instanceMethod y_MaskEdgesModel_corner ∈ xT := xTi_20 _ (List.mem_of_getElem? (i := 9) rfl)
theorem xw_510 : Cond.selects "MaskEdgesModel" y_MaskEdgesModel_corner y_MaskEdgesModel_corner ∈ xT := xTi_20 _ (List.mem_of_getElem? (i := 10) rfl)
theorem xw_511 : Cond.code y_MaskEdgesModel_corner prog_8_method_6_code 10 (some .boolean) ∈ xT := xTi_20 _ (List.mem_of_getElem? (i := 11) rfl)
theorem xw_512 : Cond.methodLink "MaskEdgesModel" 86 y_MaskEdgesModel_isBetween ∈ xT := xTi_20 _ (List.mem_of_getElem? (i := 12) rfl)
theorem xw_513 : Cond.static y_MaskEdgesModel_isBetween ∈ xT := xTi_20 _ (List.mem_of_getElem? (i := 13) rfl)
theorem xw_514 : Cond.code y_MaskEdgesModel_isBetween prog_8_method_2_code 6 (some .boolean) ∈ xT := xTi_20 _ (List.mem_of_getElem? (i := 14) rfl)
theorem xw_515 : Cond.constantLong "MaskEdgesModel" 96 (48 : Int64) ∈ xT := xTi_20 _ (List.mem_of_getElem? (i := 15) rfl)
theorem xw_516 : Cond.methodLink "MaskEdgesModel" 98 y_MaskEdgesModel_goesAlongX ∈ xT := xTi_20 _ (List.mem_of_getElem? (i := 16) rfl)
theorem xw_517 : Cond.instanceMethod y_MaskEdgesModel_goesAlongX ∈ xT := xTi_20 _ (List.mem_of_getElem? (i := 17) rfl)
theorem xw_518 : Cond.code y_MaskEdgesModel_goesAlongX prog_8_method_5_code 5 (some .boolean) ∈ xT := xTi_20 _ (List.mem_of_getElem? (i := 18) rfl)
theorem xw_519 : Cond.methodLink "MaskEdgesLaw" 29 y_MaskEdgesModel_kernel ∈ xT := xTi_20 _ (List.mem_of_getElem? (i := 19) rfl)
theorem xw_520 : Cond.instanceMethod y_MaskEdgesModel_kernel ∈ xT := xTi_20 _ (List.mem_of_getElem? (i := 20) rfl)
theorem xw_521 : Cond.selects "MaskEdgesModel" y_MaskEdgesModel_kernel y_MaskEdgesModel_kernel ∈ xT := xTi_20 _ (List.mem_of_getElem? (i := 21) rfl)
theorem xw_522 : Cond.code y_MaskEdgesModel_kernel prog_8_method_9_code 3 (some .int) ∈ xT := xTi_20 _ (List.mem_of_getElem? (i := 22) rfl)
theorem xw_523 : Cond.constantLong "MaskEdgesModel" 109 (-20 : Int64) ∈ xT := xTi_20 _ (List.mem_of_getElem? (i := 23) rfl)
theorem xw_524 : Cond.constantLong "MaskEdgesModel" 111 (20 : Int64) ∈ xT := xTi_20 _ (List.mem_of_getElem? (i := 24) rfl)
theorem xw_525 : Cond.constantLong "MaskEdgesModel" 113 (6 : Int64) ∈ xT := xTi_21 _ (List.mem_of_getElem? (i := 0) rfl)
theorem xw_526 : Cond.methodLink "MaskEdgesLaw" 34 y_MaskEdgesModel_cut ∈ xT := xTi_21 _ (List.mem_of_getElem? (i := 1) rfl)
theorem xw_527 : Cond.instanceMethod y_MaskEdgesModel_cut ∈ xT := xTi_21 _ (List.mem_of_getElem? (i := 2) rfl)
theorem xw_528 : Cond.selects "MaskEdgesModel" y_MaskEdgesModel_cut y_MaskEdgesModel_cut ∈ xT := xTi_21 _ (List.mem_of_getElem? (i := 3) rfl)
theorem xw_529 : Cond.code y_MaskEdgesModel_cut prog_8_method_16_code 5 (some .int) ∈ xT := xTi_21 _ (List.mem_of_getElem? (i := 4) rfl)
theorem xw_530 : Cond.methodLink "MaskEdgesModel" 132 y_MaskEdgesModel_hasClosed ∈ xT := xTi_21 _ (List.mem_of_getElem? (i := 5) rfl)
theorem xw_531 : Cond.instanceMethod y_MaskEdgesModel_hasClosed ∈ xT := xTi_21 _ (List.mem_of_getElem? (i := 6) rfl)
theorem xw_532 : Cond.code y_MaskEdgesModel_hasClosed prog_8_method_10_code 3 (some .boolean) ∈ xT := xTi_21 _ (List.mem_of_getElem? (i := 7) rfl)
theorem xw_533 : Cond.methodLink "MaskEdgesModel" 122 y_MaskEdgesModel_lengthOf ∈ xT := xTi_21 _ (List.mem_of_getElem? (i := 8) rfl)
theorem xw_534 : Cond.instanceMethod y_MaskEdgesModel_lengthOf ∈ xT := xTi_21 _ (List.mem_of_getElem? (i := 9) rfl)
theorem xw_535 : Cond.code y_MaskEdgesModel_lengthOf prog_8_method_11_code 6 (some .int) ∈ xT := xTi_21 _ (List.mem_of_getElem? (i := 10) rfl)
theorem xw_536 : Cond.methodLink "MaskEdgesModel" 136 y_MaskEdgesModel_addPieces ∈ xT := xTi_21 _ (List.mem_of_getElem? (i := 11) rfl)
theorem xw_537 : Cond.instanceMethod y_MaskEdgesModel_addPieces ∈ xT := xTi_21 _ (List.mem_of_getElem? (i := 12) rfl)
theorem xw_538 : Cond.code y_MaskEdgesModel_addPieces prog_8_method_15_code 15 none ∈ xT := xTi_21 _ (List.mem_of_getElem? (i := 13) rfl)
theorem xw_539 : Cond.methodLink "MaskEdgesModel" 126 y_MaskEdgesModel_besideX ∈ xT := xTi_21 _ (List.mem_of_getElem? (i := 14) rfl)
theorem xw_540 : Cond.instanceMethod y_MaskEdgesModel_besideX ∈ xT := xTi_21 _ (List.mem_of_getElem? (i := 15) rfl)
theorem xw_541 : Cond.code y_MaskEdgesModel_besideX prog_8_method_13_code 3 (some .int) ∈ xT := xTi_21 _ (List.mem_of_getElem? (i := 16) rfl)
theorem xw_542 : Cond.methodLink "MaskEdgesModel" 118 y_MaskEdgesModel_middle ∈ xT := xTi_21 _ (List.mem_of_getElem? (i := 17) rfl)
theorem xw_543 : Cond.instanceMethod y_MaskEdgesModel_middle ∈ xT := xTi_21 _ (List.mem_of_getElem? (i := 18) rfl)
theorem xw_544 : Cond.code y_MaskEdgesModel_middle prog_8_method_12_code 2 (some .int) ∈ xT := xTi_21 _ (List.mem_of_getElem? (i := 19) rfl)
theorem xw_545 : Cond.methodLink "MaskEdgesModel" 129 y_MaskEdgesModel_besideY ∈ xT := xTi_21 _ (List.mem_of_getElem? (i := 20) rfl)
theorem xw_546 : Cond.instanceMethod y_MaskEdgesModel_besideY ∈ xT := xTi_21 _ (List.mem_of_getElem? (i := 21) rfl)
theorem xw_547 : Cond.code y_MaskEdgesModel_besideY prog_8_method_14_code 3 (some .int) ∈ xT := xTi_21 _ (List.mem_of_getElem? (i := 22) rfl)
theorem xw_548 : Cond.methodLink "MaskEdgesModel" 105 y_MaskEdgesModel_isIn ∈ xT := xTi_21 _ (List.mem_of_getElem? (i := 23) rfl)
theorem xw_549 : Cond.instanceMethod y_MaskEdgesModel_isIn ∈ xT := xTi_21 _ (List.mem_of_getElem? (i := 24) rfl)
theorem xw_550 : Cond.code y_MaskEdgesModel_isIn prog_8_method_7_code 10 (some .boolean) ∈ xT := xTi_22 _ (List.mem_of_getElem? (i := 0) rfl)
theorem xw_551 : Cond.methodLink "MaskEdgesModel" 102 y_MaskEdgesModel_isCell ∈ xT := xTi_22 _ (List.mem_of_getElem? (i := 1) rfl)
theorem xw_552 : Cond.static y_MaskEdgesModel_isCell ∈ xT := xTi_22 _ (List.mem_of_getElem? (i := 2) rfl)
theorem xw_553 : Cond.code y_MaskEdgesModel_isCell prog_8_method_3_code 2 (some .boolean) ∈ xT := xTi_22 _ (List.mem_of_getElem? (i := 3) rfl)
theorem xw_554 : Cond.constantLong "MaskEdgesModel" 84 (47 : Int64) ∈ xT := xTi_22 _ (List.mem_of_getElem? (i := 4) rfl)
theorem xw_555 : Cond.methodLink "MaskEdgesLaw" 38 y_MaskEdgesModel_image ∈ xT := xTi_22 _ (List.mem_of_getElem? (i := 5) rfl)
theorem xw_556 : Cond.instanceMethod y_MaskEdgesModel_image ∈ xT := xTi_22 _ (List.mem_of_getElem? (i := 6) rfl)
theorem xw_557 : Cond.selects "MaskEdgesModel" y_MaskEdgesModel_image y_MaskEdgesModel_image ∈ xT := xTi_22 _ (List.mem_of_getElem? (i := 7) rfl)
theorem xw_558 : Cond.code y_MaskEdgesModel_image prog_8_method_24_code 3 (some .int) ∈ xT := xTi_22 _ (List.mem_of_getElem? (i := 8) rfl)
theorem xw_559 : Cond.methodLink "MaskEdgesModel" 166 y_MaskEdgesModel_make ∈ xT := xTi_22 _ (List.mem_of_getElem? (i := 9) rfl)
theorem xw_560 : Cond.instanceMethod y_MaskEdgesModel_make ∈ xT := xTi_22 _ (List.mem_of_getElem? (i := 10) rfl)
theorem xw_561 : Cond.code y_MaskEdgesModel_make prog_8_method_19_code 4 none ∈ xT := xTi_22 _ (List.mem_of_getElem? (i := 11) rfl)
theorem xw_562 : Cond.methodLink "MaskEdgesModel" 144 y_MaskEdgesModel_isTarget ∈ xT := xTi_22 _ (List.mem_of_getElem? (i := 12) rfl)
theorem xw_563 : Cond.instanceMethod y_MaskEdgesModel_isTarget ∈ xT := xTi_22 _ (List.mem_of_getElem? (i := 13) rfl)
theorem xw_564 : Cond.code y_MaskEdgesModel_isTarget prog_8_method_8_code 5 (some .boolean) ∈ xT := xTi_22 _ (List.mem_of_getElem? (i := 14) rfl)
theorem xw_565 : Cond.methodLink "MaskEdgesModel" 147 y_MaskEdgesModel_putPiece ∈ xT := xTi_22 _ (List.mem_of_getElem? (i := 15) rfl)
theorem xw_566 : Cond.instanceMethod y_MaskEdgesModel_putPiece ∈ xT := xTi_22 _ (List.mem_of_getElem? (i := 16) rfl)
theorem xw_567 : Cond.code y_MaskEdgesModel_putPiece prog_8_method_18_code 7 none ∈ xT := xTi_22 _ (List.mem_of_getElem? (i := 17) rfl)
theorem xw_568 : Cond.methodLink "MaskEdgesModel" 140 y_MaskEdgesModel_put ∈ xT := xTi_22 _ (List.mem_of_getElem? (i := 18) rfl)
theorem xw_569 : Cond.instanceMethod y_MaskEdgesModel_put ∈ xT := xTi_22 _ (List.mem_of_getElem? (i := 19) rfl)
theorem xw_570 : Cond.code y_MaskEdgesModel_put prog_8_method_17_code 4 none ∈ xT := xTi_22 _ (List.mem_of_getElem? (i := 20) rfl)
theorem xw_571 : Cond.methodLink "MaskEdgesModel" 161 y_MaskEdgesModel_imageAt ∈ xT := xTi_22 _ (List.mem_of_getElem? (i := 21) rfl)
theorem xw_572 : Cond.instanceMethod y_MaskEdgesModel_imageAt ∈ xT := xTi_22 _ (List.mem_of_getElem? (i := 22) rfl)
theorem xw_573 : Cond.code y_MaskEdgesModel_imageAt prog_8_method_22_code 5 (some .int) ∈ xT := xTi_22 _ (List.mem_of_getElem? (i := 23) rfl)
theorem xw_574 : Cond.methodLink "MaskEdgesModel" 157 y_MaskEdgesModel_countAt ∈ xT := xTi_22 _ (List.mem_of_getElem? (i := 24) rfl)
theorem xw_575 : Cond.instanceMethod y_MaskEdgesModel_countAt ∈ xT := xTi_23 _ (List.mem_of_getElem? (i := 0) rfl)
theorem xw_576 : Cond.code y_MaskEdgesModel_countAt prog_8_method_21_code 8 (some .int) ∈ xT := xTi_23 _ (List.mem_of_getElem? (i := 1) rfl)
theorem xw_577 : Cond.methodLink "MaskEdgesModel" 154 y_MaskEdgesModel_within ∈ xT := xTi_23 _ (List.mem_of_getElem? (i := 2) rfl)
theorem xw_578 : Cond.static y_MaskEdgesModel_within ∈ xT := xTi_23 _ (List.mem_of_getElem? (i := 3) rfl)
theorem xw_579 : Cond.code y_MaskEdgesModel_within prog_8_method_20_code 1 (some .int) ∈ xT := xTi_23 _ (List.mem_of_getElem? (i := 4) rfl)
theorem xw_580 : Cond.methodLink "MaskEdgesLaw" 42 y_MaskEdgesModel_error ∈ xT := xTi_23 _ (List.mem_of_getElem? (i := 5) rfl)
theorem xw_581 : Cond.instanceMethod y_MaskEdgesModel_error ∈ xT := xTi_23 _ (List.mem_of_getElem? (i := 6) rfl)
theorem xw_582 : Cond.selects "MaskEdgesModel" y_MaskEdgesModel_error y_MaskEdgesModel_error ∈ xT := xTi_23 _ (List.mem_of_getElem? (i := 7) rfl)
theorem xw_583 : Cond.code y_MaskEdgesModel_error prog_8_method_28_code 2 (some .int) ∈ xT := xTi_23 _ (List.mem_of_getElem? (i := 8) rfl)
theorem xw_584 : Cond.methodLink "MaskEdgesModel" 175 y_MaskEdgesModel_edge ∈ xT := xTi_23 _ (List.mem_of_getElem? (i := 9) rfl)
theorem xw_585 : Cond.instanceMethod y_MaskEdgesModel_edge ∈ xT := xTi_23 _ (List.mem_of_getElem? (i := 10) rfl)
theorem xw_586 : Cond.selects "MaskEdgesModel" y_MaskEdgesModel_edge y_MaskEdgesModel_edge ∈ xT := xTi_23 _ (List.mem_of_getElem? (i := 11) rfl)
theorem xw_587 : Cond.code y_MaskEdgesModel_edge prog_8_method_29_code 3 (some .int) ∈ xT := xTi_23 _ (List.mem_of_getElem? (i := 12) rfl)
theorem xw_588 : Cond.methodLink "MaskEdgesModel" 178 y_MaskEdgesModel_isPiece ∈ xT := xTi_23 _ (List.mem_of_getElem? (i := 13) rfl)
theorem xw_589 : Cond.instanceMethod y_MaskEdgesModel_isPiece ∈ xT := xTi_23 _ (List.mem_of_getElem? (i := 14) rfl)
theorem xw_590 : Cond.code y_MaskEdgesModel_isPiece prog_8_method_25_code 2 (some .boolean) ∈ xT := xTi_23 _ (List.mem_of_getElem? (i := 15) rfl)
theorem xw_591 : Cond.constantLong "MaskEdgesModel" 182 (1000 : Int64) ∈ xT := xTi_23 _ (List.mem_of_getElem? (i := 16) rfl)
theorem xw_592 : Cond.methodLink "MaskEdgesModel" 172 y_MaskEdgesModel_errorAt ∈ xT := xTi_23 _ (List.mem_of_getElem? (i := 17) rfl)
theorem xw_593 : Cond.instanceMethod y_MaskEdgesModel_errorAt ∈ xT := xTi_23 _ (List.mem_of_getElem? (i := 18) rfl)
theorem xw_594 : Cond.code y_MaskEdgesModel_errorAt prog_8_method_26_code 10 (some .int) ∈ xT := xTi_23 _ (List.mem_of_getElem? (i := 19) rfl)
theorem xw_595 : Cond.methodLink "MaskEdgesModel" 169 y_MaskEdgesModel_doesPrint ∈ xT := xTi_23 _ (List.mem_of_getElem? (i := 20) rfl)
theorem xw_596 : Cond.instanceMethod y_MaskEdgesModel_doesPrint ∈ xT := xTi_23 _ (List.mem_of_getElem? (i := 21) rfl)
theorem xw_597 : Cond.code y_MaskEdgesModel_doesPrint prog_8_method_23_code 4 (some .boolean) ∈ xT := xTi_23 _ (List.mem_of_getElem? (i := 22) rfl)
theorem xw_598 : Cond.constantLong "MaskEdgesModel" 164 (100 : Int64) ∈ xT := xTi_23 _ (List.mem_of_getElem? (i := 23) rfl)
theorem xw_599 : Cond.methodLink "MaskEdgesLaw" 68 y_MaskEdgesModel_edge ∈ xT := xTi_23 _ (List.mem_of_getElem? (i := 24) rfl)
theorem xw_600 : Cond.methodLink "MaskEdgesLaw" 47 y_MaskEdgesModel_run ∈ xT := xTi_24 _ (List.mem_of_getElem? (i := 0) rfl)
theorem xw_601 : Cond.instanceMethod y_MaskEdgesModel_run ∈ xT := xTi_24 _ (List.mem_of_getElem? (i := 1) rfl)
theorem xw_602 : Cond.selects "MaskEdgesModel" y_MaskEdgesModel_run y_MaskEdgesModel_run ∈ xT := xTi_24 _ (List.mem_of_getElem? (i := 2) rfl)
theorem xw_603 : Cond.code y_MaskEdgesModel_run prog_8_method_33_code 7 (some .int) ∈ xT := xTi_24 _ (List.mem_of_getElem? (i := 3) rfl)
theorem xw_604 : Cond.constantLong "MaskEdgesModel" 187 (100000 : Int64) ∈ xT := xTi_24 _ (List.mem_of_getElem? (i := 4) rfl)
theorem xw_605 : Cond.constantLong "MaskEdgesModel" 189 (4 : Int64) ∈ xT := xTi_24 _ (List.mem_of_getElem? (i := 5) rfl)
theorem xw_606 : Cond.methodLink "MaskEdgesModel" 191 y_MaskEdgesModel_worstNow ∈ xT := xTi_24 _ (List.mem_of_getElem? (i := 6) rfl)
theorem xw_607 : Cond.instanceMethod y_MaskEdgesModel_worstNow ∈ xT := xTi_24 _ (List.mem_of_getElem? (i := 7) rfl)
theorem xw_608 : Cond.code y_MaskEdgesModel_worstNow prog_8_method_27_code 4 (some .int) ∈ xT := xTi_24 _ (List.mem_of_getElem? (i := 8) rfl)
theorem xw_609 : Cond.methodLink "MaskEdgesModel" 195 y_MaskEdgesModel_moveAll ∈ xT := xTi_24 _ (List.mem_of_getElem? (i := 9) rfl)
theorem xw_610 : Cond.instanceMethod y_MaskEdgesModel_moveAll ∈ xT := xTi_24 _ (List.mem_of_getElem? (i := 10) rfl)
theorem xw_611 : Cond.code y_MaskEdgesModel_moveAll prog_8_method_31_code 6 (some .boolean) ∈ xT := xTi_24 _ (List.mem_of_getElem? (i := 11) rfl)
theorem xw_612 : Cond.methodLink "MaskEdgesModel" 184 y_MaskEdgesModel_clamp ∈ xT := xTi_24 _ (List.mem_of_getElem? (i := 12) rfl)
theorem xw_613 : Cond.static y_MaskEdgesModel_clamp ∈ xT := xTi_24 _ (List.mem_of_getElem? (i := 13) rfl)
theorem xw_614 : Cond.code y_MaskEdgesModel_clamp prog_8_method_30_code 2 (some .int) ∈ xT := xTi_24 _ (List.mem_of_getElem? (i := 14) rfl)
theorem xw_615 : Cond.methodLink "MaskEdgesModel" 198 y_MaskEdgesModel_moveBack ∈ xT := xTi_24 _ (List.mem_of_getElem? (i := 15) rfl)
theorem xw_616 : Cond.instanceMethod y_MaskEdgesModel_moveBack ∈ xT := xTi_24 _ (List.mem_of_getElem? (i := 16) rfl)
theorem xw_617 : Cond.code y_MaskEdgesModel_moveBack prog_8_method_32_code 2 none ∈ xT := xTi_24 _ (List.mem_of_getElem? (i := 17) rfl)
theorem xw_618 : Cond.methodLink "MaskEdgesLaw" 51 y_MaskEdgesModel_moved ∈ xT := xTi_24 _ (List.mem_of_getElem? (i := 18) rfl)
theorem xw_619 : Cond.instanceMethod y_MaskEdgesModel_moved ∈ xT := xTi_24 _ (List.mem_of_getElem? (i := 19) rfl)
theorem xw_620 : Cond.selects "MaskEdgesModel" y_MaskEdgesModel_moved y_MaskEdgesModel_moved ∈ xT := xTi_24 _ (List.mem_of_getElem? (i := 20) rfl)
theorem xw_621 : Cond.code y_MaskEdgesModel_moved prog_8_method_34_code 2 (some .int) ∈ xT := xTi_24 _ (List.mem_of_getElem? (i := 21) rfl)
theorem xw_622 : Cond.methodLink "MaskEdgesLaw" 55 y_MaskEdgesModel_worst ∈ xT := xTi_24 _ (List.mem_of_getElem? (i := 22) rfl)
theorem xw_623 : Cond.instanceMethod y_MaskEdgesModel_worst ∈ xT := xTi_24 _ (List.mem_of_getElem? (i := 23) rfl)
theorem xw_624 : Cond.selects "MaskEdgesModel" y_MaskEdgesModel_worst y_MaskEdgesModel_worst ∈ xT := xTi_24 _ (List.mem_of_getElem? (i := 24) rfl)
theorem xw_625 : Cond.code y_MaskEdgesModel_worst prog_8_method_35_code 2 (some .int) ∈ xT := xTi_25 _ (List.mem_of_getElem? (i := 0) rfl)
theorem xw_626 : Cond.methodLink "MaskEdgesLaw" 59 y_MaskEdgesModel_helper ∈ xT := xTi_25 _ (List.mem_of_getElem? (i := 1) rfl)
theorem xw_627 : Cond.instanceMethod y_MaskEdgesModel_helper ∈ xT := xTi_25 _ (List.mem_of_getElem? (i := 2) rfl)
theorem xw_628 : Cond.selects "MaskEdgesModel" y_MaskEdgesModel_helper y_MaskEdgesModel_helper ∈ xT := xTi_25 _ (List.mem_of_getElem? (i := 3) rfl)
theorem xw_629 : Cond.code y_MaskEdgesModel_helper prog_8_method_38_code 5 (some .int) ∈ xT := xTi_25 _ (List.mem_of_getElem? (i := 4) rfl)
theorem xw_630 : Cond.constantLong "MaskEdgesModel" 205 (8 : Int64) ∈ xT := xTi_25 _ (List.mem_of_getElem? (i := 5) rfl)
theorem xw_631 : Cond.methodLink "MaskEdgesModel" 207 y_MaskEdgesModel_hasCome ∈ xT := xTi_25 _ (List.mem_of_getElem? (i := 6) rfl)
theorem xw_632 : Cond.instanceMethod y_MaskEdgesModel_hasCome ∈ xT := xTi_25 _ (List.mem_of_getElem? (i := 7) rfl)
theorem xw_633 : Cond.code y_MaskEdgesModel_hasCome prog_8_method_37_code 12 (some .boolean) ∈ xT := xTi_25 _ (List.mem_of_getElem? (i := 8) rfl)
theorem xw_634 : Cond.methodLink "MaskEdgesModel" 201 y_MaskEdgesModel_isFree ∈ xT := xTi_25 _ (List.mem_of_getElem? (i := 9) rfl)
theorem xw_635 : Cond.instanceMethod y_MaskEdgesModel_isFree ∈ xT := xTi_25 _ (List.mem_of_getElem? (i := 10) rfl)
theorem xw_636 : Cond.code y_MaskEdgesModel_isFree prog_8_method_36_code 8 (some .boolean) ∈ xT := xTi_25 _ (List.mem_of_getElem? (i := 11) rfl)
theorem xw_637 : Cond.methodLink "MaskEdgesLaw" 64 y_MaskEdgesModel_prints ∈ xT := xTi_25 _ (List.mem_of_getElem? (i := 12) rfl)
theorem xw_638 : Cond.instanceMethod y_MaskEdgesModel_prints ∈ xT := xTi_25 _ (List.mem_of_getElem? (i := 13) rfl)
theorem xw_639 : Cond.selects "MaskEdgesModel" y_MaskEdgesModel_prints y_MaskEdgesModel_prints ∈ xT := xTi_25 _ (List.mem_of_getElem? (i := 14) rfl)
theorem xw_640 : Cond.code y_MaskEdgesModel_prints prog_8_method_39_code 6 (some .boolean) ∈ xT := xTi_25 _ (List.mem_of_getElem? (i := 15) rfl)
theorem xw_641 : Cond.methodLink "MaskEdgesLaw" 72 y_MaskEdgesModel_alike ∈ xT := xTi_25 _ (List.mem_of_getElem? (i := 16) rfl)
theorem xw_642 : Cond.instanceMethod y_MaskEdgesModel_alike ∈ xT := xTi_25 _ (List.mem_of_getElem? (i := 17) rfl)
theorem xw_643 : Cond.selects "MaskEdgesModel" y_MaskEdgesModel_alike y_MaskEdgesModel_alike ∈ xT := xTi_25 _ (List.mem_of_getElem? (i := 18) rfl)
theorem xw_644 : Cond.code y_MaskEdgesModel_alike prog_8_method_40_code 7 (some .boolean) ∈ xT := xTi_25 _ (List.mem_of_getElem? (i := 19) rfl)
theorem xw_645 : Cond.methodLink "MaskEdgesLaw" 76 y_MaskEdgesModel_shift ∈ xT := xTi_25 _ (List.mem_of_getElem? (i := 20) rfl)
theorem xw_646 : Cond.instanceMethod y_MaskEdgesModel_shift ∈ xT := xTi_25 _ (List.mem_of_getElem? (i := 21) rfl)
theorem xw_647 : Cond.selects "MaskEdgesModel" y_MaskEdgesModel_shift y_MaskEdgesModel_shift ∈ xT := xTi_25 _ (List.mem_of_getElem? (i := 22) rfl)
theorem xw_648 : Cond.code y_MaskEdgesModel_shift prog_8_method_41_code 7 (some .int) ∈ xT := xTi_25 _ (List.mem_of_getElem? (i := 23) rfl)
theorem xw_649 : Cond.constantLong "MaskEdgesModel" 210 (3 : Int64) ∈ xT := xTi_25 _ (List.mem_of_getElem? (i := 24) rfl)
theorem xw_650 : Cond.constantLong "MaskEdgesModel" 212 (-6 : Int64) ∈ xT := xTi_26 _ (List.mem_of_getElem? (i := 0) rfl)
theorem xw_651 : Cond.methodLink "MaskEdgesLaw" 81 y_MaskEdgesModel_is ∈ xT := xTi_26 _ (List.mem_of_getElem? (i := 1) rfl)
theorem xw_652 : Cond.instanceMethod y_MaskEdgesModel_is ∈ xT := xTi_26 _ (List.mem_of_getElem? (i := 2) rfl)
theorem xw_653 : Cond.selects "MaskEdgesModel" y_MaskEdgesModel_is y_MaskEdgesModel_is ∈ xT := xTi_26 _ (List.mem_of_getElem? (i := 3) rfl)
theorem xw_654 : Cond.code y_MaskEdgesModel_is prog_8_method_42_code 4 (some .boolean) ∈ xT := xTi_26 _ (List.mem_of_getElem? (i := 4) rfl)
theorem xw_655 : Cond.constantLong "MaskEdgesModel" 214 (2 : Int64) ∈ xT := xTi_26 _ (List.mem_of_getElem? (i := 5) rfl)
theorem xw_656 : Cond.constantLong "MaskEdgesLaw" 18 (4294967295 : Int64) ∈ xT := xTi_26 _ (List.mem_of_getElem? (i := 6) rfl)
def xNl : List Cond := [Cond.methodLinkNest "MaskEdges" 33 y_CellSet_init "MaskEdges", Cond.methodLinkNest "MaskEdges" 46 y_Exposure_init "MaskEdges", Cond.methodLinkNest "MaskEdges" 54 y_Box_init "MaskEdges", Cond.methodLinkNest "MaskEdges" 59 y_Outline_init "MaskEdges", Cond.methodLinkNest "MaskEdges" 60 y_Piece_init "MaskEdges", Cond.methodLinkNest "MaskEdges$CellSet" 15 y_MaskEdges_onGrid "MaskEdges", Cond.methodLinkNest "MaskEdges$CellSet" 28 y_MaskEdges_columnBits "MaskEdges", Cond.methodLinkNest "MaskEdges$Exposure" 31 y_MaskEdges_onGrid "MaskEdges", Cond.methodLinkNest "MaskEdges$Piece" 97 y_MaskEdges_clamp "MaskEdges"]
theorem xn_0 : Cond.methodLinkNest "MaskEdges" 33 y_CellSet_init "MaskEdges" ∈ xNl := List.mem_of_getElem? (i := 0) rfl
theorem xn_1 : Cond.methodLinkNest "MaskEdges" 46 y_Exposure_init "MaskEdges" ∈ xNl := List.mem_of_getElem? (i := 1) rfl
theorem xn_2 : Cond.methodLinkNest "MaskEdges" 54 y_Box_init "MaskEdges" ∈ xNl := List.mem_of_getElem? (i := 2) rfl
theorem xn_3 : Cond.methodLinkNest "MaskEdges" 59 y_Outline_init "MaskEdges" ∈ xNl := List.mem_of_getElem? (i := 3) rfl
theorem xn_4 : Cond.methodLinkNest "MaskEdges" 60 y_Piece_init "MaskEdges" ∈ xNl := List.mem_of_getElem? (i := 4) rfl
theorem xn_5 : Cond.methodLinkNest "MaskEdges$CellSet" 15 y_MaskEdges_onGrid "MaskEdges" ∈ xNl := List.mem_of_getElem? (i := 5) rfl
theorem xn_6 : Cond.methodLinkNest "MaskEdges$CellSet" 28 y_MaskEdges_columnBits "MaskEdges" ∈ xNl := List.mem_of_getElem? (i := 6) rfl
theorem xn_7 : Cond.methodLinkNest "MaskEdges$Exposure" 31 y_MaskEdges_onGrid "MaskEdges" ∈ xNl := List.mem_of_getElem? (i := 7) rfl
theorem xn_8 : Cond.methodLinkNest "MaskEdges$Piece" 97 y_MaskEdges_clamp "MaskEdges" ∈ xNl := List.mem_of_getElem? (i := 8) rfl
theorem xw_math_min : Cond.code Lib.Math.min.name Lib.Math.min.code 2 (some .int) ∈ xT := xTi_8 _ (List.mem_of_getElem? (i := 16) rfl)
theorem xw_math_max : Cond.code Lib.Math.max.name Lib.Math.max.code 2 (some .int) ∈ xT := xTi_8 _ (List.mem_of_getElem? (i := 19) rfl)
theorem xw_math_abs : Cond.code Lib.Math.abs.name Lib.Math.abs.code 1 (some .int) ∈ xT := xTi_11 _ (List.mem_of_getElem? (i := 16) rfl)
theorem xw_obj : Cond.code objectInit ⟨#[0xb1]⟩ 1 none ∈ xT := xTi_2 _ (List.mem_of_getElem? (i := 3) rfl)
def F_Box : u_T := fun k => match k with
  | 0 => ("MaskEdges$Box", "left", "I", false)
  | 1 => ("MaskEdges$Box", "top", "I", false)
  | 2 => ("MaskEdges$Box", "right", "I", false)
  | _ => ("MaskEdges$Box", "bottom", "I", false)
def ty_Box : Nat → FieldType := fun k => match k with
  | 0 => .int
  | 1 => .int
  | 2 => .int
  | _ => .int
theorem nm_Box : ∀ a, a < 4 → ∀ b, b < 4 → a ≠ b → (F_Box a).2.1 ≠ (F_Box b).2.1 := by decide +kernel
theorem tyk_Box : ∀ k, k < 4 → parseFieldDescriptor (F_Box k).2.2.1 = some (ty_Box k) := by decide +kernel
theorem in_Box : ∀ w ∈ u_ws "MaskEdges$Box" F_Box 4, w ∈ xT := List.forall_mem_cons.mpr ⟨xw_96, List.forall_mem_cons.mpr ⟨xw_97, List.forall_mem_cons.mpr ⟨xw_98, List.forall_mem_cons.mpr ⟨xw_99, fun _ h => absurd h List.not_mem_nil⟩⟩⟩⟩
def F_CellSet : u_T := fun k => match k with
  | _ => ("MaskEdges$CellSet", "rows", "[J", true)
def ty_CellSet : Nat → FieldType := fun k => match k with
  | _ => .array .long
theorem nm_CellSet : ∀ a, a < 1 → ∀ b, b < 1 → a ≠ b → (F_CellSet a).2.1 ≠ (F_CellSet b).2.1 := by decide +kernel
theorem tyk_CellSet : ∀ k, k < 1 → parseFieldDescriptor (F_CellSet k).2.2.1 = some (ty_CellSet k) := by decide +kernel
theorem in_CellSet : ∀ w ∈ u_ws "MaskEdges$CellSet" F_CellSet 1, w ∈ xT := List.forall_mem_cons.mpr ⟨xw_63, fun _ h => absurd h List.not_mem_nil⟩
def F_Exposure : u_T := fun k => match k with
  | 0 => ("MaskEdges$Exposure", "weights", "[I", true)
  | 1 => ("MaskEdges$Exposure", "widths", "[I", true)
  | 2 => ("MaskEdges$Exposure", "kernels", "I", false)
  | _ => ("MaskEdges$Exposure", "threshold", "I", false)
def ty_Exposure : Nat → FieldType := fun k => match k with
  | 0 => .array .int
  | 1 => .array .int
  | 2 => .int
  | _ => .int
theorem nm_Exposure : ∀ a, a < 4 → ∀ b, b < 4 → a ≠ b → (F_Exposure a).2.1 ≠ (F_Exposure b).2.1 := by decide +kernel
theorem tyk_Exposure : ∀ k, k < 4 → parseFieldDescriptor (F_Exposure k).2.2.1 = some (ty_Exposure k) := by decide +kernel
theorem in_Exposure : ∀ w ∈ u_ws "MaskEdges$Exposure" F_Exposure 4, w ∈ xT := List.forall_mem_cons.mpr ⟨xw_76, List.forall_mem_cons.mpr ⟨xw_77, List.forall_mem_cons.mpr ⟨xw_78, List.forall_mem_cons.mpr ⟨xw_79, fun _ h => absurd h List.not_mem_nil⟩⟩⟩⟩
def F_Outline : u_T := fun k => match k with
  | 0 => ("MaskEdges$Outline", "xs", "[I", true)
  | 1 => ("MaskEdges$Outline", "ys", "[I", true)
  | 2 => ("MaskEdges$Outline", "corners", "I", false)
  | _ => ("MaskEdges$Outline", "closed", "Z", false)
def ty_Outline : Nat → FieldType := fun k => match k with
  | 0 => .array .int
  | 1 => .array .int
  | 2 => .int
  | _ => .boolean
theorem nm_Outline : ∀ a, a < 4 → ∀ b, b < 4 → a ≠ b → (F_Outline a).2.1 ≠ (F_Outline b).2.1 := by decide +kernel
theorem tyk_Outline : ∀ k, k < 4 → parseFieldDescriptor (F_Outline k).2.2.1 = some (ty_Outline k) := by decide +kernel
theorem in_Outline : ∀ w ∈ u_ws "MaskEdges$Outline" F_Outline 4, w ∈ xT := List.forall_mem_cons.mpr ⟨xw_112, List.forall_mem_cons.mpr ⟨xw_113, List.forall_mem_cons.mpr ⟨xw_114, List.forall_mem_cons.mpr ⟨xw_115, fun _ h => absurd h List.not_mem_nil⟩⟩⟩⟩
def F_Piece : u_T := fun k => match k with
  | 0 => ("MaskEdges$Piece", "alongX", "Z", false)
  | 1 => ("MaskEdges$Piece", "line", "I", false)
  | 2 => ("MaskEdges$Piece", "low", "I", false)
  | 3 => ("MaskEdges$Piece", "high", "I", false)
  | 4 => ("MaskEdges$Piece", "sideLow", "I", false)
  | 5 => ("MaskEdges$Piece", "sideHigh", "I", false)
  | 6 => ("MaskEdges$Piece", "first", "Z", false)
  | 7 => ("MaskEdges$Piece", "last", "Z", false)
  | 8 => ("MaskEdges$Piece", "outward", "I", false)
  | 9 => ("MaskEdges$Piece", "insideX", "I", false)
  | 10 => ("MaskEdges$Piece", "insideY", "I", false)
  | _ => ("MaskEdges$Piece", "move", "I", false)
def ty_Piece : Nat → FieldType := fun k => match k with
  | 0 => .boolean
  | 1 => .int
  | 2 => .int
  | 3 => .int
  | 4 => .int
  | 5 => .int
  | 6 => .boolean
  | 7 => .boolean
  | 8 => .int
  | 9 => .int
  | 10 => .int
  | _ => .int
theorem nm_Piece : ∀ a, a < 12 → ∀ b, b < 12 → a ≠ b → (F_Piece a).2.1 ≠ (F_Piece b).2.1 := by decide +kernel
theorem tyk_Piece : ∀ k, k < 12 → parseFieldDescriptor (F_Piece k).2.2.1 = some (ty_Piece k) := by decide +kernel
theorem in_Piece : ∀ w ∈ u_ws "MaskEdges$Piece" F_Piece 12, w ∈ xT := List.forall_mem_cons.mpr ⟨xw_143, List.forall_mem_cons.mpr ⟨xw_144, List.forall_mem_cons.mpr ⟨xw_145, List.forall_mem_cons.mpr ⟨xw_146, List.forall_mem_cons.mpr ⟨xw_147, List.forall_mem_cons.mpr ⟨xw_148, List.forall_mem_cons.mpr ⟨xw_149, List.forall_mem_cons.mpr ⟨xw_150, List.forall_mem_cons.mpr ⟨xw_151, List.forall_mem_cons.mpr ⟨xw_152, List.forall_mem_cons.mpr ⟨xw_153, List.forall_mem_cons.mpr ⟨xw_154, fun _ h => absurd h List.not_mem_nil⟩⟩⟩⟩⟩⟩⟩⟩⟩⟩⟩⟩
def F_MaskEdges : u_T := fun k => match k with
  | 0 => ("MaskEdges", "outlines", "[LMaskEdges$Outline;", true)
  | 1 => ("MaskEdges", "outlineCount", "I", false)
  | 2 => ("MaskEdges", "pieces", "[LMaskEdges$Piece;", true)
  | 3 => ("MaskEdges", "pieceCount", "I", false)
  | 4 => ("MaskEdges", "movesBefore", "[I", true)
  | 5 => ("MaskEdges", "bars", "[LMaskEdges$Box;", true)
  | 6 => ("MaskEdges", "barCount", "I", false)
  | 7 => ("MaskEdges", "target", "LMaskEdges$CellSet;", true)
  | 8 => ("MaskEdges", "barCells", "LMaskEdges$CellSet;", true)
  | 9 => ("MaskEdges", "mask", "LMaskEdges$CellSet;", true)
  | 10 => ("MaskEdges", "exposure", "LMaskEdges$Exposure;", true)
  | 11 => ("MaskEdges", "worsts", "[I", true)
  | 12 => ("MaskEdges", "worstCount", "I", false)
  | _ => ("MaskEdges", "box", "LMaskEdges$Box;", true)
def ty_MaskEdges : Nat → FieldType := fun k => match k with
  | 0 => .array (.object "MaskEdges$Outline")
  | 1 => .int
  | 2 => .array (.object "MaskEdges$Piece")
  | 3 => .int
  | 4 => .array .int
  | 5 => .array (.object "MaskEdges$Box")
  | 6 => .int
  | 7 => .object "MaskEdges$CellSet"
  | 8 => .object "MaskEdges$CellSet"
  | 9 => .object "MaskEdges$CellSet"
  | 10 => .object "MaskEdges$Exposure"
  | 11 => .array .int
  | 12 => .int
  | _ => .object "MaskEdges$Box"
theorem nm_MaskEdges : ∀ a, a < 14 → ∀ b, b < 14 → a ≠ b → (F_MaskEdges a).2.1 ≠ (F_MaskEdges b).2.1 := by decide +kernel
theorem tyk_MaskEdges : ∀ k, k < 14 → parseFieldDescriptor (F_MaskEdges k).2.2.1 = some (ty_MaskEdges k) := by decide +kernel
theorem in_MaskEdges : ∀ w ∈ u_ws "MaskEdges" F_MaskEdges 14, w ∈ xT := List.forall_mem_cons.mpr ⟨xw_169, List.forall_mem_cons.mpr ⟨xw_170, List.forall_mem_cons.mpr ⟨xw_171, List.forall_mem_cons.mpr ⟨xw_172, List.forall_mem_cons.mpr ⟨xw_173, List.forall_mem_cons.mpr ⟨xw_174, List.forall_mem_cons.mpr ⟨xw_175, List.forall_mem_cons.mpr ⟨xw_176, List.forall_mem_cons.mpr ⟨xw_177, List.forall_mem_cons.mpr ⟨xw_178, List.forall_mem_cons.mpr ⟨xw_179, List.forall_mem_cons.mpr ⟨xw_180, List.forall_mem_cons.mpr ⟨xw_181, List.forall_mem_cons.mpr ⟨xw_182, fun _ h => absurd h List.not_mem_nil⟩⟩⟩⟩⟩⟩⟩⟩⟩⟩⟩⟩⟩⟩
def F_MaskEdgesModel : u_T := fun k => match k with
  | 0 => ("MaskEdgesModel", "polygons", "I", false)
  | 1 => ("MaskEdgesModel", "xs", "[I", true)
  | 2 => ("MaskEdgesModel", "ys", "[I", true)
  | 3 => ("MaskEdgesModel", "sizes", "[I", true)
  | 4 => ("MaskEdgesModel", "isClosed", "[Z", true)
  | 5 => ("MaskEdgesModel", "kernels", "I", false)
  | 6 => ("MaskEdgesModel", "weights", "[I", true)
  | 7 => ("MaskEdgesModel", "widths", "[I", true)
  | 8 => ("MaskEdgesModel", "threshold", "I", false)
  | 9 => ("MaskEdgesModel", "pieces", "I", false)
  | 10 => ("MaskEdgesModel", "across", "[I", true)
  | 11 => ("MaskEdgesModel", "from", "[I", true)
  | 12 => ("MaskEdgesModel", "to", "[I", true)
  | 13 => ("MaskEdgesModel", "isAlongX", "[Z", true)
  | 14 => ("MaskEdgesModel", "isFirst", "[Z", true)
  | 15 => ("MaskEdgesModel", "isLast", "[Z", true)
  | 16 => ("MaskEdgesModel", "out", "[I", true)
  | 17 => ("MaskEdgesModel", "moves", "[I", true)
  | 18 => ("MaskEdgesModel", "before", "[I", true)
  | 19 => ("MaskEdgesModel", "bars", "I", false)
  | 20 => ("MaskEdgesModel", "barX", "[I", true)
  | 21 => ("MaskEdgesModel", "barY", "[I", true)
  | 22 => ("MaskEdgesModel", "barFarX", "[I", true)
  | 23 => ("MaskEdgesModel", "barFarY", "[I", true)
  | 24 => ("MaskEdgesModel", "mask", "[Z", true)
  | 25 => ("MaskEdgesModel", "sums", "[I", true)
  | 26 => ("MaskEdgesModel", "kept", "I", false)
  | _ => ("MaskEdgesModel", "worsts", "[I", true)
def ty_MaskEdgesModel : Nat → FieldType := fun k => match k with
  | 0 => .int
  | 1 => .array .int
  | 2 => .array .int
  | 3 => .array .int
  | 4 => .array .boolean
  | 5 => .int
  | 6 => .array .int
  | 7 => .array .int
  | 8 => .int
  | 9 => .int
  | 10 => .array .int
  | 11 => .array .int
  | 12 => .array .int
  | 13 => .array .boolean
  | 14 => .array .boolean
  | 15 => .array .boolean
  | 16 => .array .int
  | 17 => .array .int
  | 18 => .array .int
  | 19 => .int
  | 20 => .array .int
  | 21 => .array .int
  | 22 => .array .int
  | 23 => .array .int
  | 24 => .array .boolean
  | 25 => .array .int
  | 26 => .int
  | _ => .array .int
theorem nm_MaskEdgesModel : ∀ a, a < 28 → ∀ b, b < 28 → a ≠ b → (F_MaskEdgesModel a).2.1 ≠ (F_MaskEdgesModel b).2.1 := by decide +kernel
theorem tyk_MaskEdgesModel : ∀ k, k < 28 → parseFieldDescriptor (F_MaskEdgesModel k).2.2.1 = some (ty_MaskEdgesModel k) := by decide +kernel
theorem in_MaskEdgesModel : ∀ w ∈ u_ws "MaskEdgesModel" F_MaskEdgesModel 28, w ∈ xT := List.forall_mem_cons.mpr ⟨xw_475, List.forall_mem_cons.mpr ⟨xw_476, List.forall_mem_cons.mpr ⟨xw_477, List.forall_mem_cons.mpr ⟨xw_478, List.forall_mem_cons.mpr ⟨xw_479, List.forall_mem_cons.mpr ⟨xw_480, List.forall_mem_cons.mpr ⟨xw_481, List.forall_mem_cons.mpr ⟨xw_482, List.forall_mem_cons.mpr ⟨xw_483, List.forall_mem_cons.mpr ⟨xw_484, List.forall_mem_cons.mpr ⟨xw_485, List.forall_mem_cons.mpr ⟨xw_486, List.forall_mem_cons.mpr ⟨xw_487, List.forall_mem_cons.mpr ⟨xw_488, List.forall_mem_cons.mpr ⟨xw_489, List.forall_mem_cons.mpr ⟨xw_490, List.forall_mem_cons.mpr ⟨xw_491, List.forall_mem_cons.mpr ⟨xw_492, List.forall_mem_cons.mpr ⟨xw_493, List.forall_mem_cons.mpr ⟨xw_494, List.forall_mem_cons.mpr ⟨xw_495, List.forall_mem_cons.mpr ⟨xw_496, List.forall_mem_cons.mpr ⟨xw_497, List.forall_mem_cons.mpr ⟨xw_498, List.forall_mem_cons.mpr ⟨xw_499, List.forall_mem_cons.mpr ⟨xw_500, List.forall_mem_cons.mpr ⟨xw_501, List.forall_mem_cons.mpr ⟨xw_502, fun _ h => absurd h List.not_mem_nil⟩⟩⟩⟩⟩⟩⟩⟩⟩⟩⟩⟩⟩⟩⟩⟩⟩⟩⟩⟩⟩⟩⟩⟩⟩⟩⟩⟩
abbrev vwCl : List vw_C := [("MaskEdges$Box", F_Box, 4), ("MaskEdges$CellSet", F_CellSet, 1), ("MaskEdges$Exposure", F_Exposure, 4), ("MaskEdges$Outline", F_Outline, 4), ("MaskEdges$Piece", F_Piece, 12), ("MaskEdges", F_MaskEdges, 14), ("MaskEdgesModel", F_MaskEdgesModel, 28)]
end
section
/-! MY LAYER: contracts at a heap that is named, calls, worlds by places, the loop of a functional model. -/
abbrev xG : Type := va_G × (Nat → ClassId)
def xTy (X : xG) : List (ClassId × FieldType) := [(X.2 0, .int), (X.2 1, .long), (X.2 2, .object "MaskEdges$Outline"), (X.2 3, .object "MaskEdges$Piece"), (X.2 4, .object "MaskEdges$Box"), (X.2 5, .boolean)]
def xK (X : xG) (U : State) : Prop := va_K X.1 vwCl (xTy X) U ∧ ∀ w ∈ xNl, va_Nw w U
theorem xNl_form : ∀ w ∈ xNl, ∃ (a : String) (i : Nat) (x : MethodName) (h : String), w = .methodLinkNest a i x h := by
  intro w hw
  simp only [xNl, List.mem_cons, List.mem_nil_iff, or_false] at hw
  rcases hw with rfl | rfl | rfl | rfl | rfl | rfl | rfl | rfl | rfl <;> exact ⟨_, _, _, _, rfl⟩
theorem xK.moved {X : xG} {s U : State} (hW : s.WarmedH U.vm) (h : xK X s) : xK X U := by
  refine ⟨va_K.moved hW.alike h.1, fun w hw => ?_⟩
  have h2 := h.2 w hw
  obtain ⟨a, i, x, q, rfl⟩ := xNl_form w hw
  exact va_Nw.warmM hW h2
theorem xK.blind {X : xG} {U : State} {g : JFrame} {mk : MethodId} {a : Array Value} (h : xK X U) : xK X (U.calling g mk a) := by
  refine ⟨va_K.moved (u := U) (U := U.calling g mk a) (Vm.Alike.refl U.vm) h.1, fun w hw => ?_⟩
  have h2 := h.2 w hw
  obtain ⟨b, i, x, q, rfl⟩ := xNl_form w hw
  exact va_Nw.same rfl rfl h2
theorem xgC {c : Cond} (h : c ∈ xT) : GoodIn xT (c :: xT) := by
  intro w hw
  have h1 : w ∈ xT := by
    rcases List.mem_cons.mp hw with e | e
    · rw [e]; exact h
    · exact e
  exact ⟨h1, (xTg w h1).2⟩
theorem xgS {own : String} {idx : Nat} {y : MethodName} {c : Cond} (h1 : Cond.methodLink own idx y ∈ xT) (h2 : Cond.static y ∈ xT) (h3 : Cond.initialized own ∈ xT) (h : c ∈ xT) : GoodIn xT (wsS own idx y (c :: xT)) := by
  intro w hw
  unfold wsS at hw
  rcases List.mem_append.mp hw with e | e
  · simp only [List.mem_cons, List.mem_nil_iff, or_false] at e
    rcases e with rfl | rfl | rfl
    · exact ⟨h1, (xTg _ h1).2⟩
    · exact ⟨h2, (xTg _ h2).2⟩
    · exact ⟨h3, (xTg _ h3).2⟩
  · exact xgC h w e
theorem xgV {own C : String} {idx : Nat} {y : MethodName} {c : Cond} (h1 : Cond.methodLink own idx y ∈ xT) (h2 : Cond.instanceMethod y ∈ xT) (h3 : Cond.selects C y y ∈ xT) (h4 : Cond.initialized C ∈ xT) (h : c ∈ xT) : GoodIn xT (wsV own idx C y (c :: xT)) := by
  intro w hw
  unfold wsV at hw
  rcases List.mem_append.mp hw with e | e
  · simp only [List.mem_cons, List.mem_nil_iff, or_false] at e
    rcases e with rfl | rfl | rfl | rfl
    · exact ⟨h1, (xTg _ h1).2⟩
    · exact ⟨h2, (xTg _ h2).2⟩
    · exact ⟨h3, (xTg _ h3).2⟩
    · exact ⟨h4, (xTg _ h4).2⟩
  · exact xgC h w e
theorem xPS {X : xG} {s : State} {H : Heap} {As : List Value} (h : xK X s) : PreS s H (va_Pc As (fun U => U.heap = H ∧ xK X U)) As :=
  ⟨fun _ _ _ _ q => ⟨q.1, q.2.1, xK.blind q.2.2⟩, fun _ hU hW => ⟨rfl, hU, xK.moved hW h⟩⟩
theorem xPV {X : xG} {s : State} {H : Heap} {C : String} {b : Addr} {As : List Value} (h : xK X s) (hr : ∃ cell : Cell, H[b]? = some cell ∧ cell.vm.isStatics = false ∧ s.vm.findClass C = some cell.cls) : PreV s H C b (va_Pc (.ref b :: As) (fun U => U.heap = H ∧ xK X U)) As :=
  ⟨fun _ _ _ _ q => ⟨q.1, q.2.1, xK.blind q.2.2⟩, hr, fun _ hU hW => ⟨rfl, hU, xK.moved hW h⟩⟩
-- the functional models: Option; a loop by fuel
def xloop {α : Type} (F : α → α) (z : α) : Nat → α
  | 0 => z
  | n + 1 => F (xloop F z n)
theorem x_t {c : Prop} {_ : Decidable c} {α : Type} {a b r : α} (h : c) (hf : (if c then a else b) = r) : a = r := by rw [if_pos h] at hf; exact hf
theorem x_f {c : Prop} {_ : Decidable c} {α : Type} {a b r : α} (h : ¬ c) (hf : (if c then a else b) = r) : b = r := by rw [if_neg h] at hf; exact hf
/-- behind a guard that must hold -/
theorem x_g {c : Prop} {_ : Decidable c} {α : Type} {a : Option α} {r : α} (hf : (if c then a else none) = some r) : c ∧ a = some r := by
  by_cases h : c
  · rw [if_pos h] at hf; exact ⟨h, hf⟩
  · rw [if_neg h] at hf; cases hf
/-- behind a guard that must not hold -/
theorem x_n {c : Prop} {_ : Decidable c} {α : Type} {a : Option α} {r : α} (hf : (if c then none else a) = some r) : ¬ c ∧ a = some r := by
  by_cases h : c
  · rw [if_pos h] at hf; cases hf
  · rw [if_neg h] at hf; exact ⟨h, hf⟩
theorem x_b {α β : Type} {o : Option α} {f : α → Option β} {r : β} (hf : o.bind f = some r) : ∃ x, o = some x ∧ f x = some r := by
  cases o with
  | none => cases hf
  | some x => exact ⟨x, rfl, hf⟩
theorem x_s {α : Type} {a b : α} (h : some a = some b) : a = b := Option.some.inj h
def xin (i : Int32) (n : Nat) : Bool := decide (¬ (i < 0 ∨ n ≤ i.toNatClampNeg))
theorem xin_in {i : Int32} {n : Nat} (h : xin i n = true) : vp_in i n := of_decide_eq_true (p := ¬ (i < 0 ∨ n ≤ i.toNatClampNeg)) h
theorem xin_lt {i : Int32} {n : Nat} (h : xin i n = true) : i.toNatClampNeg < n := Nat.not_le.mp fun q => (of_decide_eq_true h) (Or.inr q)
/-- a boolean's two numbers -/
def xz (v : Int32) : Bool := decide (v = 0 ∨ v = 1)
theorem xz_n {v : Int32} (h : xz v = true) : narrow .boolean (.int v) = .int v := by
  rcases of_decide_eq_true h with rfl | rfl <;> rfl
theorem xz_f {v : Int32} (h : xz v = true) : fits .boolean (.int v) = true := by
  rcases of_decide_eq_true h with rfl | rfl <;> rfl
theorem x_out {x : Int32} {lo hi : Int} (h1 : -2147483648 ≤ lo) (h2 : hi < 2147483648) (h : ∀ j : Int, lo ≤ j → j ≤ hi → ¬ x = Int32.ofInt j) : x.toInt < lo ∨ hi < x.toInt := by
  by_cases a : x.toInt < lo
  · exact Or.inl a
  · by_cases b : hi < x.toInt
    · exact Or.inr b
    · exact absurd (Int32.ofInt_toInt x).symm (h x.toInt (by omega) (by omega))
-- worlds
theorem xp_nil {D : va_G} {cl : List vw_C} {H : Heap} : va_P D cl [] H := fun k q h => by simp at h
theorem xp_cons {D : va_G} {cl : List vw_C} {H : Heap} {q : Nat × va_E} {ws : va_W} (h : va_at D cl q H) (t : va_P D cl ws H) : va_P D cl (q :: ws) H := by
  intro k q' hk
  cases k with
  | zero => rw [List.getElem?_cons_zero] at hk; cases hk; exact h
  | succ k => rw [List.getElem?_cons_succ] at hk; exact t k q' hk
/-- the addresses that a method may write to -/
def xAl (L : List Nat) : Nat → Prop := fun q => q ∈ L
def xNo : Nat → Prop := fun _ => False
/-- cells that a method doesn't write to are at every later heap what they were -/
theorem xkept {D : va_G} {cl : List vw_C} {ws : va_W} {A : Nat → Prop} {H0 H : Heap} {locs : List Loc} (h : va_P D cl ws H0) (hno : ∀ q ∈ ws.map Prod.fst, ¬ A q) (hS : va_S A H0 H locs) : va_P D cl ws H :=
  h.kept (fun k q hk => hS.2.1 q.1 (h k q hk).lt (hno q.1 (List.mem_map.mpr ⟨q, List.mem_of_getElem? hk, rfl⟩)))
/-- what a call has left of the heap -/
def xFr (A : Nat → Prop) (H H1 : Heap) (L : List Loc) : Prop := H.size ≤ H1.size ∧ (∀ q : Nat, q < H.size → ¬ A q → H1[q]? = H[q]?) ∧ ∀ q ∈ L, A q.base
theorem xS_call {A B : Nat → Prop} {H0 H H1 : Heap} {locs L : List Loc} (hS : va_S A H0 H locs) (h : xFr B H H1 L) (hB : ∀ q, B q → A q) : va_S A H0 H1 (locs ++ L) := by
  refine ⟨Nat.le_trans hS.1 h.1, fun q h1 h2 => ?_, fun q hq => ?_⟩
  · rw [h.2.1 q (Nat.lt_of_lt_of_le h1 hS.1) (fun z => h2 (hB q z))]
    exact hS.2.1 q h1 h2
  · rcases List.mem_append.mp hq with h3 | h3
    · exact hS.2.2 q h3
    · exact hB _ (h.2.2 q h3)
/-- a world behind a call: each cell is one that the call left, or as the call has it -/
theorem xback {D : va_G} {cl : List vw_C} {ws ws' : va_W} {A : Nat → Prop} {H H1 : Heap} {L : List Loc} (hP : va_P D cl ws H) (h : xFr A H H1 L) (hw : ∀ (k : Nat) (q : Nat × va_E), ws'[k]? = some q → (ws[k]? = some q ∧ ¬ A q.1) ∨ va_at D cl q H1) : va_P D cl ws' H1 := by
  intro k q hk
  rcases hw k q hk with ⟨h1, h2⟩ | h1
  · exact (hP k q h1).kept (h.2.1 q.1 (hP k q h1).lt h2)
  · exact h1
theorem x_F0 {s t : State} (h : t.heap = s.heap) : va_F xNo s t := ⟨by rw [h]; exact Nat.le_refl _, fun q _ _ => by rw [h]⟩
theorem x_l0 {A : Nat → Prop} : ∀ q ∈ ([] : List Loc), A q.base := fun _ h => by cases h
/-- a contract's end: the answer, the heap behind it, what isn't its own stays -/
def xQ (ov : Option Value) (Pic : Heap → Prop) (A : Nat → Prop) : Array Value → State → Outcome → State → Prop := fun _ st o t => (o = .returned ov ∧ Pic t.heap) ∧ va_F A st t
abbrev xM (l : Launch) (y : MethodName) (ws : List Cond) (rm : Room) (K : State → Prop) (av : List Value) (H : Heap) (A : Nat → Prop) (ov : Option Value) (Pic : Heap → Prop) : Prop :=
  Met l y ws rm (va_Pc av (fun U => U.heap = H ∧ K U)) (xQ ov Pic A) 0 0 A
section XC
variable {p : Program} {l : Launch} {e : Env} {R : Room} {s : State} {m : MethodId} {args : Array Value} {below : List Frame} {meth : Method} {c : Code} {H : Heap} {locs : List Loc} {cells slots : Nat} {Q : State → Prop}
variable {pc : Nat} {ls : Array Slot} {rest st0 : List Value} {a : Array Value} {A : Nat → Prop} {ov : Option Value} {Pic : Heap → Prop}
theorem xc (hr : va_Run p l e R s m args below meth c H locs cells slots 0 0 (F0 m pc ls st0) rest (xQ ov Pic A a) A)
    (kk : ∀ (H1 : Heap) (L : List Loc), Pic H1 → xFr A H H1 L → W p l e R s m args below meth c H1 (locs ++ L) cells slots Q (F0 m (pc + 3) ls (ov.toList ++ rest))) : W p l e R s m args below meth c H locs cells slots Q (F0 m pc ls st0) := by
  intro T hT X
  obtain ⟨v, st₀, t, T', L, h0, X', hL, e1, e2, ⟨⟨hv, hp⟩, hz, hk⟩, st⟩ := hr T hT X
  cases hv
  rw [h0] at hz hk
  obtain ⟨t2, a1, b1⟩ := kk T'.heap L (by rw [e1]; exact hp) ⟨by rw [e1]; exact hz, fun q h1 h2 => by rw [e1]; exact hk q h1 h2, hL⟩ T' rfl X'
  exact ⟨t2, st t2 a1, b1⟩
/-- a call that writes nothing -/
theorem xcR (hr : va_Run p l e R s m args below meth c H locs cells slots 0 0 (F0 m pc ls st0) rest (xQ ov (fun H1 => H1 = H) xNo a) xNo)
    (kk : W p l e R s m args below meth c H locs cells slots Q (F0 m (pc + 3) ls (ov.toList ++ rest))) : W p l e R s m args below meth c H locs cells slots Q (F0 m pc ls st0) := by
  refine xc hr (fun H1 L h1 h2 => ?_)
  subst h1
  have hL : L = [] := by
    cases L with
    | nil => rfl
    | cons q L => exact absurd (h2.2.2 q List.mem_cons_self) id
  rw [hL, List.append_nil]
  exact kk
end XC
section XC2
variable {p : Program} {l : Launch} {e : Env} {R : Room} {s : State} {m : MethodId} {args : Array Value} {below : List Frame} {meth : Method} {c : Code} {H : Heap} {locs : List Loc} {cells slots : Nat}
theorem x_Q {Q0 : State → Prop} {g : JFrame} (h : ∀ Q, Q = Q0 → W p l e R s m args below meth c H locs cells slots Q g) : W p l e R s m args below meth c H locs cells slots Q0 g := h _ rfl
end XC2
theorem xDl {L : List Nat} {ws : va_W} (h : ws.map Prod.fst = L) (hn : L.Nodup) : va_D (xAl L) ws := by
  subst h
  refine ⟨fun i j p q hi hj hpq => ?_, fun k q hk => List.mem_map.mpr ⟨q, List.mem_of_getElem? hk, rfl⟩⟩
  have h1 : (ws.map Prod.fst)[i]? = some p.1 := by rw [List.getElem?_map, hi]; rfl
  have h2 : (ws.map Prod.fst)[j]? = some p.1 := by rw [List.getElem?_map, hj, hpq]; rfl
  obtain ⟨hi', e1⟩ := List.getElem?_eq_some_iff.mp h1
  obtain ⟨hj', e2⟩ := List.getElem?_eq_some_iff.mp h2
  exact (List.getElem_inj (h₀ := hi') (h₁ := hj') hn).mp (e1.trans e2.symm)
theorem xnd1 (a : Nat) : [a].Nodup := by simp
end
section
/-! The states, and the cells that hold them. -/
abbrev t_Box : Type := Int32 × Int32 × Int32 × Int32
def Box_left (o : t_Box) : Int32 := o.1
def Box_top (o : t_Box) : Int32 := o.2.1
def Box_right (o : t_Box) : Int32 := o.2.2.1
def Box_bottom (o : t_Box) : Int32 := o.2.2.2
def Box_u_left (o : t_Box) (v : Int32) : t_Box := (v, o.2.1, o.2.2.1, o.2.2.2)
def Box_u_top (o : t_Box) (v : Int32) : t_Box := (o.1, v, o.2.2.1, o.2.2.2)
def Box_u_right (o : t_Box) (v : Int32) : t_Box := (o.1, o.2.1, v, o.2.2.2)
def Box_u_bottom (o : t_Box) (v : Int32) : t_Box := (o.1, o.2.1, o.2.2.1, v)
abbrev t_CellSet : Type := (Nat → Int64)
def CellSet_rows (o : t_CellSet) : (Nat → Int64) := o
def CellSet_u_rows (o : t_CellSet) (v : (Nat → Int64)) : t_CellSet := (v)
abbrev t_Exposure : Type := (Nat → Int32) × (Nat → Int32) × Int32 × Int32
def Exposure_weights (o : t_Exposure) : (Nat → Int32) := o.1
def Exposure_widths (o : t_Exposure) : (Nat → Int32) := o.2.1
def Exposure_kernels (o : t_Exposure) : Int32 := o.2.2.1
def Exposure_threshold (o : t_Exposure) : Int32 := o.2.2.2
def Exposure_u_weights (o : t_Exposure) (v : (Nat → Int32)) : t_Exposure := (v, o.2.1, o.2.2.1, o.2.2.2)
def Exposure_u_widths (o : t_Exposure) (v : (Nat → Int32)) : t_Exposure := (o.1, v, o.2.2.1, o.2.2.2)
def Exposure_u_kernels (o : t_Exposure) (v : Int32) : t_Exposure := (o.1, o.2.1, v, o.2.2.2)
def Exposure_u_threshold (o : t_Exposure) (v : Int32) : t_Exposure := (o.1, o.2.1, o.2.2.1, v)
abbrev t_Outline : Type := (Nat → Int32) × (Nat → Int32) × Int32 × Int32
def Outline_xs (o : t_Outline) : (Nat → Int32) := o.1
def Outline_ys (o : t_Outline) : (Nat → Int32) := o.2.1
def Outline_corners (o : t_Outline) : Int32 := o.2.2.1
def Outline_closed (o : t_Outline) : Int32 := o.2.2.2
def Outline_u_xs (o : t_Outline) (v : (Nat → Int32)) : t_Outline := (v, o.2.1, o.2.2.1, o.2.2.2)
def Outline_u_ys (o : t_Outline) (v : (Nat → Int32)) : t_Outline := (o.1, v, o.2.2.1, o.2.2.2)
def Outline_u_corners (o : t_Outline) (v : Int32) : t_Outline := (o.1, o.2.1, v, o.2.2.2)
def Outline_u_closed (o : t_Outline) (v : Int32) : t_Outline := (o.1, o.2.1, o.2.2.1, v)
abbrev t_Piece : Type := Int32 × Int32 × Int32 × Int32 × Int32 × Int32 × Int32 × Int32 × Int32 × Int32 × Int32 × Int32
def Piece_alongX (o : t_Piece) : Int32 := o.1
def Piece_line (o : t_Piece) : Int32 := o.2.1
def Piece_low (o : t_Piece) : Int32 := o.2.2.1
def Piece_high (o : t_Piece) : Int32 := o.2.2.2.1
def Piece_sideLow (o : t_Piece) : Int32 := o.2.2.2.2.1
def Piece_sideHigh (o : t_Piece) : Int32 := o.2.2.2.2.2.1
def Piece_first (o : t_Piece) : Int32 := o.2.2.2.2.2.2.1
def Piece_last (o : t_Piece) : Int32 := o.2.2.2.2.2.2.2.1
def Piece_outward (o : t_Piece) : Int32 := o.2.2.2.2.2.2.2.2.1
def Piece_insideX (o : t_Piece) : Int32 := o.2.2.2.2.2.2.2.2.2.1
def Piece_insideY (o : t_Piece) : Int32 := o.2.2.2.2.2.2.2.2.2.2.1
def Piece_move (o : t_Piece) : Int32 := o.2.2.2.2.2.2.2.2.2.2.2
def Piece_u_alongX (o : t_Piece) (v : Int32) : t_Piece := (v, o.2.1, o.2.2.1, o.2.2.2.1, o.2.2.2.2.1, o.2.2.2.2.2.1, o.2.2.2.2.2.2.1, o.2.2.2.2.2.2.2.1, o.2.2.2.2.2.2.2.2.1, o.2.2.2.2.2.2.2.2.2.1, o.2.2.2.2.2.2.2.2.2.2.1, o.2.2.2.2.2.2.2.2.2.2.2)
def Piece_u_line (o : t_Piece) (v : Int32) : t_Piece := (o.1, v, o.2.2.1, o.2.2.2.1, o.2.2.2.2.1, o.2.2.2.2.2.1, o.2.2.2.2.2.2.1, o.2.2.2.2.2.2.2.1, o.2.2.2.2.2.2.2.2.1, o.2.2.2.2.2.2.2.2.2.1, o.2.2.2.2.2.2.2.2.2.2.1, o.2.2.2.2.2.2.2.2.2.2.2)
def Piece_u_low (o : t_Piece) (v : Int32) : t_Piece := (o.1, o.2.1, v, o.2.2.2.1, o.2.2.2.2.1, o.2.2.2.2.2.1, o.2.2.2.2.2.2.1, o.2.2.2.2.2.2.2.1, o.2.2.2.2.2.2.2.2.1, o.2.2.2.2.2.2.2.2.2.1, o.2.2.2.2.2.2.2.2.2.2.1, o.2.2.2.2.2.2.2.2.2.2.2)
def Piece_u_high (o : t_Piece) (v : Int32) : t_Piece := (o.1, o.2.1, o.2.2.1, v, o.2.2.2.2.1, o.2.2.2.2.2.1, o.2.2.2.2.2.2.1, o.2.2.2.2.2.2.2.1, o.2.2.2.2.2.2.2.2.1, o.2.2.2.2.2.2.2.2.2.1, o.2.2.2.2.2.2.2.2.2.2.1, o.2.2.2.2.2.2.2.2.2.2.2)
def Piece_u_sideLow (o : t_Piece) (v : Int32) : t_Piece := (o.1, o.2.1, o.2.2.1, o.2.2.2.1, v, o.2.2.2.2.2.1, o.2.2.2.2.2.2.1, o.2.2.2.2.2.2.2.1, o.2.2.2.2.2.2.2.2.1, o.2.2.2.2.2.2.2.2.2.1, o.2.2.2.2.2.2.2.2.2.2.1, o.2.2.2.2.2.2.2.2.2.2.2)
def Piece_u_sideHigh (o : t_Piece) (v : Int32) : t_Piece := (o.1, o.2.1, o.2.2.1, o.2.2.2.1, o.2.2.2.2.1, v, o.2.2.2.2.2.2.1, o.2.2.2.2.2.2.2.1, o.2.2.2.2.2.2.2.2.1, o.2.2.2.2.2.2.2.2.2.1, o.2.2.2.2.2.2.2.2.2.2.1, o.2.2.2.2.2.2.2.2.2.2.2)
def Piece_u_first (o : t_Piece) (v : Int32) : t_Piece := (o.1, o.2.1, o.2.2.1, o.2.2.2.1, o.2.2.2.2.1, o.2.2.2.2.2.1, v, o.2.2.2.2.2.2.2.1, o.2.2.2.2.2.2.2.2.1, o.2.2.2.2.2.2.2.2.2.1, o.2.2.2.2.2.2.2.2.2.2.1, o.2.2.2.2.2.2.2.2.2.2.2)
def Piece_u_last (o : t_Piece) (v : Int32) : t_Piece := (o.1, o.2.1, o.2.2.1, o.2.2.2.1, o.2.2.2.2.1, o.2.2.2.2.2.1, o.2.2.2.2.2.2.1, v, o.2.2.2.2.2.2.2.2.1, o.2.2.2.2.2.2.2.2.2.1, o.2.2.2.2.2.2.2.2.2.2.1, o.2.2.2.2.2.2.2.2.2.2.2)
def Piece_u_outward (o : t_Piece) (v : Int32) : t_Piece := (o.1, o.2.1, o.2.2.1, o.2.2.2.1, o.2.2.2.2.1, o.2.2.2.2.2.1, o.2.2.2.2.2.2.1, o.2.2.2.2.2.2.2.1, v, o.2.2.2.2.2.2.2.2.2.1, o.2.2.2.2.2.2.2.2.2.2.1, o.2.2.2.2.2.2.2.2.2.2.2)
def Piece_u_insideX (o : t_Piece) (v : Int32) : t_Piece := (o.1, o.2.1, o.2.2.1, o.2.2.2.1, o.2.2.2.2.1, o.2.2.2.2.2.1, o.2.2.2.2.2.2.1, o.2.2.2.2.2.2.2.1, o.2.2.2.2.2.2.2.2.1, v, o.2.2.2.2.2.2.2.2.2.2.1, o.2.2.2.2.2.2.2.2.2.2.2)
def Piece_u_insideY (o : t_Piece) (v : Int32) : t_Piece := (o.1, o.2.1, o.2.2.1, o.2.2.2.1, o.2.2.2.2.1, o.2.2.2.2.2.1, o.2.2.2.2.2.2.1, o.2.2.2.2.2.2.2.1, o.2.2.2.2.2.2.2.2.1, o.2.2.2.2.2.2.2.2.2.1, v, o.2.2.2.2.2.2.2.2.2.2.2)
def Piece_u_move (o : t_Piece) (v : Int32) : t_Piece := (o.1, o.2.1, o.2.2.1, o.2.2.2.1, o.2.2.2.2.1, o.2.2.2.2.2.1, o.2.2.2.2.2.2.1, o.2.2.2.2.2.2.2.1, o.2.2.2.2.2.2.2.2.1, o.2.2.2.2.2.2.2.2.2.1, o.2.2.2.2.2.2.2.2.2.2.1, v)
abbrev xSt : Type := (Nat → t_Outline) × Int32 × (Nat → t_Piece) × Int32 × (Nat → Int32) × (Nat → t_Box) × Int32 × t_CellSet × t_CellSet × t_CellSet × t_Exposure × (Nat → Int32) × Int32 × t_Box
def X_outlines (o : xSt) : (Nat → t_Outline) := o.1
def X_outlineCount (o : xSt) : Int32 := o.2.1
def X_pieces (o : xSt) : (Nat → t_Piece) := o.2.2.1
def X_pieceCount (o : xSt) : Int32 := o.2.2.2.1
def X_movesBefore (o : xSt) : (Nat → Int32) := o.2.2.2.2.1
def X_bars (o : xSt) : (Nat → t_Box) := o.2.2.2.2.2.1
def X_barCount (o : xSt) : Int32 := o.2.2.2.2.2.2.1
def X_target (o : xSt) : t_CellSet := o.2.2.2.2.2.2.2.1
def X_barCells (o : xSt) : t_CellSet := o.2.2.2.2.2.2.2.2.1
def X_mask (o : xSt) : t_CellSet := o.2.2.2.2.2.2.2.2.2.1
def X_exposure (o : xSt) : t_Exposure := o.2.2.2.2.2.2.2.2.2.2.1
def X_worsts (o : xSt) : (Nat → Int32) := o.2.2.2.2.2.2.2.2.2.2.2.1
def X_worstCount (o : xSt) : Int32 := o.2.2.2.2.2.2.2.2.2.2.2.2.1
def X_box (o : xSt) : t_Box := o.2.2.2.2.2.2.2.2.2.2.2.2.2
def X_u_outlines (o : xSt) (v : (Nat → t_Outline)) : xSt := (v, o.2.1, o.2.2.1, o.2.2.2.1, o.2.2.2.2.1, o.2.2.2.2.2.1, o.2.2.2.2.2.2.1, o.2.2.2.2.2.2.2.1, o.2.2.2.2.2.2.2.2.1, o.2.2.2.2.2.2.2.2.2.1, o.2.2.2.2.2.2.2.2.2.2.1, o.2.2.2.2.2.2.2.2.2.2.2.1, o.2.2.2.2.2.2.2.2.2.2.2.2.1, o.2.2.2.2.2.2.2.2.2.2.2.2.2)
def X_u_outlineCount (o : xSt) (v : Int32) : xSt := (o.1, v, o.2.2.1, o.2.2.2.1, o.2.2.2.2.1, o.2.2.2.2.2.1, o.2.2.2.2.2.2.1, o.2.2.2.2.2.2.2.1, o.2.2.2.2.2.2.2.2.1, o.2.2.2.2.2.2.2.2.2.1, o.2.2.2.2.2.2.2.2.2.2.1, o.2.2.2.2.2.2.2.2.2.2.2.1, o.2.2.2.2.2.2.2.2.2.2.2.2.1, o.2.2.2.2.2.2.2.2.2.2.2.2.2)
def X_u_pieces (o : xSt) (v : (Nat → t_Piece)) : xSt := (o.1, o.2.1, v, o.2.2.2.1, o.2.2.2.2.1, o.2.2.2.2.2.1, o.2.2.2.2.2.2.1, o.2.2.2.2.2.2.2.1, o.2.2.2.2.2.2.2.2.1, o.2.2.2.2.2.2.2.2.2.1, o.2.2.2.2.2.2.2.2.2.2.1, o.2.2.2.2.2.2.2.2.2.2.2.1, o.2.2.2.2.2.2.2.2.2.2.2.2.1, o.2.2.2.2.2.2.2.2.2.2.2.2.2)
def X_u_pieceCount (o : xSt) (v : Int32) : xSt := (o.1, o.2.1, o.2.2.1, v, o.2.2.2.2.1, o.2.2.2.2.2.1, o.2.2.2.2.2.2.1, o.2.2.2.2.2.2.2.1, o.2.2.2.2.2.2.2.2.1, o.2.2.2.2.2.2.2.2.2.1, o.2.2.2.2.2.2.2.2.2.2.1, o.2.2.2.2.2.2.2.2.2.2.2.1, o.2.2.2.2.2.2.2.2.2.2.2.2.1, o.2.2.2.2.2.2.2.2.2.2.2.2.2)
def X_u_movesBefore (o : xSt) (v : (Nat → Int32)) : xSt := (o.1, o.2.1, o.2.2.1, o.2.2.2.1, v, o.2.2.2.2.2.1, o.2.2.2.2.2.2.1, o.2.2.2.2.2.2.2.1, o.2.2.2.2.2.2.2.2.1, o.2.2.2.2.2.2.2.2.2.1, o.2.2.2.2.2.2.2.2.2.2.1, o.2.2.2.2.2.2.2.2.2.2.2.1, o.2.2.2.2.2.2.2.2.2.2.2.2.1, o.2.2.2.2.2.2.2.2.2.2.2.2.2)
def X_u_bars (o : xSt) (v : (Nat → t_Box)) : xSt := (o.1, o.2.1, o.2.2.1, o.2.2.2.1, o.2.2.2.2.1, v, o.2.2.2.2.2.2.1, o.2.2.2.2.2.2.2.1, o.2.2.2.2.2.2.2.2.1, o.2.2.2.2.2.2.2.2.2.1, o.2.2.2.2.2.2.2.2.2.2.1, o.2.2.2.2.2.2.2.2.2.2.2.1, o.2.2.2.2.2.2.2.2.2.2.2.2.1, o.2.2.2.2.2.2.2.2.2.2.2.2.2)
def X_u_barCount (o : xSt) (v : Int32) : xSt := (o.1, o.2.1, o.2.2.1, o.2.2.2.1, o.2.2.2.2.1, o.2.2.2.2.2.1, v, o.2.2.2.2.2.2.2.1, o.2.2.2.2.2.2.2.2.1, o.2.2.2.2.2.2.2.2.2.1, o.2.2.2.2.2.2.2.2.2.2.1, o.2.2.2.2.2.2.2.2.2.2.2.1, o.2.2.2.2.2.2.2.2.2.2.2.2.1, o.2.2.2.2.2.2.2.2.2.2.2.2.2)
def X_u_target (o : xSt) (v : t_CellSet) : xSt := (o.1, o.2.1, o.2.2.1, o.2.2.2.1, o.2.2.2.2.1, o.2.2.2.2.2.1, o.2.2.2.2.2.2.1, v, o.2.2.2.2.2.2.2.2.1, o.2.2.2.2.2.2.2.2.2.1, o.2.2.2.2.2.2.2.2.2.2.1, o.2.2.2.2.2.2.2.2.2.2.2.1, o.2.2.2.2.2.2.2.2.2.2.2.2.1, o.2.2.2.2.2.2.2.2.2.2.2.2.2)
def X_u_barCells (o : xSt) (v : t_CellSet) : xSt := (o.1, o.2.1, o.2.2.1, o.2.2.2.1, o.2.2.2.2.1, o.2.2.2.2.2.1, o.2.2.2.2.2.2.1, o.2.2.2.2.2.2.2.1, v, o.2.2.2.2.2.2.2.2.2.1, o.2.2.2.2.2.2.2.2.2.2.1, o.2.2.2.2.2.2.2.2.2.2.2.1, o.2.2.2.2.2.2.2.2.2.2.2.2.1, o.2.2.2.2.2.2.2.2.2.2.2.2.2)
def X_u_mask (o : xSt) (v : t_CellSet) : xSt := (o.1, o.2.1, o.2.2.1, o.2.2.2.1, o.2.2.2.2.1, o.2.2.2.2.2.1, o.2.2.2.2.2.2.1, o.2.2.2.2.2.2.2.1, o.2.2.2.2.2.2.2.2.1, v, o.2.2.2.2.2.2.2.2.2.2.1, o.2.2.2.2.2.2.2.2.2.2.2.1, o.2.2.2.2.2.2.2.2.2.2.2.2.1, o.2.2.2.2.2.2.2.2.2.2.2.2.2)
def X_u_exposure (o : xSt) (v : t_Exposure) : xSt := (o.1, o.2.1, o.2.2.1, o.2.2.2.1, o.2.2.2.2.1, o.2.2.2.2.2.1, o.2.2.2.2.2.2.1, o.2.2.2.2.2.2.2.1, o.2.2.2.2.2.2.2.2.1, o.2.2.2.2.2.2.2.2.2.1, v, o.2.2.2.2.2.2.2.2.2.2.2.1, o.2.2.2.2.2.2.2.2.2.2.2.2.1, o.2.2.2.2.2.2.2.2.2.2.2.2.2)
def X_u_worsts (o : xSt) (v : (Nat → Int32)) : xSt := (o.1, o.2.1, o.2.2.1, o.2.2.2.1, o.2.2.2.2.1, o.2.2.2.2.2.1, o.2.2.2.2.2.2.1, o.2.2.2.2.2.2.2.1, o.2.2.2.2.2.2.2.2.1, o.2.2.2.2.2.2.2.2.2.1, o.2.2.2.2.2.2.2.2.2.2.1, v, o.2.2.2.2.2.2.2.2.2.2.2.2.1, o.2.2.2.2.2.2.2.2.2.2.2.2.2)
def X_u_worstCount (o : xSt) (v : Int32) : xSt := (o.1, o.2.1, o.2.2.1, o.2.2.2.1, o.2.2.2.2.1, o.2.2.2.2.2.1, o.2.2.2.2.2.2.1, o.2.2.2.2.2.2.2.1, o.2.2.2.2.2.2.2.2.1, o.2.2.2.2.2.2.2.2.2.1, o.2.2.2.2.2.2.2.2.2.2.1, o.2.2.2.2.2.2.2.2.2.2.2.1, v, o.2.2.2.2.2.2.2.2.2.2.2.2.2)
def X_u_box (o : xSt) (v : t_Box) : xSt := (o.1, o.2.1, o.2.2.1, o.2.2.2.1, o.2.2.2.2.1, o.2.2.2.2.2.1, o.2.2.2.2.2.2.1, o.2.2.2.2.2.2.2.1, o.2.2.2.2.2.2.2.2.1, o.2.2.2.2.2.2.2.2.2.1, o.2.2.2.2.2.2.2.2.2.2.1, o.2.2.2.2.2.2.2.2.2.2.2.1, o.2.2.2.2.2.2.2.2.2.2.2.2.1, v)
def w_Box (X : xG) (h : Nat) (o : t_Box) : va_W := [(h, .inr (0, [.int (Box_left o), .int (Box_top o), .int (Box_right o), .int (Box_bottom o)]))]
def w_CellSet (X : xG) (h a0 : Nat) (o : t_CellSet) : va_W := [(h, .inr (1, [.ref a0])), (a0, .inl (X.2 1, 48, .inr (.inl (CellSet_rows o))))]
def w_Exposure (X : xG) (h a0 a1 : Nat) (o : t_Exposure) : va_W := [(h, .inr (2, [.ref a0, .ref a1, .int (Exposure_kernels o), .int (Exposure_threshold o)])), (a0, .inl (X.2 0, 6, .inl (Exposure_weights o))), (a1, .inl (X.2 0, 6, .inl (Exposure_widths o)))]
def w_Outline (X : xG) (h a0 a1 : Nat) (o : t_Outline) : va_W := [(h, .inr (3, [.ref a0, .ref a1, .int (Outline_corners o), .int (Outline_closed o)])), (a0, .inl (X.2 0, 16, .inl (Outline_xs o))), (a1, .inl (X.2 0, 16, .inl (Outline_ys o)))]
def w_Piece (X : xG) (h : Nat) (o : t_Piece) : va_W := [(h, .inr (4, [.int (Piece_alongX o), .int (Piece_line o), .int (Piece_low o), .int (Piece_high o), .int (Piece_sideLow o), .int (Piece_sideHigh o), .int (Piece_first o), .int (Piece_last o), .int (Piece_outward o), .int (Piece_insideX o), .int (Piece_insideY o), .int (Piece_move o)]))]
def xfix (X : xG) (ad : Nat → Nat) (o : xSt) : Nat → va_E
  | 0 => .inr (5, [.ref (ad 1), .int (X_outlineCount o), .ref (ad 2), .int (X_pieceCount o), .ref (ad 3), .ref (ad 4), .int (X_barCount o), .ref (ad 5), .ref (ad 7), .ref (ad 9), .ref (ad 11), .ref (ad 14), .int (X_worstCount o), .ref (ad 15)])
  | 1 => .inl (X.2 2, 4, .inr (.inr (.inr (.inr (fun i => some (ad (16 + i)))))))
  | 2 => .inl (X.2 3, 120, .inr (.inr (.inr (.inr (fun i => some (ad (28 + i)))))))
  | 3 => .inl (X.2 0, 120, .inl (X_movesBefore o))
  | 4 => .inl (X.2 4, 24, .inr (.inr (.inr (.inr (fun i => some (ad (148 + i)))))))
  | 5 => .inr (1, [.ref (ad 6)])
  | 6 => .inl (X.2 1, 48, .inr (.inl (CellSet_rows (X_target o))))
  | 7 => .inr (1, [.ref (ad 8)])
  | 8 => .inl (X.2 1, 48, .inr (.inl (CellSet_rows (X_barCells o))))
  | 9 => .inr (1, [.ref (ad 10)])
  | 10 => .inl (X.2 1, 48, .inr (.inl (CellSet_rows (X_mask o))))
  | 11 => .inr (2, [.ref (ad 12), .ref (ad 13), .int (Exposure_kernels (X_exposure o)), .int (Exposure_threshold (X_exposure o))])
  | 12 => .inl (X.2 0, 6, .inl (Exposure_weights (X_exposure o)))
  | 13 => .inl (X.2 0, 6, .inl (Exposure_widths (X_exposure o)))
  | 14 => .inl (X.2 0, 21, .inl (X_worsts o))
  | 15 => .inr (0, [.int (Box_left (X_box o)), .int (Box_top (X_box o)), .int (Box_right (X_box o)), .int (Box_bottom (X_box o))])
  | _ => .inl (X.2 0, 0, .inl (fun _ => 0))
def xp_outlines0 (X : xG) (ad : Nat → Nat) (o : xSt) (i : Nat) : va_E := .inr (3, [.ref (ad (20 + i)), .ref (ad (24 + i)), .int (Outline_corners (X_outlines o i)), .int (Outline_closed (X_outlines o i))])
def xp_outlines1 (X : xG) (ad : Nat → Nat) (o : xSt) (i : Nat) : va_E := .inl (X.2 0, 16, .inl (Outline_xs (X_outlines o i)))
def xp_outlines2 (X : xG) (ad : Nat → Nat) (o : xSt) (i : Nat) : va_E := .inl (X.2 0, 16, .inl (Outline_ys (X_outlines o i)))
def xp_pieces0 (X : xG) (ad : Nat → Nat) (o : xSt) (i : Nat) : va_E := .inr (4, [.int (Piece_alongX (X_pieces o i)), .int (Piece_line (X_pieces o i)), .int (Piece_low (X_pieces o i)), .int (Piece_high (X_pieces o i)), .int (Piece_sideLow (X_pieces o i)), .int (Piece_sideHigh (X_pieces o i)), .int (Piece_first (X_pieces o i)), .int (Piece_last (X_pieces o i)), .int (Piece_outward (X_pieces o i)), .int (Piece_insideX (X_pieces o i)), .int (Piece_insideY (X_pieces o i)), .int (Piece_move (X_pieces o i))])
def xp_bars0 (X : xG) (ad : Nat → Nat) (o : xSt) (i : Nat) : va_E := .inr (0, [.int (Box_left (X_bars o i)), .int (Box_top (X_bars o i)), .int (Box_right (X_bars o i)), .int (Box_bottom (X_bars o i))])
def xpool (X : xG) (ad : Nat → Nat) (o : xSt) (j : Nat) : va_E := if j < 20 then xp_outlines0 X ad o (j - 16) else if j < 24 then xp_outlines1 X ad o (j - 20) else if j < 28 then xp_outlines2 X ad o (j - 24) else if j < 148 then xp_pieces0 X ad o (j - 28) else if j < 172 then xp_bars0 X ad o (j - 148) else .inl (X.2 0, 0, .inl (fun _ => 0))
def xcell (X : xG) (ad : Nat → Nat) (o : xSt) (j : Nat) : va_E := if j < 16 then xfix X ad o j else xpool X ad o j
def wX (X : xG) (ad : Nat → Nat) (o : xSt) : va_W := (List.range 172).map (fun j => (ad j, xcell X ad o j))
theorem xget {X : xG} {ad : Nat → Nat} {o : xSt} (j : Nat) (hj : j < 172) : (wX X ad o)[j]? = some (ad j, xcell X ad o j) := by
  unfold wX
  rw [List.getElem?_map, List.getElem?_range hj]
  rfl
theorem xlen {X : xG} {ad : Nat → Nat} {o : xSt} : (wX X ad o).length = 172 := by
  unfold wX
  rw [List.length_map, List.length_range]
theorem xset {X : xG} {ad : Nat → Nat} {o o1 : xSt} {j : Nat} {e : va_E} (h1 : xcell X ad o1 j = e) (h2 : ∀ i, i ≠ j → xcell X ad o1 i = xcell X ad o i) : (wX X ad o).set j (ad j, e) = wX X ad o1 := by
  apply List.ext_getElem?
  intro i
  by_cases hi : i < 172
  · by_cases hij : i = j
    · subst hij
      rw [List.getElem?_set_self (by rw [xlen]; exact hi), xget i hi, h1]
    · rw [List.getElem?_set_ne (Ne.symm hij), xget i hi, xget i hi, h2 i hij]
  · rw [List.getElem?_eq_none (by rw [List.length_set, xlen]; omega), List.getElem?_eq_none (by rw [xlen]; omega)]
def okA (ad : Nat → Nat) : Prop := ∀ i j, i < 172 → j < 172 → ad i = ad j → i = j
def xA (ad : Nat → Nat) : Nat → Prop := fun q => ∃ j, j < 172 ∧ q = ad j
theorem xA_in {ad : Nat → Nat} (j : Nat) (h : j < 172) : xA ad (ad j) := ⟨j, h, rfl⟩
theorem x_at {X : xG} {ad : Nat → Nat} {o : xSt} {k : Nat} {q : Nat × va_E} (h : (wX X ad o)[k]? = some q) : k < 172 ∧ q = (ad k, xcell X ad o k) := by
  have hk : k < 172 := by
    have := (List.getElem?_eq_some_iff.mp h).1
    rw [xlen] at this
    exact this
  rw [xget k hk] at h
  exact ⟨hk, (Option.some.inj h).symm⟩
theorem xD {X : xG} {ad : Nat → Nat} (hA : okA ad) {o : xSt} : va_D (xA ad) (wX X ad o) := by
  refine ⟨fun i j p q hi hj h => ?_, fun k q h => ?_⟩
  · obtain ⟨h1, rfl⟩ := x_at hi
    obtain ⟨h2, rfl⟩ := x_at hj
    exact hA i j h1 h2 h
  · obtain ⟨h1, rfl⟩ := x_at h
    exact xA_in k h1
theorem xeq {D : va_G} {cl : List vw_C} {w w1 : va_W} {H : Heap} (e : w = w1) (h : va_P D cl w H) : va_P D cl w1 H := e ▸ h
theorem xg0 {X : xG} {ad : Nat → Nat} {o : xSt} : (wX X ad o)[0]? = some (ad 0, .inr (5, [.ref (ad 1), .int (X_outlineCount o), .ref (ad 2), .int (X_pieceCount o), .ref (ad 3), .ref (ad 4), .int (X_barCount o), .ref (ad 5), .ref (ad 7), .ref (ad 9), .ref (ad 11), .ref (ad 14), .int (X_worstCount o), .ref (ad 15)])) := xget 0 (by decide)
theorem xg1 {X : xG} {ad : Nat → Nat} {o : xSt} : (wX X ad o)[1]? = some (ad 1, .inl (X.2 2, 4, .inr (.inr (.inr (.inr (fun i => some (ad (16 + i)))))))) := xget 1 (by decide)
theorem xg2 {X : xG} {ad : Nat → Nat} {o : xSt} : (wX X ad o)[2]? = some (ad 2, .inl (X.2 3, 120, .inr (.inr (.inr (.inr (fun i => some (ad (28 + i)))))))) := xget 2 (by decide)
theorem xg3 {X : xG} {ad : Nat → Nat} {o : xSt} : (wX X ad o)[3]? = some (ad 3, .inl (X.2 0, 120, .inl (X_movesBefore o))) := xget 3 (by decide)
theorem xg4 {X : xG} {ad : Nat → Nat} {o : xSt} : (wX X ad o)[4]? = some (ad 4, .inl (X.2 4, 24, .inr (.inr (.inr (.inr (fun i => some (ad (148 + i)))))))) := xget 4 (by decide)
theorem xg5 {X : xG} {ad : Nat → Nat} {o : xSt} : (wX X ad o)[5]? = some (ad 5, .inr (1, [.ref (ad 6)])) := xget 5 (by decide)
theorem xg6 {X : xG} {ad : Nat → Nat} {o : xSt} : (wX X ad o)[6]? = some (ad 6, .inl (X.2 1, 48, .inr (.inl (CellSet_rows (X_target o))))) := xget 6 (by decide)
theorem xg7 {X : xG} {ad : Nat → Nat} {o : xSt} : (wX X ad o)[7]? = some (ad 7, .inr (1, [.ref (ad 8)])) := xget 7 (by decide)
theorem xg8 {X : xG} {ad : Nat → Nat} {o : xSt} : (wX X ad o)[8]? = some (ad 8, .inl (X.2 1, 48, .inr (.inl (CellSet_rows (X_barCells o))))) := xget 8 (by decide)
theorem xg9 {X : xG} {ad : Nat → Nat} {o : xSt} : (wX X ad o)[9]? = some (ad 9, .inr (1, [.ref (ad 10)])) := xget 9 (by decide)
theorem xg10 {X : xG} {ad : Nat → Nat} {o : xSt} : (wX X ad o)[10]? = some (ad 10, .inl (X.2 1, 48, .inr (.inl (CellSet_rows (X_mask o))))) := xget 10 (by decide)
theorem xg11 {X : xG} {ad : Nat → Nat} {o : xSt} : (wX X ad o)[11]? = some (ad 11, .inr (2, [.ref (ad 12), .ref (ad 13), .int (Exposure_kernels (X_exposure o)), .int (Exposure_threshold (X_exposure o))])) := xget 11 (by decide)
theorem xg12 {X : xG} {ad : Nat → Nat} {o : xSt} : (wX X ad o)[12]? = some (ad 12, .inl (X.2 0, 6, .inl (Exposure_weights (X_exposure o)))) := xget 12 (by decide)
theorem xg13 {X : xG} {ad : Nat → Nat} {o : xSt} : (wX X ad o)[13]? = some (ad 13, .inl (X.2 0, 6, .inl (Exposure_widths (X_exposure o)))) := xget 13 (by decide)
theorem xg14 {X : xG} {ad : Nat → Nat} {o : xSt} : (wX X ad o)[14]? = some (ad 14, .inl (X.2 0, 21, .inl (X_worsts o))) := xget 14 (by decide)
theorem xg15 {X : xG} {ad : Nat → Nat} {o : xSt} : (wX X ad o)[15]? = some (ad 15, .inr (0, [.int (Box_left (X_box o)), .int (Box_top (X_box o)), .int (Box_right (X_box o)), .int (Box_bottom (X_box o))])) := xget 15 (by decide)
theorem xc_outlines0 {X : xG} {ad : Nat → Nat} {o : xSt} {i : Nat} (hi : i < 4) : xcell X ad o (16 + i) = xp_outlines0 X ad o i := by
  unfold xcell xpool
  rw [if_neg (by omega), if_pos (by omega), Nat.add_sub_cancel_left]
theorem xg_outlines0 {X : xG} {ad : Nat → Nat} {o : xSt} {i : Nat} (hi : i < 4) : (wX X ad o)[16 + i]? = some (ad (16 + i), .inr (3, [.ref (ad (20 + i)), .ref (ad (24 + i)), .int (Outline_corners (X_outlines o i)), .int (Outline_closed (X_outlines o i))])) := by
  rw [xget (16 + i) (by omega), xc_outlines0 hi]
  rfl
theorem xc_outlines1 {X : xG} {ad : Nat → Nat} {o : xSt} {i : Nat} (hi : i < 4) : xcell X ad o (20 + i) = xp_outlines1 X ad o i := by
  unfold xcell xpool
  rw [if_neg (by omega), if_neg (by omega), if_pos (by omega), Nat.add_sub_cancel_left]
theorem xg_outlines1 {X : xG} {ad : Nat → Nat} {o : xSt} {i : Nat} (hi : i < 4) : (wX X ad o)[20 + i]? = some (ad (20 + i), .inl (X.2 0, 16, .inl (Outline_xs (X_outlines o i)))) := by
  rw [xget (20 + i) (by omega), xc_outlines1 hi]
  rfl
theorem xc_outlines2 {X : xG} {ad : Nat → Nat} {o : xSt} {i : Nat} (hi : i < 4) : xcell X ad o (24 + i) = xp_outlines2 X ad o i := by
  unfold xcell xpool
  rw [if_neg (by omega), if_neg (by omega), if_neg (by omega), if_pos (by omega), Nat.add_sub_cancel_left]
theorem xg_outlines2 {X : xG} {ad : Nat → Nat} {o : xSt} {i : Nat} (hi : i < 4) : (wX X ad o)[24 + i]? = some (ad (24 + i), .inl (X.2 0, 16, .inl (Outline_ys (X_outlines o i)))) := by
  rw [xget (24 + i) (by omega), xc_outlines2 hi]
  rfl
theorem xc_pieces0 {X : xG} {ad : Nat → Nat} {o : xSt} {i : Nat} (hi : i < 120) : xcell X ad o (28 + i) = xp_pieces0 X ad o i := by
  unfold xcell xpool
  rw [if_neg (by omega), if_neg (by omega), if_neg (by omega), if_neg (by omega), if_pos (by omega), Nat.add_sub_cancel_left]
theorem xg_pieces0 {X : xG} {ad : Nat → Nat} {o : xSt} {i : Nat} (hi : i < 120) : (wX X ad o)[28 + i]? = some (ad (28 + i), .inr (4, [.int (Piece_alongX (X_pieces o i)), .int (Piece_line (X_pieces o i)), .int (Piece_low (X_pieces o i)), .int (Piece_high (X_pieces o i)), .int (Piece_sideLow (X_pieces o i)), .int (Piece_sideHigh (X_pieces o i)), .int (Piece_first (X_pieces o i)), .int (Piece_last (X_pieces o i)), .int (Piece_outward (X_pieces o i)), .int (Piece_insideX (X_pieces o i)), .int (Piece_insideY (X_pieces o i)), .int (Piece_move (X_pieces o i))])) := by
  rw [xget (28 + i) (by omega), xc_pieces0 hi]
  rfl
theorem xc_bars0 {X : xG} {ad : Nat → Nat} {o : xSt} {i : Nat} (hi : i < 24) : xcell X ad o (148 + i) = xp_bars0 X ad o i := by
  unfold xcell xpool
  rw [if_neg (by omega), if_neg (by omega), if_neg (by omega), if_neg (by omega), if_neg (by omega), if_pos (by omega), Nat.add_sub_cancel_left]
theorem xg_bars0 {X : xG} {ad : Nat → Nat} {o : xSt} {i : Nat} (hi : i < 24) : (wX X ad o)[148 + i]? = some (ad (148 + i), .inr (0, [.int (Box_left (X_bars o i)), .int (Box_top (X_bars o i)), .int (Box_right (X_bars o i)), .int (Box_bottom (X_bars o i))])) := by
  rw [xget (148 + i) (by omega), xc_bars0 hi]
  rfl
theorem agf_outlines {X : xG} {ad : Nat → Nat} {o : xSt} {v : (Nat → t_Outline)} : ∀ j, xfix X ad (X_u_outlines o v) j = xfix X ad o j
  | 0 => rfl
  | 1 => rfl
  | 2 => rfl
  | 3 => rfl
  | 4 => rfl
  | 5 => rfl
  | 6 => rfl
  | 7 => rfl
  | 8 => rfl
  | 9 => rfl
  | 10 => rfl
  | 11 => rfl
  | 12 => rfl
  | 13 => rfl
  | 14 => rfl
  | 15 => rfl
  | _ + 16 => rfl
set_option maxRecDepth 100000 in
theorem ag_outlines {X : xG} {ad : Nat → Nat} {o : xSt} {i : Nat} {v : t_Outline} (j : Nat) (h0 : j ≠ 16 + i) (h1 : j ≠ 20 + i) (h2 : j ≠ 24 + i) : xcell X ad (X_u_outlines o (va_up (X_outlines o) i v)) j = xcell X ad o j := by
  unfold xcell
  by_cases hj : j < 16
  · rw [if_pos hj, if_pos hj, agf_outlines]
  · rw [if_neg hj, if_neg hj]
    unfold xpool
    by_cases c16 : j < 20
    · rw [if_pos c16, if_pos c16]
      unfold xp_outlines0
      rw [show X_outlines (X_u_outlines o (va_up (X_outlines o) i v)) (j - 16) = X_outlines o (j - 16) from va_up_ne _ _ (by omega)]
    rw [if_neg c16, if_neg c16]
    by_cases c20 : j < 24
    · rw [if_pos c20, if_pos c20]
      unfold xp_outlines1
      rw [show X_outlines (X_u_outlines o (va_up (X_outlines o) i v)) (j - 20) = X_outlines o (j - 20) from va_up_ne _ _ (by omega)]
    rw [if_neg c20, if_neg c20]
    by_cases c24 : j < 28
    · rw [if_pos c24, if_pos c24]
      unfold xp_outlines2
      rw [show X_outlines (X_u_outlines o (va_up (X_outlines o) i v)) (j - 24) = X_outlines o (j - 24) from va_up_ne _ _ (by omega)]
    rw [if_neg c24, if_neg c24]
    by_cases c28 : j < 148
    · rw [if_pos c28, if_pos c28]; rfl
    rw [if_neg c28, if_neg c28]
    by_cases c148 : j < 172
    · rw [if_pos c148, if_pos c148]; rfl
    rw [if_neg c148, if_neg c148]
theorem xs_outlines {X : xG} {ad : Nat → Nat} {o : xSt} {i : Nat} (hi : i < 4) {H : Heap} (hP : va_P X.1 vwCl (wX X ad o) H) : va_P X.1 vwCl (w_Outline X (ad (16 + i)) (ad (20 + i)) (ad (24 + i)) (X_outlines o i)) H := xp_cons (hP _ _ (xg_outlines0 hi)) (xp_cons (hP _ _ (xg_outlines1 hi)) (xp_cons (hP _ _ (xg_outlines2 hi)) (xp_nil)))
theorem xu_outlines {X : xG} {ad : Nat → Nat} {o : xSt} {i : Nat} (hi : i < 4) {v : t_Outline} {H H1 : Heap} {L : List Loc} (hA : okA ad) (hP : va_P X.1 vwCl (wX X ad o) H) (hq : va_P X.1 vwCl (w_Outline X (ad (16 + i)) (ad (20 + i)) (ad (24 + i)) v) H1) (hz : xFr (xAl [ad (16 + i), ad (20 + i), ad (24 + i)]) H H1 L) : va_P X.1 vwCl (wX X ad (X_u_outlines o (va_up (X_outlines o) i v))) H1 := by
  refine xback hP hz (fun k q hk => ?_)
  obtain ⟨h1, rfl⟩ := x_at hk
  by_cases e0 : k = 16 + i
  · subst e0
    have e : xp_outlines0 X ad (X_u_outlines o (va_up (X_outlines o) i v)) i = .inr (3, [.ref (ad (20 + i)), .ref (ad (24 + i)), .int (Outline_corners v), .int (Outline_closed v)]) := by
      unfold xp_outlines0
      rw [show X_outlines (X_u_outlines o (va_up (X_outlines o) i v)) i = v from va_up_self _ _ _]
    rw [xc_outlines0 hi, e]
    exact Or.inr (hq 0 _ rfl)
  by_cases e1 : k = 20 + i
  · subst e1
    have e : xp_outlines1 X ad (X_u_outlines o (va_up (X_outlines o) i v)) i = .inl (X.2 0, 16, .inl (Outline_xs v)) := by
      unfold xp_outlines1
      rw [show X_outlines (X_u_outlines o (va_up (X_outlines o) i v)) i = v from va_up_self _ _ _]
    rw [xc_outlines1 hi, e]
    exact Or.inr (hq 1 _ rfl)
  by_cases e2 : k = 24 + i
  · subst e2
    have e : xp_outlines2 X ad (X_u_outlines o (va_up (X_outlines o) i v)) i = .inl (X.2 0, 16, .inl (Outline_ys v)) := by
      unfold xp_outlines2
      rw [show X_outlines (X_u_outlines o (va_up (X_outlines o) i v)) i = v from va_up_self _ _ _]
    rw [xc_outlines2 hi, e]
    exact Or.inr (hq 2 _ rfl)
  refine Or.inl ⟨by rw [xget k h1, ag_outlines k e0 e1 e2], fun h => ?_⟩
  simp only [xAl, List.mem_cons, List.mem_nil_iff, or_false] at h
  rcases h with h | h | h
  · exact e0 (hA _ _ h1 (by omega) h)
  · exact e1 (hA _ _ h1 (by omega) h)
  · exact e2 (hA _ _ h1 (by omega) h)
theorem ag_outlineCount {X : xG} {ad : Nat → Nat} {o : xSt} {v : Int32} (j : Nat) (h : j ≠ 0) : xcell X ad (X_u_outlineCount o v) j = xcell X ad o j := by
  unfold xcell
  by_cases hj : j < 16
  · rw [if_pos hj, if_pos hj]
    match j, h with
    | 0, h => exact absurd rfl h
    | 1, _ => rfl
    | 2, _ => rfl
    | 3, _ => rfl
    | 4, _ => rfl
    | 5, _ => rfl
    | 6, _ => rfl
    | 7, _ => rfl
    | 8, _ => rfl
    | 9, _ => rfl
    | 10, _ => rfl
    | 11, _ => rfl
    | 12, _ => rfl
    | 13, _ => rfl
    | 14, _ => rfl
    | 15, _ => rfl
    | _ + 16, _ => rfl
  · rw [if_neg hj, if_neg hj]
    rfl
theorem xm_outlineCount {X : xG} {ad : Nat → Nat} {o : xSt} {v : Int32} : (wX X ad o).set 0 (ad 0, .inr (5, [.ref (ad 1), .int v, .ref (ad 2), .int (X_pieceCount o), .ref (ad 3), .ref (ad 4), .int (X_barCount o), .ref (ad 5), .ref (ad 7), .ref (ad 9), .ref (ad 11), .ref (ad 14), .int (X_worstCount o), .ref (ad 15)])) = wX X ad (X_u_outlineCount o v) := xset (j := 0) rfl ag_outlineCount
theorem agf_pieces {X : xG} {ad : Nat → Nat} {o : xSt} {v : (Nat → t_Piece)} : ∀ j, xfix X ad (X_u_pieces o v) j = xfix X ad o j
  | 0 => rfl
  | 1 => rfl
  | 2 => rfl
  | 3 => rfl
  | 4 => rfl
  | 5 => rfl
  | 6 => rfl
  | 7 => rfl
  | 8 => rfl
  | 9 => rfl
  | 10 => rfl
  | 11 => rfl
  | 12 => rfl
  | 13 => rfl
  | 14 => rfl
  | 15 => rfl
  | _ + 16 => rfl
set_option maxRecDepth 100000 in
theorem ag_pieces {X : xG} {ad : Nat → Nat} {o : xSt} {i : Nat} {v : t_Piece} (j : Nat) (h0 : j ≠ 28 + i) : xcell X ad (X_u_pieces o (va_up (X_pieces o) i v)) j = xcell X ad o j := by
  unfold xcell
  by_cases hj : j < 16
  · rw [if_pos hj, if_pos hj, agf_pieces]
  · rw [if_neg hj, if_neg hj]
    unfold xpool
    by_cases c16 : j < 20
    · rw [if_pos c16, if_pos c16]; rfl
    rw [if_neg c16, if_neg c16]
    by_cases c20 : j < 24
    · rw [if_pos c20, if_pos c20]; rfl
    rw [if_neg c20, if_neg c20]
    by_cases c24 : j < 28
    · rw [if_pos c24, if_pos c24]; rfl
    rw [if_neg c24, if_neg c24]
    by_cases c28 : j < 148
    · rw [if_pos c28, if_pos c28]
      unfold xp_pieces0
      rw [show X_pieces (X_u_pieces o (va_up (X_pieces o) i v)) (j - 28) = X_pieces o (j - 28) from va_up_ne _ _ (by omega)]
    rw [if_neg c28, if_neg c28]
    by_cases c148 : j < 172
    · rw [if_pos c148, if_pos c148]; rfl
    rw [if_neg c148, if_neg c148]
theorem xs_pieces {X : xG} {ad : Nat → Nat} {o : xSt} {i : Nat} (hi : i < 120) {H : Heap} (hP : va_P X.1 vwCl (wX X ad o) H) : va_P X.1 vwCl (w_Piece X (ad (28 + i)) (X_pieces o i)) H := xp_cons (hP _ _ (xg_pieces0 hi)) (xp_nil)
theorem xu_pieces {X : xG} {ad : Nat → Nat} {o : xSt} {i : Nat} (hi : i < 120) {v : t_Piece} {H H1 : Heap} {L : List Loc} (hA : okA ad) (hP : va_P X.1 vwCl (wX X ad o) H) (hq : va_P X.1 vwCl (w_Piece X (ad (28 + i)) v) H1) (hz : xFr (xAl [ad (28 + i)]) H H1 L) : va_P X.1 vwCl (wX X ad (X_u_pieces o (va_up (X_pieces o) i v))) H1 := by
  refine xback hP hz (fun k q hk => ?_)
  obtain ⟨h1, rfl⟩ := x_at hk
  by_cases e0 : k = 28 + i
  · subst e0
    have e : xp_pieces0 X ad (X_u_pieces o (va_up (X_pieces o) i v)) i = .inr (4, [.int (Piece_alongX v), .int (Piece_line v), .int (Piece_low v), .int (Piece_high v), .int (Piece_sideLow v), .int (Piece_sideHigh v), .int (Piece_first v), .int (Piece_last v), .int (Piece_outward v), .int (Piece_insideX v), .int (Piece_insideY v), .int (Piece_move v)]) := by
      unfold xp_pieces0
      rw [show X_pieces (X_u_pieces o (va_up (X_pieces o) i v)) i = v from va_up_self _ _ _]
    rw [xc_pieces0 hi, e]
    exact Or.inr (hq 0 _ rfl)
  refine Or.inl ⟨by rw [xget k h1, ag_pieces k e0], fun h => ?_⟩
  simp only [xAl, List.mem_cons, List.mem_nil_iff, or_false] at h
  rcases h with h
  · exact e0 (hA _ _ h1 (by omega) h)
theorem xm_pieces_move {X : xG} {ad : Nat → Nat} {o : xSt} {i : Nat} (hi : i < 120) {v : Int32} : (wX X ad o).set (28 + i) (ad (28 + i), .inr (4, [.int (Piece_alongX (X_pieces o i)), .int (Piece_line (X_pieces o i)), .int (Piece_low (X_pieces o i)), .int (Piece_high (X_pieces o i)), .int (Piece_sideLow (X_pieces o i)), .int (Piece_sideHigh (X_pieces o i)), .int (Piece_first (X_pieces o i)), .int (Piece_last (X_pieces o i)), .int (Piece_outward (X_pieces o i)), .int (Piece_insideX (X_pieces o i)), .int (Piece_insideY (X_pieces o i)), .int v])) = wX X ad (X_u_pieces o (va_up (X_pieces o) i (Piece_u_move (X_pieces o i) v))) := xset (j := 28 + i) (by
  rw [xc_pieces0 hi]
  unfold xp_pieces0
  rw [show X_pieces (X_u_pieces o (va_up (X_pieces o) i (Piece_u_move (X_pieces o i) v))) i = (Piece_u_move (X_pieces o i) v) from va_up_self _ _ _]
  rfl) ag_pieces
theorem ag_pieceCount {X : xG} {ad : Nat → Nat} {o : xSt} {v : Int32} (j : Nat) (h : j ≠ 0) : xcell X ad (X_u_pieceCount o v) j = xcell X ad o j := by
  unfold xcell
  by_cases hj : j < 16
  · rw [if_pos hj, if_pos hj]
    match j, h with
    | 0, h => exact absurd rfl h
    | 1, _ => rfl
    | 2, _ => rfl
    | 3, _ => rfl
    | 4, _ => rfl
    | 5, _ => rfl
    | 6, _ => rfl
    | 7, _ => rfl
    | 8, _ => rfl
    | 9, _ => rfl
    | 10, _ => rfl
    | 11, _ => rfl
    | 12, _ => rfl
    | 13, _ => rfl
    | 14, _ => rfl
    | 15, _ => rfl
    | _ + 16, _ => rfl
  · rw [if_neg hj, if_neg hj]
    rfl
theorem xm_pieceCount {X : xG} {ad : Nat → Nat} {o : xSt} {v : Int32} : (wX X ad o).set 0 (ad 0, .inr (5, [.ref (ad 1), .int (X_outlineCount o), .ref (ad 2), .int v, .ref (ad 3), .ref (ad 4), .int (X_barCount o), .ref (ad 5), .ref (ad 7), .ref (ad 9), .ref (ad 11), .ref (ad 14), .int (X_worstCount o), .ref (ad 15)])) = wX X ad (X_u_pieceCount o v) := xset (j := 0) rfl ag_pieceCount
theorem ag_movesBefore {X : xG} {ad : Nat → Nat} {o : xSt} {v : (Nat → Int32)} (j : Nat) (h : j ≠ 3) : xcell X ad (X_u_movesBefore o v) j = xcell X ad o j := by
  unfold xcell
  by_cases hj : j < 16
  · rw [if_pos hj, if_pos hj]
    match j, h with
    | 0, _ => rfl
    | 1, _ => rfl
    | 2, _ => rfl
    | 3, h => exact absurd rfl h
    | 4, _ => rfl
    | 5, _ => rfl
    | 6, _ => rfl
    | 7, _ => rfl
    | 8, _ => rfl
    | 9, _ => rfl
    | 10, _ => rfl
    | 11, _ => rfl
    | 12, _ => rfl
    | 13, _ => rfl
    | 14, _ => rfl
    | 15, _ => rfl
    | _ + 16, _ => rfl
  · rw [if_neg hj, if_neg hj]
    rfl
theorem xm_movesBefore {X : xG} {ad : Nat → Nat} {o : xSt} {v : (Nat → Int32)} : (wX X ad o).set 3 (ad 3, .inl (X.2 0, 120, .inl v)) = wX X ad (X_u_movesBefore o v) := xset (j := 3) rfl ag_movesBefore
theorem agf_bars {X : xG} {ad : Nat → Nat} {o : xSt} {v : (Nat → t_Box)} : ∀ j, xfix X ad (X_u_bars o v) j = xfix X ad o j
  | 0 => rfl
  | 1 => rfl
  | 2 => rfl
  | 3 => rfl
  | 4 => rfl
  | 5 => rfl
  | 6 => rfl
  | 7 => rfl
  | 8 => rfl
  | 9 => rfl
  | 10 => rfl
  | 11 => rfl
  | 12 => rfl
  | 13 => rfl
  | 14 => rfl
  | 15 => rfl
  | _ + 16 => rfl
set_option maxRecDepth 100000 in
theorem ag_bars {X : xG} {ad : Nat → Nat} {o : xSt} {i : Nat} {v : t_Box} (j : Nat) (h0 : j ≠ 148 + i) : xcell X ad (X_u_bars o (va_up (X_bars o) i v)) j = xcell X ad o j := by
  unfold xcell
  by_cases hj : j < 16
  · rw [if_pos hj, if_pos hj, agf_bars]
  · rw [if_neg hj, if_neg hj]
    unfold xpool
    by_cases c16 : j < 20
    · rw [if_pos c16, if_pos c16]; rfl
    rw [if_neg c16, if_neg c16]
    by_cases c20 : j < 24
    · rw [if_pos c20, if_pos c20]; rfl
    rw [if_neg c20, if_neg c20]
    by_cases c24 : j < 28
    · rw [if_pos c24, if_pos c24]; rfl
    rw [if_neg c24, if_neg c24]
    by_cases c28 : j < 148
    · rw [if_pos c28, if_pos c28]; rfl
    rw [if_neg c28, if_neg c28]
    by_cases c148 : j < 172
    · rw [if_pos c148, if_pos c148]
      unfold xp_bars0
      rw [show X_bars (X_u_bars o (va_up (X_bars o) i v)) (j - 148) = X_bars o (j - 148) from va_up_ne _ _ (by omega)]
    rw [if_neg c148, if_neg c148]
theorem xs_bars {X : xG} {ad : Nat → Nat} {o : xSt} {i : Nat} (hi : i < 24) {H : Heap} (hP : va_P X.1 vwCl (wX X ad o) H) : va_P X.1 vwCl (w_Box X (ad (148 + i)) (X_bars o i)) H := xp_cons (hP _ _ (xg_bars0 hi)) (xp_nil)
theorem xu_bars {X : xG} {ad : Nat → Nat} {o : xSt} {i : Nat} (hi : i < 24) {v : t_Box} {H H1 : Heap} {L : List Loc} (hA : okA ad) (hP : va_P X.1 vwCl (wX X ad o) H) (hq : va_P X.1 vwCl (w_Box X (ad (148 + i)) v) H1) (hz : xFr (xAl [ad (148 + i)]) H H1 L) : va_P X.1 vwCl (wX X ad (X_u_bars o (va_up (X_bars o) i v))) H1 := by
  refine xback hP hz (fun k q hk => ?_)
  obtain ⟨h1, rfl⟩ := x_at hk
  by_cases e0 : k = 148 + i
  · subst e0
    have e : xp_bars0 X ad (X_u_bars o (va_up (X_bars o) i v)) i = .inr (0, [.int (Box_left v), .int (Box_top v), .int (Box_right v), .int (Box_bottom v)]) := by
      unfold xp_bars0
      rw [show X_bars (X_u_bars o (va_up (X_bars o) i v)) i = v from va_up_self _ _ _]
    rw [xc_bars0 hi, e]
    exact Or.inr (hq 0 _ rfl)
  refine Or.inl ⟨by rw [xget k h1, ag_bars k e0], fun h => ?_⟩
  simp only [xAl, List.mem_cons, List.mem_nil_iff, or_false] at h
  rcases h with h
  · exact e0 (hA _ _ h1 (by omega) h)
theorem ag_barCount {X : xG} {ad : Nat → Nat} {o : xSt} {v : Int32} (j : Nat) (h : j ≠ 0) : xcell X ad (X_u_barCount o v) j = xcell X ad o j := by
  unfold xcell
  by_cases hj : j < 16
  · rw [if_pos hj, if_pos hj]
    match j, h with
    | 0, h => exact absurd rfl h
    | 1, _ => rfl
    | 2, _ => rfl
    | 3, _ => rfl
    | 4, _ => rfl
    | 5, _ => rfl
    | 6, _ => rfl
    | 7, _ => rfl
    | 8, _ => rfl
    | 9, _ => rfl
    | 10, _ => rfl
    | 11, _ => rfl
    | 12, _ => rfl
    | 13, _ => rfl
    | 14, _ => rfl
    | 15, _ => rfl
    | _ + 16, _ => rfl
  · rw [if_neg hj, if_neg hj]
    rfl
theorem xm_barCount {X : xG} {ad : Nat → Nat} {o : xSt} {v : Int32} : (wX X ad o).set 0 (ad 0, .inr (5, [.ref (ad 1), .int (X_outlineCount o), .ref (ad 2), .int (X_pieceCount o), .ref (ad 3), .ref (ad 4), .int v, .ref (ad 5), .ref (ad 7), .ref (ad 9), .ref (ad 11), .ref (ad 14), .int (X_worstCount o), .ref (ad 15)])) = wX X ad (X_u_barCount o v) := xset (j := 0) rfl ag_barCount
theorem ag_target {X : xG} {ad : Nat → Nat} {o : xSt} {v : t_CellSet} (j : Nat) (h5 : j ≠ 5) (h6 : j ≠ 6) : xcell X ad (X_u_target o v) j = xcell X ad o j := by
  unfold xcell
  by_cases hj : j < 16
  · rw [if_pos hj, if_pos hj]
    match j, h5, h6 with
    | 0, _, _ => rfl
    | 1, _, _ => rfl
    | 2, _, _ => rfl
    | 3, _, _ => rfl
    | 4, _, _ => rfl
    | 5, h, _ => exact absurd rfl h
    | 6, _, h => exact absurd rfl h
    | 7, _, _ => rfl
    | 8, _, _ => rfl
    | 9, _, _ => rfl
    | 10, _, _ => rfl
    | 11, _, _ => rfl
    | 12, _, _ => rfl
    | 13, _, _ => rfl
    | 14, _, _ => rfl
    | 15, _, _ => rfl
    | _ + 16, _, _ => rfl
  · rw [if_neg hj, if_neg hj]
    rfl
theorem xs_target {X : xG} {ad : Nat → Nat} {o : xSt} {H : Heap} (hP : va_P X.1 vwCl (wX X ad o) H) : va_P X.1 vwCl (w_CellSet X (ad 5) (ad 6) (X_target o)) H := xp_cons (hP 5 _ xg5) (xp_cons (hP 6 _ xg6) (xp_nil))
theorem xu_target {X : xG} {ad : Nat → Nat} {o : xSt} {v : t_CellSet} {H H1 : Heap} {L : List Loc} (hA : okA ad) (hP : va_P X.1 vwCl (wX X ad o) H) (hq : va_P X.1 vwCl (w_CellSet X (ad 5) (ad 6) v) H1) (hz : xFr (xAl [ad 5, ad 6]) H H1 L) : va_P X.1 vwCl (wX X ad (X_u_target o v)) H1 := by
  refine xback hP hz (fun k q hk => ?_)
  obtain ⟨h1, rfl⟩ := x_at hk
  by_cases e0 : k = 5
  · subst e0; exact Or.inr (hq 0 _ rfl)
  by_cases e1 : k = 6
  · subst e1; exact Or.inr (hq 1 _ rfl)
  refine Or.inl ⟨by rw [xget k h1, ag_target k e0 e1], fun h => ?_⟩
  simp only [xAl, List.mem_cons, List.mem_nil_iff, or_false] at h
  rcases h with h | h
  · exact e0 (hA _ _ h1 (by omega) h)
  · exact e1 (hA _ _ h1 (by omega) h)
theorem ag_barCells {X : xG} {ad : Nat → Nat} {o : xSt} {v : t_CellSet} (j : Nat) (h7 : j ≠ 7) (h8 : j ≠ 8) : xcell X ad (X_u_barCells o v) j = xcell X ad o j := by
  unfold xcell
  by_cases hj : j < 16
  · rw [if_pos hj, if_pos hj]
    match j, h7, h8 with
    | 0, _, _ => rfl
    | 1, _, _ => rfl
    | 2, _, _ => rfl
    | 3, _, _ => rfl
    | 4, _, _ => rfl
    | 5, _, _ => rfl
    | 6, _, _ => rfl
    | 7, h, _ => exact absurd rfl h
    | 8, _, h => exact absurd rfl h
    | 9, _, _ => rfl
    | 10, _, _ => rfl
    | 11, _, _ => rfl
    | 12, _, _ => rfl
    | 13, _, _ => rfl
    | 14, _, _ => rfl
    | 15, _, _ => rfl
    | _ + 16, _, _ => rfl
  · rw [if_neg hj, if_neg hj]
    rfl
theorem xs_barCells {X : xG} {ad : Nat → Nat} {o : xSt} {H : Heap} (hP : va_P X.1 vwCl (wX X ad o) H) : va_P X.1 vwCl (w_CellSet X (ad 7) (ad 8) (X_barCells o)) H := xp_cons (hP 7 _ xg7) (xp_cons (hP 8 _ xg8) (xp_nil))
theorem xu_barCells {X : xG} {ad : Nat → Nat} {o : xSt} {v : t_CellSet} {H H1 : Heap} {L : List Loc} (hA : okA ad) (hP : va_P X.1 vwCl (wX X ad o) H) (hq : va_P X.1 vwCl (w_CellSet X (ad 7) (ad 8) v) H1) (hz : xFr (xAl [ad 7, ad 8]) H H1 L) : va_P X.1 vwCl (wX X ad (X_u_barCells o v)) H1 := by
  refine xback hP hz (fun k q hk => ?_)
  obtain ⟨h1, rfl⟩ := x_at hk
  by_cases e0 : k = 7
  · subst e0; exact Or.inr (hq 0 _ rfl)
  by_cases e1 : k = 8
  · subst e1; exact Or.inr (hq 1 _ rfl)
  refine Or.inl ⟨by rw [xget k h1, ag_barCells k e0 e1], fun h => ?_⟩
  simp only [xAl, List.mem_cons, List.mem_nil_iff, or_false] at h
  rcases h with h | h
  · exact e0 (hA _ _ h1 (by omega) h)
  · exact e1 (hA _ _ h1 (by omega) h)
theorem ag_mask {X : xG} {ad : Nat → Nat} {o : xSt} {v : t_CellSet} (j : Nat) (h9 : j ≠ 9) (h10 : j ≠ 10) : xcell X ad (X_u_mask o v) j = xcell X ad o j := by
  unfold xcell
  by_cases hj : j < 16
  · rw [if_pos hj, if_pos hj]
    match j, h9, h10 with
    | 0, _, _ => rfl
    | 1, _, _ => rfl
    | 2, _, _ => rfl
    | 3, _, _ => rfl
    | 4, _, _ => rfl
    | 5, _, _ => rfl
    | 6, _, _ => rfl
    | 7, _, _ => rfl
    | 8, _, _ => rfl
    | 9, h, _ => exact absurd rfl h
    | 10, _, h => exact absurd rfl h
    | 11, _, _ => rfl
    | 12, _, _ => rfl
    | 13, _, _ => rfl
    | 14, _, _ => rfl
    | 15, _, _ => rfl
    | _ + 16, _, _ => rfl
  · rw [if_neg hj, if_neg hj]
    rfl
theorem xs_mask {X : xG} {ad : Nat → Nat} {o : xSt} {H : Heap} (hP : va_P X.1 vwCl (wX X ad o) H) : va_P X.1 vwCl (w_CellSet X (ad 9) (ad 10) (X_mask o)) H := xp_cons (hP 9 _ xg9) (xp_cons (hP 10 _ xg10) (xp_nil))
theorem xu_mask {X : xG} {ad : Nat → Nat} {o : xSt} {v : t_CellSet} {H H1 : Heap} {L : List Loc} (hA : okA ad) (hP : va_P X.1 vwCl (wX X ad o) H) (hq : va_P X.1 vwCl (w_CellSet X (ad 9) (ad 10) v) H1) (hz : xFr (xAl [ad 9, ad 10]) H H1 L) : va_P X.1 vwCl (wX X ad (X_u_mask o v)) H1 := by
  refine xback hP hz (fun k q hk => ?_)
  obtain ⟨h1, rfl⟩ := x_at hk
  by_cases e0 : k = 9
  · subst e0; exact Or.inr (hq 0 _ rfl)
  by_cases e1 : k = 10
  · subst e1; exact Or.inr (hq 1 _ rfl)
  refine Or.inl ⟨by rw [xget k h1, ag_mask k e0 e1], fun h => ?_⟩
  simp only [xAl, List.mem_cons, List.mem_nil_iff, or_false] at h
  rcases h with h | h
  · exact e0 (hA _ _ h1 (by omega) h)
  · exact e1 (hA _ _ h1 (by omega) h)
theorem ag_exposure {X : xG} {ad : Nat → Nat} {o : xSt} {v : t_Exposure} (j : Nat) (h11 : j ≠ 11) (h12 : j ≠ 12) (h13 : j ≠ 13) : xcell X ad (X_u_exposure o v) j = xcell X ad o j := by
  unfold xcell
  by_cases hj : j < 16
  · rw [if_pos hj, if_pos hj]
    match j, h11, h12, h13 with
    | 0, _, _, _ => rfl
    | 1, _, _, _ => rfl
    | 2, _, _, _ => rfl
    | 3, _, _, _ => rfl
    | 4, _, _, _ => rfl
    | 5, _, _, _ => rfl
    | 6, _, _, _ => rfl
    | 7, _, _, _ => rfl
    | 8, _, _, _ => rfl
    | 9, _, _, _ => rfl
    | 10, _, _, _ => rfl
    | 11, h, _, _ => exact absurd rfl h
    | 12, _, h, _ => exact absurd rfl h
    | 13, _, _, h => exact absurd rfl h
    | 14, _, _, _ => rfl
    | 15, _, _, _ => rfl
    | _ + 16, _, _, _ => rfl
  · rw [if_neg hj, if_neg hj]
    rfl
theorem xs_exposure {X : xG} {ad : Nat → Nat} {o : xSt} {H : Heap} (hP : va_P X.1 vwCl (wX X ad o) H) : va_P X.1 vwCl (w_Exposure X (ad 11) (ad 12) (ad 13) (X_exposure o)) H := xp_cons (hP 11 _ xg11) (xp_cons (hP 12 _ xg12) (xp_cons (hP 13 _ xg13) (xp_nil)))
theorem xu_exposure {X : xG} {ad : Nat → Nat} {o : xSt} {v : t_Exposure} {H H1 : Heap} {L : List Loc} (hA : okA ad) (hP : va_P X.1 vwCl (wX X ad o) H) (hq : va_P X.1 vwCl (w_Exposure X (ad 11) (ad 12) (ad 13) v) H1) (hz : xFr (xAl [ad 11, ad 12, ad 13]) H H1 L) : va_P X.1 vwCl (wX X ad (X_u_exposure o v)) H1 := by
  refine xback hP hz (fun k q hk => ?_)
  obtain ⟨h1, rfl⟩ := x_at hk
  by_cases e0 : k = 11
  · subst e0; exact Or.inr (hq 0 _ rfl)
  by_cases e1 : k = 12
  · subst e1; exact Or.inr (hq 1 _ rfl)
  by_cases e2 : k = 13
  · subst e2; exact Or.inr (hq 2 _ rfl)
  refine Or.inl ⟨by rw [xget k h1, ag_exposure k e0 e1 e2], fun h => ?_⟩
  simp only [xAl, List.mem_cons, List.mem_nil_iff, or_false] at h
  rcases h with h | h | h
  · exact e0 (hA _ _ h1 (by omega) h)
  · exact e1 (hA _ _ h1 (by omega) h)
  · exact e2 (hA _ _ h1 (by omega) h)
theorem ag_exposure_threshold {X : xG} {ad : Nat → Nat} {o : xSt} {v : Int32} (j : Nat) (h : j ≠ 11) : xcell X ad (X_u_exposure o (Exposure_u_threshold (X_exposure o) v)) j = xcell X ad o j := by
  unfold xcell
  by_cases hj : j < 16
  · rw [if_pos hj, if_pos hj]
    match j, h with
    | 0, _ => rfl
    | 1, _ => rfl
    | 2, _ => rfl
    | 3, _ => rfl
    | 4, _ => rfl
    | 5, _ => rfl
    | 6, _ => rfl
    | 7, _ => rfl
    | 8, _ => rfl
    | 9, _ => rfl
    | 10, _ => rfl
    | 11, h => exact absurd rfl h
    | 12, _ => rfl
    | 13, _ => rfl
    | 14, _ => rfl
    | 15, _ => rfl
    | _ + 16, _ => rfl
  · rw [if_neg hj, if_neg hj]
    rfl
theorem xm_exposure_threshold {X : xG} {ad : Nat → Nat} {o : xSt} {v : Int32} : (wX X ad o).set 11 (ad 11, .inr (2, [.ref (ad 12), .ref (ad 13), .int (Exposure_kernels (X_exposure o)), .int v])) = wX X ad (X_u_exposure o (Exposure_u_threshold (X_exposure o) v)) := xset (j := 11) rfl ag_exposure_threshold
theorem ag_worsts {X : xG} {ad : Nat → Nat} {o : xSt} {v : (Nat → Int32)} (j : Nat) (h : j ≠ 14) : xcell X ad (X_u_worsts o v) j = xcell X ad o j := by
  unfold xcell
  by_cases hj : j < 16
  · rw [if_pos hj, if_pos hj]
    match j, h with
    | 0, _ => rfl
    | 1, _ => rfl
    | 2, _ => rfl
    | 3, _ => rfl
    | 4, _ => rfl
    | 5, _ => rfl
    | 6, _ => rfl
    | 7, _ => rfl
    | 8, _ => rfl
    | 9, _ => rfl
    | 10, _ => rfl
    | 11, _ => rfl
    | 12, _ => rfl
    | 13, _ => rfl
    | 14, h => exact absurd rfl h
    | 15, _ => rfl
    | _ + 16, _ => rfl
  · rw [if_neg hj, if_neg hj]
    rfl
theorem xm_worsts {X : xG} {ad : Nat → Nat} {o : xSt} {v : (Nat → Int32)} : (wX X ad o).set 14 (ad 14, .inl (X.2 0, 21, .inl v)) = wX X ad (X_u_worsts o v) := xset (j := 14) rfl ag_worsts
theorem ag_worstCount {X : xG} {ad : Nat → Nat} {o : xSt} {v : Int32} (j : Nat) (h : j ≠ 0) : xcell X ad (X_u_worstCount o v) j = xcell X ad o j := by
  unfold xcell
  by_cases hj : j < 16
  · rw [if_pos hj, if_pos hj]
    match j, h with
    | 0, h => exact absurd rfl h
    | 1, _ => rfl
    | 2, _ => rfl
    | 3, _ => rfl
    | 4, _ => rfl
    | 5, _ => rfl
    | 6, _ => rfl
    | 7, _ => rfl
    | 8, _ => rfl
    | 9, _ => rfl
    | 10, _ => rfl
    | 11, _ => rfl
    | 12, _ => rfl
    | 13, _ => rfl
    | 14, _ => rfl
    | 15, _ => rfl
    | _ + 16, _ => rfl
  · rw [if_neg hj, if_neg hj]
    rfl
theorem xm_worstCount {X : xG} {ad : Nat → Nat} {o : xSt} {v : Int32} : (wX X ad o).set 0 (ad 0, .inr (5, [.ref (ad 1), .int (X_outlineCount o), .ref (ad 2), .int (X_pieceCount o), .ref (ad 3), .ref (ad 4), .int (X_barCount o), .ref (ad 5), .ref (ad 7), .ref (ad 9), .ref (ad 11), .ref (ad 14), .int v, .ref (ad 15)])) = wX X ad (X_u_worstCount o v) := xset (j := 0) rfl ag_worstCount
theorem ag_box {X : xG} {ad : Nat → Nat} {o : xSt} {v : t_Box} (j : Nat) (h15 : j ≠ 15) : xcell X ad (X_u_box o v) j = xcell X ad o j := by
  unfold xcell
  by_cases hj : j < 16
  · rw [if_pos hj, if_pos hj]
    match j, h15 with
    | 0, _ => rfl
    | 1, _ => rfl
    | 2, _ => rfl
    | 3, _ => rfl
    | 4, _ => rfl
    | 5, _ => rfl
    | 6, _ => rfl
    | 7, _ => rfl
    | 8, _ => rfl
    | 9, _ => rfl
    | 10, _ => rfl
    | 11, _ => rfl
    | 12, _ => rfl
    | 13, _ => rfl
    | 14, _ => rfl
    | 15, h => exact absurd rfl h
    | _ + 16, _ => rfl
  · rw [if_neg hj, if_neg hj]
    rfl
theorem xs_box {X : xG} {ad : Nat → Nat} {o : xSt} {H : Heap} (hP : va_P X.1 vwCl (wX X ad o) H) : va_P X.1 vwCl (w_Box X (ad 15) (X_box o)) H := xp_cons (hP 15 _ xg15) (xp_nil)
theorem xu_box {X : xG} {ad : Nat → Nat} {o : xSt} {v : t_Box} {H H1 : Heap} {L : List Loc} (hA : okA ad) (hP : va_P X.1 vwCl (wX X ad o) H) (hq : va_P X.1 vwCl (w_Box X (ad 15) v) H1) (hz : xFr (xAl [ad 15]) H H1 L) : va_P X.1 vwCl (wX X ad (X_u_box o v)) H1 := by
  refine xback hP hz (fun k q hk => ?_)
  obtain ⟨h1, rfl⟩ := x_at hk
  by_cases e0 : k = 15
  · subst e0; exact Or.inr (hq 0 _ rfl)
  refine Or.inl ⟨by rw [xget k h1, ag_box k e0], fun h => ?_⟩
  simp only [xAl, List.mem_cons, List.mem_nil_iff, or_false] at h
  rcases h with h
  · exact e0 (hA _ _ h1 (by omega) h)
theorem xnd2 {ad : Nat → Nat} (hA : okA ad) {i j : Nat} (hi : i < 172) (hj : j < 172) (h : i ≠ j) : [ad i, ad j].Nodup := by
  simp only [List.nodup_cons, List.mem_cons, List.mem_nil_iff, or_false, not_false_eq_true, List.nodup_nil, and_true]
  exact fun e => h (hA i j hi hj e)
theorem xnd3 {ad : Nat → Nat} (hA : okA ad) {i j k : Nat} (hi : i < 172) (hj : j < 172) (hk : k < 172) (h : i ≠ j) (h2 : i ≠ k) (h3 : j ≠ k) : [ad i, ad j, ad k].Nodup := by
  simp only [List.nodup_cons, List.mem_cons, List.mem_nil_iff, or_false, not_false_eq_true, List.nodup_nil, and_true]
  exact ⟨fun e => e.elim (fun e => h (hA i j hi hj e)) (fun e => h2 (hA i k hi hk e)), fun e => h3 (hA j k hj hk e)⟩
end
section
theorem d_Box_init_0 : decode prog_2_method_1_code 0 = .ok (.aload_n 0, 1) := by decide +kernel
theorem d_Box_init_1 : decode prog_2_method_1_code 1 = .ok (.invokespecial 3, 3) := by decide +kernel
theorem d_Box_init_4 : decode prog_2_method_1_code 4 = .ok (.return_, 1) := by decide +kernel
theorem d_Box_layBeside_0 : decode prog_2_method_2_code 0 = .ok (.aload_n 1, 1) := by decide +kernel
theorem d_Box_layBeside_1 : decode prog_2_method_2_code 1 = .ok (.getfield 9, 3) := by decide +kernel
theorem d_Box_layBeside_4 : decode prog_2_method_2_code 4 = .ok (.iload 4, 2) := by decide +kernel
theorem d_Box_layBeside_6 : decode prog_2_method_2_code 6 = .ok (.iload 5, 2) := by decide +kernel
theorem d_Box_layBeside_8 : decode prog_2_method_2_code 8 = .ok (.imul, 1) := by decide +kernel
theorem d_Box_layBeside_9 : decode prog_2_method_2_code 9 = .ok (.iadd, 1) := by decide +kernel
theorem d_Box_layBeside_10 : decode prog_2_method_2_code 10 = .ok (.istore 7, 2) := by decide +kernel
theorem d_Box_layBeside_12 : decode prog_2_method_2_code 12 = .ok (.iload 7, 2) := by decide +kernel
theorem d_Box_layBeside_14 : decode prog_2_method_2_code 14 = .ok (.iload 4, 2) := by decide +kernel
theorem d_Box_layBeside_16 : decode prog_2_method_2_code 16 = .ok (.iload 6, 2) := by decide +kernel
theorem d_Box_layBeside_18 : decode prog_2_method_2_code 18 = .ok (.imul, 1) := by decide +kernel
theorem d_Box_layBeside_19 : decode prog_2_method_2_code 19 = .ok (.iadd, 1) := by decide +kernel
theorem d_Box_layBeside_20 : decode prog_2_method_2_code 20 = .ok (.istore 8, 2) := by decide +kernel
theorem d_Box_layBeside_22 : decode prog_2_method_2_code 22 = .ok (.iload 7, 2) := by decide +kernel
theorem d_Box_layBeside_24 : decode prog_2_method_2_code 24 = .ok (.iload 8, 2) := by decide +kernel
theorem d_Box_layBeside_26 : decode prog_2_method_2_code 26 = .ok (.invokestatic 15, 3) := by decide +kernel
theorem d_Box_layBeside_29 : decode prog_2_method_2_code 29 = .ok (.istore 9, 2) := by decide +kernel
theorem d_Box_layBeside_31 : decode prog_2_method_2_code 31 = .ok (.iload 7, 2) := by decide +kernel
theorem d_Box_layBeside_33 : decode prog_2_method_2_code 33 = .ok (.iload 8, 2) := by decide +kernel
theorem d_Box_layBeside_35 : decode prog_2_method_2_code 35 = .ok (.invokestatic 21, 3) := by decide +kernel
theorem d_Box_layBeside_38 : decode prog_2_method_2_code 38 = .ok (.istore 10, 2) := by decide +kernel
theorem d_Box_layBeside_40 : decode prog_2_method_2_code 40 = .ok (.aload_n 0, 1) := by decide +kernel
theorem d_Box_layBeside_41 : decode prog_2_method_2_code 41 = .ok (.aload_n 1, 1) := by decide +kernel
theorem d_Box_layBeside_42 : decode prog_2_method_2_code 42 = .ok (.getfield 24, 3) := by decide +kernel
theorem d_Box_layBeside_45 : decode prog_2_method_2_code 45 = .ok (.ifCond .eq 7, 3) := by decide +kernel
theorem d_Box_layBeside_48 : decode prog_2_method_2_code 48 = .ok (.iload_n 2, 1) := by decide +kernel
theorem d_Box_layBeside_49 : decode prog_2_method_2_code 49 = .ok (.goto 5, 3) := by decide +kernel
theorem d_Box_layBeside_52 : decode prog_2_method_2_code 52 = .ok (.iload 9, 2) := by decide +kernel
theorem d_Box_layBeside_54 : decode prog_2_method_2_code 54 = .ok (.putfield 28, 3) := by decide +kernel
theorem d_Box_layBeside_57 : decode prog_2_method_2_code 57 = .ok (.aload_n 0, 1) := by decide +kernel
theorem d_Box_layBeside_58 : decode prog_2_method_2_code 58 = .ok (.aload_n 1, 1) := by decide +kernel
theorem d_Box_layBeside_59 : decode prog_2_method_2_code 59 = .ok (.getfield 24, 3) := by decide +kernel
theorem d_Box_layBeside_62 : decode prog_2_method_2_code 62 = .ok (.ifCond .eq 7, 3) := by decide +kernel
theorem d_Box_layBeside_65 : decode prog_2_method_2_code 65 = .ok (.iload_n 3, 1) := by decide +kernel
theorem d_Box_layBeside_66 : decode prog_2_method_2_code 66 = .ok (.goto 5, 3) := by decide +kernel
theorem d_Box_layBeside_69 : decode prog_2_method_2_code 69 = .ok (.iload 10, 2) := by decide +kernel
theorem d_Box_layBeside_71 : decode prog_2_method_2_code 71 = .ok (.putfield 33, 3) := by decide +kernel
theorem d_Box_layBeside_74 : decode prog_2_method_2_code 74 = .ok (.aload_n 0, 1) := by decide +kernel
theorem d_Box_layBeside_75 : decode prog_2_method_2_code 75 = .ok (.aload_n 1, 1) := by decide +kernel
theorem d_Box_layBeside_76 : decode prog_2_method_2_code 76 = .ok (.getfield 24, 3) := by decide +kernel
theorem d_Box_layBeside_79 : decode prog_2_method_2_code 79 = .ok (.ifCond .eq 8, 3) := by decide +kernel
theorem d_Box_layBeside_82 : decode prog_2_method_2_code 82 = .ok (.iload 9, 2) := by decide +kernel
theorem d_Box_layBeside_84 : decode prog_2_method_2_code 84 = .ok (.goto 4, 3) := by decide +kernel
theorem d_Box_layBeside_87 : decode prog_2_method_2_code 87 = .ok (.iload_n 2, 1) := by decide +kernel
theorem d_Box_layBeside_88 : decode prog_2_method_2_code 88 = .ok (.putfield 36, 3) := by decide +kernel
theorem d_Box_layBeside_91 : decode prog_2_method_2_code 91 = .ok (.aload_n 0, 1) := by decide +kernel
theorem d_Box_layBeside_92 : decode prog_2_method_2_code 92 = .ok (.aload_n 1, 1) := by decide +kernel
theorem d_Box_layBeside_93 : decode prog_2_method_2_code 93 = .ok (.getfield 24, 3) := by decide +kernel
theorem d_Box_layBeside_96 : decode prog_2_method_2_code 96 = .ok (.ifCond .eq 8, 3) := by decide +kernel
theorem d_Box_layBeside_99 : decode prog_2_method_2_code 99 = .ok (.iload 10, 2) := by decide +kernel
theorem d_Box_layBeside_101 : decode prog_2_method_2_code 101 = .ok (.goto 4, 3) := by decide +kernel
theorem d_Box_layBeside_104 : decode prog_2_method_2_code 104 = .ok (.iload_n 3, 1) := by decide +kernel
theorem d_Box_layBeside_105 : decode prog_2_method_2_code 105 = .ok (.putfield 39, 3) := by decide +kernel
theorem d_Box_layBeside_108 : decode prog_2_method_2_code 108 = .ok (.return_, 1) := by decide +kernel
theorem d_Box_copyFrom_0 : decode prog_2_method_3_code 0 = .ok (.aload_n 0, 1) := by decide +kernel
theorem d_Box_copyFrom_1 : decode prog_2_method_3_code 1 = .ok (.aload_n 1, 1) := by decide +kernel
theorem d_Box_copyFrom_2 : decode prog_2_method_3_code 2 = .ok (.getfield 28, 3) := by decide +kernel
theorem d_Box_copyFrom_5 : decode prog_2_method_3_code 5 = .ok (.putfield 28, 3) := by decide +kernel
theorem d_Box_copyFrom_8 : decode prog_2_method_3_code 8 = .ok (.aload_n 0, 1) := by decide +kernel
theorem d_Box_copyFrom_9 : decode prog_2_method_3_code 9 = .ok (.aload_n 1, 1) := by decide +kernel
theorem d_Box_copyFrom_10 : decode prog_2_method_3_code 10 = .ok (.getfield 36, 3) := by decide +kernel
theorem d_Box_copyFrom_13 : decode prog_2_method_3_code 13 = .ok (.putfield 36, 3) := by decide +kernel
theorem d_Box_copyFrom_16 : decode prog_2_method_3_code 16 = .ok (.aload_n 0, 1) := by decide +kernel
theorem d_Box_copyFrom_17 : decode prog_2_method_3_code 17 = .ok (.aload_n 1, 1) := by decide +kernel
theorem d_Box_copyFrom_18 : decode prog_2_method_3_code 18 = .ok (.getfield 33, 3) := by decide +kernel
theorem d_Box_copyFrom_21 : decode prog_2_method_3_code 21 = .ok (.putfield 33, 3) := by decide +kernel
theorem d_Box_copyFrom_24 : decode prog_2_method_3_code 24 = .ok (.aload_n 0, 1) := by decide +kernel
theorem d_Box_copyFrom_25 : decode prog_2_method_3_code 25 = .ok (.aload_n 1, 1) := by decide +kernel
theorem d_Box_copyFrom_26 : decode prog_2_method_3_code 26 = .ok (.getfield 39, 3) := by decide +kernel
theorem d_Box_copyFrom_29 : decode prog_2_method_3_code 29 = .ok (.putfield 39, 3) := by decide +kernel
theorem d_Box_copyFrom_32 : decode prog_2_method_3_code 32 = .ok (.return_, 1) := by decide +kernel
theorem d_Box_isOnGrid_0 : decode prog_2_method_4_code 0 = .ok (.aload_n 0, 1) := by decide +kernel
theorem d_Box_isOnGrid_1 : decode prog_2_method_4_code 1 = .ok (.getfield 28, 3) := by decide +kernel
theorem d_Box_isOnGrid_4 : decode prog_2_method_4_code 4 = .ok (.ifCond .lt 32, 3) := by decide +kernel
theorem d_Box_isOnGrid_7 : decode prog_2_method_4_code 7 = .ok (.aload_n 0, 1) := by decide +kernel
theorem d_Box_isOnGrid_8 : decode prog_2_method_4_code 8 = .ok (.getfield 36, 3) := by decide +kernel
theorem d_Box_isOnGrid_11 : decode prog_2_method_4_code 11 = .ok (.ifCond .lt 25, 3) := by decide +kernel
theorem d_Box_isOnGrid_14 : decode prog_2_method_4_code 14 = .ok (.aload_n 0, 1) := by decide +kernel
theorem d_Box_isOnGrid_15 : decode prog_2_method_4_code 15 = .ok (.getfield 33, 3) := by decide +kernel
theorem d_Box_isOnGrid_18 : decode prog_2_method_4_code 18 = .ok (.bipush 48, 2) := by decide +kernel
theorem d_Box_isOnGrid_20 : decode prog_2_method_4_code 20 = .ok (.if_icmp .gt 16, 3) := by decide +kernel
theorem d_Box_isOnGrid_23 : decode prog_2_method_4_code 23 = .ok (.aload_n 0, 1) := by decide +kernel
theorem d_Box_isOnGrid_24 : decode prog_2_method_4_code 24 = .ok (.getfield 39, 3) := by decide +kernel
theorem d_Box_isOnGrid_27 : decode prog_2_method_4_code 27 = .ok (.bipush 48, 2) := by decide +kernel
theorem d_Box_isOnGrid_29 : decode prog_2_method_4_code 29 = .ok (.if_icmp .gt 7, 3) := by decide +kernel
theorem d_Box_isOnGrid_32 : decode prog_2_method_4_code 32 = .ok (.iconst 1, 1) := by decide +kernel
theorem d_Box_isOnGrid_33 : decode prog_2_method_4_code 33 = .ok (.goto 4, 3) := by decide +kernel
theorem d_Box_isOnGrid_36 : decode prog_2_method_4_code 36 = .ok (.iconst 0, 1) := by decide +kernel
theorem d_Box_isOnGrid_37 : decode prog_2_method_4_code 37 = .ok (.ireturn, 1) := by decide +kernel
theorem d_CellSet_init_0 : decode prog_3_method_1_code 0 = .ok (.aload_n 0, 1) := by decide +kernel
theorem d_CellSet_init_1 : decode prog_3_method_1_code 1 = .ok (.invokespecial 3, 3) := by decide +kernel
theorem d_CellSet_init_4 : decode prog_3_method_1_code 4 = .ok (.aload_n 0, 1) := by decide +kernel
theorem d_CellSet_init_5 : decode prog_3_method_1_code 5 = .ok (.bipush 48, 2) := by decide +kernel
theorem d_CellSet_init_7 : decode prog_3_method_1_code 7 = .ok (.newarray .long, 2) := by decide +kernel
theorem d_CellSet_init_9 : decode prog_3_method_1_code 9 = .ok (.putfield 9, 3) := by decide +kernel
theorem d_CellSet_init_12 : decode prog_3_method_1_code 12 = .ok (.return_, 1) := by decide +kernel
theorem d_CellSet_has_0 : decode prog_3_method_2_code 0 = .ok (.iload_n 1, 1) := by decide +kernel
theorem d_CellSet_has_1 : decode prog_3_method_2_code 1 = .ok (.iload_n 2, 1) := by decide +kernel
theorem d_CellSet_has_2 : decode prog_3_method_2_code 2 = .ok (.invokestatic 15, 3) := by decide +kernel
theorem d_CellSet_has_5 : decode prog_3_method_2_code 5 = .ok (.ifCond .eq 22, 3) := by decide +kernel
theorem d_CellSet_has_8 : decode prog_3_method_2_code 8 = .ok (.aload_n 0, 1) := by decide +kernel
theorem d_CellSet_has_9 : decode prog_3_method_2_code 9 = .ok (.getfield 9, 3) := by decide +kernel
theorem d_CellSet_has_12 : decode prog_3_method_2_code 12 = .ok (.iload_n 2, 1) := by decide +kernel
theorem d_CellSet_has_13 : decode prog_3_method_2_code 13 = .ok (.laload, 1) := by decide +kernel
theorem d_CellSet_has_14 : decode prog_3_method_2_code 14 = .ok (.lconst 1, 1) := by decide +kernel
theorem d_CellSet_has_15 : decode prog_3_method_2_code 15 = .ok (.iload_n 1, 1) := by decide +kernel
theorem d_CellSet_has_16 : decode prog_3_method_2_code 16 = .ok (.lshl, 1) := by decide +kernel
theorem d_CellSet_has_17 : decode prog_3_method_2_code 17 = .ok (.land, 1) := by decide +kernel
theorem d_CellSet_has_18 : decode prog_3_method_2_code 18 = .ok (.lconst 0, 1) := by decide +kernel
theorem d_CellSet_has_19 : decode prog_3_method_2_code 19 = .ok (.lcmp, 1) := by decide +kernel
theorem d_CellSet_has_20 : decode prog_3_method_2_code 20 = .ok (.ifCond .eq 7, 3) := by decide +kernel
theorem d_CellSet_has_23 : decode prog_3_method_2_code 23 = .ok (.iconst 1, 1) := by decide +kernel
theorem d_CellSet_has_24 : decode prog_3_method_2_code 24 = .ok (.goto 4, 3) := by decide +kernel
theorem d_CellSet_has_27 : decode prog_3_method_2_code 27 = .ok (.iconst 0, 1) := by decide +kernel
theorem d_CellSet_has_28 : decode prog_3_method_2_code 28 = .ok (.ireturn, 1) := by decide +kernel
theorem d_CellSet_add_0 : decode prog_3_method_3_code 0 = .ok (.iload_n 1, 1) := by decide +kernel
theorem d_CellSet_add_1 : decode prog_3_method_3_code 1 = .ok (.iload_n 2, 1) := by decide +kernel
theorem d_CellSet_add_2 : decode prog_3_method_3_code 2 = .ok (.invokestatic 15, 3) := by decide +kernel
theorem d_CellSet_add_5 : decode prog_3_method_3_code 5 = .ok (.ifCond .eq 15, 3) := by decide +kernel
theorem d_CellSet_add_8 : decode prog_3_method_3_code 8 = .ok (.aload_n 0, 1) := by decide +kernel
theorem d_CellSet_add_9 : decode prog_3_method_3_code 9 = .ok (.getfield 9, 3) := by decide +kernel
theorem d_CellSet_add_12 : decode prog_3_method_3_code 12 = .ok (.iload_n 2, 1) := by decide +kernel
theorem d_CellSet_add_13 : decode prog_3_method_3_code 13 = .ok (.dup2, 1) := by decide +kernel
theorem d_CellSet_add_14 : decode prog_3_method_3_code 14 = .ok (.laload, 1) := by decide +kernel
theorem d_CellSet_add_15 : decode prog_3_method_3_code 15 = .ok (.lconst 1, 1) := by decide +kernel
theorem d_CellSet_add_16 : decode prog_3_method_3_code 16 = .ok (.iload_n 1, 1) := by decide +kernel
theorem d_CellSet_add_17 : decode prog_3_method_3_code 17 = .ok (.lshl, 1) := by decide +kernel
theorem d_CellSet_add_18 : decode prog_3_method_3_code 18 = .ok (.lor, 1) := by decide +kernel
theorem d_CellSet_add_19 : decode prog_3_method_3_code 19 = .ok (.lastore, 1) := by decide +kernel
theorem d_CellSet_add_20 : decode prog_3_method_3_code 20 = .ok (.return_, 1) := by decide +kernel
theorem d_CellSet_copyFrom_0 : decode prog_3_method_4_code 0 = .ok (.iconst 0, 1) := by decide +kernel
theorem d_CellSet_copyFrom_1 : decode prog_3_method_4_code 1 = .ok (.istore_n 2, 1) := by decide +kernel
theorem d_CellSet_copyFrom_2 : decode prog_3_method_4_code 2 = .ok (.iload_n 2, 1) := by decide +kernel
theorem d_CellSet_copyFrom_3 : decode prog_3_method_4_code 3 = .ok (.bipush 48, 2) := by decide +kernel
theorem d_CellSet_copyFrom_5 : decode prog_3_method_4_code 5 = .ok (.if_icmp .ge 21, 3) := by decide +kernel
theorem d_CellSet_copyFrom_8 : decode prog_3_method_4_code 8 = .ok (.aload_n 0, 1) := by decide +kernel
theorem d_CellSet_copyFrom_9 : decode prog_3_method_4_code 9 = .ok (.getfield 9, 3) := by decide +kernel
theorem d_CellSet_copyFrom_12 : decode prog_3_method_4_code 12 = .ok (.iload_n 2, 1) := by decide +kernel
theorem d_CellSet_copyFrom_13 : decode prog_3_method_4_code 13 = .ok (.aload_n 1, 1) := by decide +kernel
theorem d_CellSet_copyFrom_14 : decode prog_3_method_4_code 14 = .ok (.getfield 9, 3) := by decide +kernel
theorem d_CellSet_copyFrom_17 : decode prog_3_method_4_code 17 = .ok (.iload_n 2, 1) := by decide +kernel
theorem d_CellSet_copyFrom_18 : decode prog_3_method_4_code 18 = .ok (.laload, 1) := by decide +kernel
theorem d_CellSet_copyFrom_19 : decode prog_3_method_4_code 19 = .ok (.lastore, 1) := by decide +kernel
theorem d_CellSet_copyFrom_20 : decode prog_3_method_4_code 20 = .ok (.iinc 2 1, 3) := by decide +kernel
theorem d_CellSet_copyFrom_23 : decode prog_3_method_4_code 23 = .ok (.goto (-21), 3) := by decide +kernel
theorem d_CellSet_copyFrom_26 : decode prog_3_method_4_code 26 = .ok (.return_, 1) := by decide +kernel
theorem d_CellSet_addAll_0 : decode prog_3_method_5_code 0 = .ok (.iconst 0, 1) := by decide +kernel
theorem d_CellSet_addAll_1 : decode prog_3_method_5_code 1 = .ok (.istore_n 2, 1) := by decide +kernel
theorem d_CellSet_addAll_2 : decode prog_3_method_5_code 2 = .ok (.iload_n 2, 1) := by decide +kernel
theorem d_CellSet_addAll_3 : decode prog_3_method_5_code 3 = .ok (.bipush 48, 2) := by decide +kernel
theorem d_CellSet_addAll_5 : decode prog_3_method_5_code 5 = .ok (.if_icmp .ge 24, 3) := by decide +kernel
theorem d_CellSet_addAll_8 : decode prog_3_method_5_code 8 = .ok (.aload_n 0, 1) := by decide +kernel
theorem d_CellSet_addAll_9 : decode prog_3_method_5_code 9 = .ok (.getfield 9, 3) := by decide +kernel
theorem d_CellSet_addAll_12 : decode prog_3_method_5_code 12 = .ok (.iload_n 2, 1) := by decide +kernel
theorem d_CellSet_addAll_13 : decode prog_3_method_5_code 13 = .ok (.dup2, 1) := by decide +kernel
theorem d_CellSet_addAll_14 : decode prog_3_method_5_code 14 = .ok (.laload, 1) := by decide +kernel
theorem d_CellSet_addAll_15 : decode prog_3_method_5_code 15 = .ok (.aload_n 1, 1) := by decide +kernel
theorem d_CellSet_addAll_16 : decode prog_3_method_5_code 16 = .ok (.getfield 9, 3) := by decide +kernel
theorem d_CellSet_addAll_19 : decode prog_3_method_5_code 19 = .ok (.iload_n 2, 1) := by decide +kernel
theorem d_CellSet_addAll_20 : decode prog_3_method_5_code 20 = .ok (.laload, 1) := by decide +kernel
theorem d_CellSet_addAll_21 : decode prog_3_method_5_code 21 = .ok (.lor, 1) := by decide +kernel
theorem d_CellSet_addAll_22 : decode prog_3_method_5_code 22 = .ok (.lastore, 1) := by decide +kernel
theorem d_CellSet_addAll_23 : decode prog_3_method_5_code 23 = .ok (.iinc 2 1, 3) := by decide +kernel
theorem d_CellSet_addAll_26 : decode prog_3_method_5_code 26 = .ok (.goto (-24), 3) := by decide +kernel
theorem d_CellSet_addAll_29 : decode prog_3_method_5_code 29 = .ok (.return_, 1) := by decide +kernel
theorem d_CellSet_addBox_0 : decode prog_3_method_6_code 0 = .ok (.aload_n 1, 1) := by decide +kernel
theorem d_CellSet_addBox_1 : decode prog_3_method_6_code 1 = .ok (.getfield 19, 3) := by decide +kernel
theorem d_CellSet_addBox_4 : decode prog_3_method_6_code 4 = .ok (.aload_n 1, 1) := by decide +kernel
theorem d_CellSet_addBox_5 : decode prog_3_method_6_code 5 = .ok (.getfield 25, 3) := by decide +kernel
theorem d_CellSet_addBox_8 : decode prog_3_method_6_code 8 = .ok (.invokestatic 28, 3) := by decide +kernel
theorem d_CellSet_addBox_11 : decode prog_3_method_6_code 11 = .ok (.lstore_n 2, 1) := by decide +kernel
theorem d_CellSet_addBox_12 : decode prog_3_method_6_code 12 = .ok (.aload_n 1, 1) := by decide +kernel
theorem d_CellSet_addBox_13 : decode prog_3_method_6_code 13 = .ok (.getfield 32, 3) := by decide +kernel
theorem d_CellSet_addBox_16 : decode prog_3_method_6_code 16 = .ok (.bipush 48, 2) := by decide +kernel
theorem d_CellSet_addBox_18 : decode prog_3_method_6_code 18 = .ok (.invokestatic 35, 3) := by decide +kernel
theorem d_CellSet_addBox_21 : decode prog_3_method_6_code 21 = .ok (.istore 4, 2) := by decide +kernel
theorem d_CellSet_addBox_23 : decode prog_3_method_6_code 23 = .ok (.aload_n 1, 1) := by decide +kernel
theorem d_CellSet_addBox_24 : decode prog_3_method_6_code 24 = .ok (.getfield 41, 3) := by decide +kernel
theorem d_CellSet_addBox_27 : decode prog_3_method_6_code 27 = .ok (.iconst 0, 1) := by decide +kernel
theorem d_CellSet_addBox_28 : decode prog_3_method_6_code 28 = .ok (.invokestatic 44, 3) := by decide +kernel
theorem d_CellSet_addBox_31 : decode prog_3_method_6_code 31 = .ok (.istore 5, 2) := by decide +kernel
theorem d_CellSet_addBox_33 : decode prog_3_method_6_code 33 = .ok (.iload 5, 2) := by decide +kernel
theorem d_CellSet_addBox_35 : decode prog_3_method_6_code 35 = .ok (.iload 4, 2) := by decide +kernel
theorem d_CellSet_addBox_37 : decode prog_3_method_6_code 37 = .ok (.if_icmp .ge 20, 3) := by decide +kernel
theorem d_CellSet_addBox_40 : decode prog_3_method_6_code 40 = .ok (.aload_n 0, 1) := by decide +kernel
theorem d_CellSet_addBox_41 : decode prog_3_method_6_code 41 = .ok (.getfield 9, 3) := by decide +kernel
theorem d_CellSet_addBox_44 : decode prog_3_method_6_code 44 = .ok (.iload 5, 2) := by decide +kernel
theorem d_CellSet_addBox_46 : decode prog_3_method_6_code 46 = .ok (.dup2, 1) := by decide +kernel
theorem d_CellSet_addBox_47 : decode prog_3_method_6_code 47 = .ok (.laload, 1) := by decide +kernel
theorem d_CellSet_addBox_48 : decode prog_3_method_6_code 48 = .ok (.lload_n 2, 1) := by decide +kernel
theorem d_CellSet_addBox_49 : decode prog_3_method_6_code 49 = .ok (.lor, 1) := by decide +kernel
theorem d_CellSet_addBox_50 : decode prog_3_method_6_code 50 = .ok (.lastore, 1) := by decide +kernel
theorem d_CellSet_addBox_51 : decode prog_3_method_6_code 51 = .ok (.iinc 5 1, 3) := by decide +kernel
theorem d_CellSet_addBox_54 : decode prog_3_method_6_code 54 = .ok (.goto (-21), 3) := by decide +kernel
theorem d_CellSet_addBox_57 : decode prog_3_method_6_code 57 = .ok (.return_, 1) := by decide +kernel
theorem d_CellSet_removeBox_0 : decode prog_3_method_7_code 0 = .ok (.aload_n 1, 1) := by decide +kernel
theorem d_CellSet_removeBox_1 : decode prog_3_method_7_code 1 = .ok (.getfield 19, 3) := by decide +kernel
theorem d_CellSet_removeBox_4 : decode prog_3_method_7_code 4 = .ok (.aload_n 1, 1) := by decide +kernel
theorem d_CellSet_removeBox_5 : decode prog_3_method_7_code 5 = .ok (.getfield 25, 3) := by decide +kernel
theorem d_CellSet_removeBox_8 : decode prog_3_method_7_code 8 = .ok (.invokestatic 28, 3) := by decide +kernel
theorem d_CellSet_removeBox_11 : decode prog_3_method_7_code 11 = .ok (.ldc2_w 47, 3) := by decide +kernel
theorem d_CellSet_removeBox_14 : decode prog_3_method_7_code 14 = .ok (.lxor, 1) := by decide +kernel
theorem d_CellSet_removeBox_15 : decode prog_3_method_7_code 15 = .ok (.lstore_n 2, 1) := by decide +kernel
theorem d_CellSet_removeBox_16 : decode prog_3_method_7_code 16 = .ok (.aload_n 1, 1) := by decide +kernel
theorem d_CellSet_removeBox_17 : decode prog_3_method_7_code 17 = .ok (.getfield 32, 3) := by decide +kernel
theorem d_CellSet_removeBox_20 : decode prog_3_method_7_code 20 = .ok (.bipush 48, 2) := by decide +kernel
theorem d_CellSet_removeBox_22 : decode prog_3_method_7_code 22 = .ok (.invokestatic 35, 3) := by decide +kernel
theorem d_CellSet_removeBox_25 : decode prog_3_method_7_code 25 = .ok (.istore 4, 2) := by decide +kernel
theorem d_CellSet_removeBox_27 : decode prog_3_method_7_code 27 = .ok (.aload_n 1, 1) := by decide +kernel
theorem d_CellSet_removeBox_28 : decode prog_3_method_7_code 28 = .ok (.getfield 41, 3) := by decide +kernel
theorem d_CellSet_removeBox_31 : decode prog_3_method_7_code 31 = .ok (.iconst 0, 1) := by decide +kernel
theorem d_CellSet_removeBox_32 : decode prog_3_method_7_code 32 = .ok (.invokestatic 44, 3) := by decide +kernel
theorem d_CellSet_removeBox_35 : decode prog_3_method_7_code 35 = .ok (.istore 5, 2) := by decide +kernel
theorem d_CellSet_removeBox_37 : decode prog_3_method_7_code 37 = .ok (.iload 5, 2) := by decide +kernel
theorem d_CellSet_removeBox_39 : decode prog_3_method_7_code 39 = .ok (.iload 4, 2) := by decide +kernel
theorem d_CellSet_removeBox_41 : decode prog_3_method_7_code 41 = .ok (.if_icmp .ge 20, 3) := by decide +kernel
theorem d_CellSet_removeBox_44 : decode prog_3_method_7_code 44 = .ok (.aload_n 0, 1) := by decide +kernel
theorem d_CellSet_removeBox_45 : decode prog_3_method_7_code 45 = .ok (.getfield 9, 3) := by decide +kernel
theorem d_CellSet_removeBox_48 : decode prog_3_method_7_code 48 = .ok (.iload 5, 2) := by decide +kernel
theorem d_CellSet_removeBox_50 : decode prog_3_method_7_code 50 = .ok (.dup2, 1) := by decide +kernel
theorem d_CellSet_removeBox_51 : decode prog_3_method_7_code 51 = .ok (.laload, 1) := by decide +kernel
theorem d_CellSet_removeBox_52 : decode prog_3_method_7_code 52 = .ok (.lload_n 2, 1) := by decide +kernel
theorem d_CellSet_removeBox_53 : decode prog_3_method_7_code 53 = .ok (.land, 1) := by decide +kernel
theorem d_CellSet_removeBox_54 : decode prog_3_method_7_code 54 = .ok (.lastore, 1) := by decide +kernel
theorem d_CellSet_removeBox_55 : decode prog_3_method_7_code 55 = .ok (.iinc 5 1, 3) := by decide +kernel
theorem d_CellSet_removeBox_58 : decode prog_3_method_7_code 58 = .ok (.goto (-21), 3) := by decide +kernel
theorem d_CellSet_removeBox_61 : decode prog_3_method_7_code 61 = .ok (.return_, 1) := by decide +kernel
theorem d_CellSet_meets_0 : decode prog_3_method_8_code 0 = .ok (.aload_n 1, 1) := by decide +kernel
theorem d_CellSet_meets_1 : decode prog_3_method_8_code 1 = .ok (.getfield 19, 3) := by decide +kernel
theorem d_CellSet_meets_4 : decode prog_3_method_8_code 4 = .ok (.aload_n 1, 1) := by decide +kernel
theorem d_CellSet_meets_5 : decode prog_3_method_8_code 5 = .ok (.getfield 25, 3) := by decide +kernel
theorem d_CellSet_meets_8 : decode prog_3_method_8_code 8 = .ok (.invokestatic 28, 3) := by decide +kernel
theorem d_CellSet_meets_11 : decode prog_3_method_8_code 11 = .ok (.lstore_n 2, 1) := by decide +kernel
theorem d_CellSet_meets_12 : decode prog_3_method_8_code 12 = .ok (.aload_n 1, 1) := by decide +kernel
theorem d_CellSet_meets_13 : decode prog_3_method_8_code 13 = .ok (.getfield 32, 3) := by decide +kernel
theorem d_CellSet_meets_16 : decode prog_3_method_8_code 16 = .ok (.bipush 48, 2) := by decide +kernel
theorem d_CellSet_meets_18 : decode prog_3_method_8_code 18 = .ok (.invokestatic 35, 3) := by decide +kernel
theorem d_CellSet_meets_21 : decode prog_3_method_8_code 21 = .ok (.istore 4, 2) := by decide +kernel
theorem d_CellSet_meets_23 : decode prog_3_method_8_code 23 = .ok (.aload_n 1, 1) := by decide +kernel
theorem d_CellSet_meets_24 : decode prog_3_method_8_code 24 = .ok (.getfield 41, 3) := by decide +kernel
theorem d_CellSet_meets_27 : decode prog_3_method_8_code 27 = .ok (.iconst 0, 1) := by decide +kernel
theorem d_CellSet_meets_28 : decode prog_3_method_8_code 28 = .ok (.invokestatic 44, 3) := by decide +kernel
theorem d_CellSet_meets_31 : decode prog_3_method_8_code 31 = .ok (.istore 5, 2) := by decide +kernel
theorem d_CellSet_meets_33 : decode prog_3_method_8_code 33 = .ok (.iload 5, 2) := by decide +kernel
theorem d_CellSet_meets_35 : decode prog_3_method_8_code 35 = .ok (.iload 4, 2) := by decide +kernel
theorem d_CellSet_meets_37 : decode prog_3_method_8_code 37 = .ok (.if_icmp .ge 25, 3) := by decide +kernel
theorem d_CellSet_meets_40 : decode prog_3_method_8_code 40 = .ok (.aload_n 0, 1) := by decide +kernel
theorem d_CellSet_meets_41 : decode prog_3_method_8_code 41 = .ok (.getfield 9, 3) := by decide +kernel
theorem d_CellSet_meets_44 : decode prog_3_method_8_code 44 = .ok (.iload 5, 2) := by decide +kernel
theorem d_CellSet_meets_46 : decode prog_3_method_8_code 46 = .ok (.laload, 1) := by decide +kernel
theorem d_CellSet_meets_47 : decode prog_3_method_8_code 47 = .ok (.lload_n 2, 1) := by decide +kernel
theorem d_CellSet_meets_48 : decode prog_3_method_8_code 48 = .ok (.land, 1) := by decide +kernel
theorem d_CellSet_meets_49 : decode prog_3_method_8_code 49 = .ok (.lconst 0, 1) := by decide +kernel
theorem d_CellSet_meets_50 : decode prog_3_method_8_code 50 = .ok (.lcmp, 1) := by decide +kernel
theorem d_CellSet_meets_51 : decode prog_3_method_8_code 51 = .ok (.ifCond .eq 5, 3) := by decide +kernel
theorem d_CellSet_meets_54 : decode prog_3_method_8_code 54 = .ok (.iconst 1, 1) := by decide +kernel
theorem d_CellSet_meets_55 : decode prog_3_method_8_code 55 = .ok (.ireturn, 1) := by decide +kernel
theorem d_CellSet_meets_56 : decode prog_3_method_8_code 56 = .ok (.iinc 5 1, 3) := by decide +kernel
theorem d_CellSet_meets_59 : decode prog_3_method_8_code 59 = .ok (.goto (-26), 3) := by decide +kernel
theorem d_CellSet_meets_62 : decode prog_3_method_8_code 62 = .ok (.iconst 0, 1) := by decide +kernel
theorem d_CellSet_meets_63 : decode prog_3_method_8_code 63 = .ok (.ireturn, 1) := by decide +kernel
theorem d_CellSet_countAround_0 : decode prog_3_method_9_code 0 = .ok (.iload_n 1, 1) := by decide +kernel
theorem d_CellSet_countAround_1 : decode prog_3_method_9_code 1 = .ok (.iload_n 3, 1) := by decide +kernel
theorem d_CellSet_countAround_2 : decode prog_3_method_9_code 2 = .ok (.isub, 1) := by decide +kernel
theorem d_CellSet_countAround_3 : decode prog_3_method_9_code 3 = .ok (.iload_n 1, 1) := by decide +kernel
theorem d_CellSet_countAround_4 : decode prog_3_method_9_code 4 = .ok (.iload_n 3, 1) := by decide +kernel
theorem d_CellSet_countAround_5 : decode prog_3_method_9_code 5 = .ok (.iadd, 1) := by decide +kernel
theorem d_CellSet_countAround_6 : decode prog_3_method_9_code 6 = .ok (.iconst 1, 1) := by decide +kernel
theorem d_CellSet_countAround_7 : decode prog_3_method_9_code 7 = .ok (.iadd, 1) := by decide +kernel
theorem d_CellSet_countAround_8 : decode prog_3_method_9_code 8 = .ok (.invokestatic 28, 3) := by decide +kernel
theorem d_CellSet_countAround_11 : decode prog_3_method_9_code 11 = .ok (.lstore 4, 2) := by decide +kernel
theorem d_CellSet_countAround_13 : decode prog_3_method_9_code 13 = .ok (.iload_n 2, 1) := by decide +kernel
theorem d_CellSet_countAround_14 : decode prog_3_method_9_code 14 = .ok (.iload_n 3, 1) := by decide +kernel
theorem d_CellSet_countAround_15 : decode prog_3_method_9_code 15 = .ok (.iadd, 1) := by decide +kernel
theorem d_CellSet_countAround_16 : decode prog_3_method_9_code 16 = .ok (.iconst 1, 1) := by decide +kernel
theorem d_CellSet_countAround_17 : decode prog_3_method_9_code 17 = .ok (.iadd, 1) := by decide +kernel
theorem d_CellSet_countAround_18 : decode prog_3_method_9_code 18 = .ok (.bipush 48, 2) := by decide +kernel
theorem d_CellSet_countAround_20 : decode prog_3_method_9_code 20 = .ok (.invokestatic 35, 3) := by decide +kernel
theorem d_CellSet_countAround_23 : decode prog_3_method_9_code 23 = .ok (.istore 6, 2) := by decide +kernel
theorem d_CellSet_countAround_25 : decode prog_3_method_9_code 25 = .ok (.iconst 0, 1) := by decide +kernel
theorem d_CellSet_countAround_26 : decode prog_3_method_9_code 26 = .ok (.istore 7, 2) := by decide +kernel
theorem d_CellSet_countAround_28 : decode prog_3_method_9_code 28 = .ok (.iload_n 2, 1) := by decide +kernel
theorem d_CellSet_countAround_29 : decode prog_3_method_9_code 29 = .ok (.iload_n 3, 1) := by decide +kernel
theorem d_CellSet_countAround_30 : decode prog_3_method_9_code 30 = .ok (.isub, 1) := by decide +kernel
theorem d_CellSet_countAround_31 : decode prog_3_method_9_code 31 = .ok (.iconst 0, 1) := by decide +kernel
theorem d_CellSet_countAround_32 : decode prog_3_method_9_code 32 = .ok (.invokestatic 44, 3) := by decide +kernel
theorem d_CellSet_countAround_35 : decode prog_3_method_9_code 35 = .ok (.istore 8, 2) := by decide +kernel
theorem d_CellSet_countAround_37 : decode prog_3_method_9_code 37 = .ok (.iload 8, 2) := by decide +kernel
theorem d_CellSet_countAround_39 : decode prog_3_method_9_code 39 = .ok (.iload 6, 2) := by decide +kernel
theorem d_CellSet_countAround_41 : decode prog_3_method_9_code 41 = .ok (.if_icmp .ge 27, 3) := by decide +kernel
theorem d_CellSet_countAround_44 : decode prog_3_method_9_code 44 = .ok (.iload 7, 2) := by decide +kernel
theorem d_CellSet_countAround_46 : decode prog_3_method_9_code 46 = .ok (.aload_n 0, 1) := by decide +kernel
theorem d_CellSet_countAround_47 : decode prog_3_method_9_code 47 = .ok (.getfield 9, 3) := by decide +kernel
theorem d_CellSet_countAround_50 : decode prog_3_method_9_code 50 = .ok (.iload 8, 2) := by decide +kernel
theorem d_CellSet_countAround_52 : decode prog_3_method_9_code 52 = .ok (.laload, 1) := by decide +kernel
theorem d_CellSet_countAround_53 : decode prog_3_method_9_code 53 = .ok (.lload 4, 2) := by decide +kernel
theorem d_CellSet_countAround_55 : decode prog_3_method_9_code 55 = .ok (.land, 1) := by decide +kernel
theorem d_CellSet_countAround_56 : decode prog_3_method_9_code 56 = .ok (.invokestatic 49, 3) := by decide +kernel
theorem d_CellSet_countAround_59 : decode prog_3_method_9_code 59 = .ok (.iadd, 1) := by decide +kernel
theorem d_CellSet_countAround_60 : decode prog_3_method_9_code 60 = .ok (.istore 7, 2) := by decide +kernel
theorem d_CellSet_countAround_62 : decode prog_3_method_9_code 62 = .ok (.iinc 8 1, 3) := by decide +kernel
theorem d_CellSet_countAround_65 : decode prog_3_method_9_code 65 = .ok (.goto (-28), 3) := by decide +kernel
theorem d_CellSet_countAround_68 : decode prog_3_method_9_code 68 = .ok (.iload 7, 2) := by decide +kernel
theorem d_CellSet_countAround_70 : decode prog_3_method_9_code 70 = .ok (.ireturn, 1) := by decide +kernel
theorem d_Exposure_init_0 : decode prog_4_method_1_code 0 = .ok (.aload_n 0, 1) := by decide +kernel
theorem d_Exposure_init_1 : decode prog_4_method_1_code 1 = .ok (.invokespecial 3, 3) := by decide +kernel
theorem d_Exposure_init_4 : decode prog_4_method_1_code 4 = .ok (.aload_n 0, 1) := by decide +kernel
theorem d_Exposure_init_5 : decode prog_4_method_1_code 5 = .ok (.bipush 6, 2) := by decide +kernel
theorem d_Exposure_init_7 : decode prog_4_method_1_code 7 = .ok (.newarray .int, 2) := by decide +kernel
theorem d_Exposure_init_9 : decode prog_4_method_1_code 9 = .ok (.putfield 9, 3) := by decide +kernel
theorem d_Exposure_init_12 : decode prog_4_method_1_code 12 = .ok (.aload_n 0, 1) := by decide +kernel
theorem d_Exposure_init_13 : decode prog_4_method_1_code 13 = .ok (.bipush 6, 2) := by decide +kernel
theorem d_Exposure_init_15 : decode prog_4_method_1_code 15 = .ok (.newarray .int, 2) := by decide +kernel
theorem d_Exposure_init_17 : decode prog_4_method_1_code 17 = .ok (.putfield 15, 3) := by decide +kernel
theorem d_Exposure_init_20 : decode prog_4_method_1_code 20 = .ok (.aload_n 0, 1) := by decide +kernel
theorem d_Exposure_init_21 : decode prog_4_method_1_code 21 = .ok (.iconst 1, 1) := by decide +kernel
theorem d_Exposure_init_22 : decode prog_4_method_1_code 22 = .ok (.putfield 18, 3) := by decide +kernel
theorem d_Exposure_init_25 : decode prog_4_method_1_code 25 = .ok (.return_, 1) := by decide +kernel
theorem d_Exposure_addKernel_0 : decode prog_4_method_2_code 0 = .ok (.aload_n 0, 1) := by decide +kernel
theorem d_Exposure_addKernel_1 : decode prog_4_method_2_code 1 = .ok (.getfield 22, 3) := by decide +kernel
theorem d_Exposure_addKernel_4 : decode prog_4_method_2_code 4 = .ok (.bipush 6, 2) := by decide +kernel
theorem d_Exposure_addKernel_6 : decode prog_4_method_2_code 6 = .ok (.if_icmp .lt 6, 3) := by decide +kernel
theorem d_Exposure_addKernel_9 : decode prog_4_method_2_code 9 = .ok (.bipush (-4), 2) := by decide +kernel
theorem d_Exposure_addKernel_11 : decode prog_4_method_2_code 11 = .ok (.ireturn, 1) := by decide +kernel
theorem d_Exposure_addKernel_12 : decode prog_4_method_2_code 12 = .ok (.aload_n 0, 1) := by decide +kernel
theorem d_Exposure_addKernel_13 : decode prog_4_method_2_code 13 = .ok (.getfield 9, 3) := by decide +kernel
theorem d_Exposure_addKernel_16 : decode prog_4_method_2_code 16 = .ok (.aload_n 0, 1) := by decide +kernel
theorem d_Exposure_addKernel_17 : decode prog_4_method_2_code 17 = .ok (.getfield 22, 3) := by decide +kernel
theorem d_Exposure_addKernel_20 : decode prog_4_method_2_code 20 = .ok (.iload_n 1, 1) := by decide +kernel
theorem d_Exposure_addKernel_21 : decode prog_4_method_2_code 21 = .ok (.iastore, 1) := by decide +kernel
theorem d_Exposure_addKernel_22 : decode prog_4_method_2_code 22 = .ok (.aload_n 0, 1) := by decide +kernel
theorem d_Exposure_addKernel_23 : decode prog_4_method_2_code 23 = .ok (.getfield 15, 3) := by decide +kernel
theorem d_Exposure_addKernel_26 : decode prog_4_method_2_code 26 = .ok (.aload_n 0, 1) := by decide +kernel
theorem d_Exposure_addKernel_27 : decode prog_4_method_2_code 27 = .ok (.getfield 22, 3) := by decide +kernel
theorem d_Exposure_addKernel_30 : decode prog_4_method_2_code 30 = .ok (.iload_n 2, 1) := by decide +kernel
theorem d_Exposure_addKernel_31 : decode prog_4_method_2_code 31 = .ok (.iastore, 1) := by decide +kernel
theorem d_Exposure_addKernel_32 : decode prog_4_method_2_code 32 = .ok (.aload_n 0, 1) := by decide +kernel
theorem d_Exposure_addKernel_33 : decode prog_4_method_2_code 33 = .ok (.dup, 1) := by decide +kernel
theorem d_Exposure_addKernel_34 : decode prog_4_method_2_code 34 = .ok (.getfield 22, 3) := by decide +kernel
theorem d_Exposure_addKernel_37 : decode prog_4_method_2_code 37 = .ok (.iconst 1, 1) := by decide +kernel
theorem d_Exposure_addKernel_38 : decode prog_4_method_2_code 38 = .ok (.iadd, 1) := by decide +kernel
theorem d_Exposure_addKernel_39 : decode prog_4_method_2_code 39 = .ok (.putfield 22, 3) := by decide +kernel
theorem d_Exposure_addKernel_42 : decode prog_4_method_2_code 42 = .ok (.aload_n 0, 1) := by decide +kernel
theorem d_Exposure_addKernel_43 : decode prog_4_method_2_code 43 = .ok (.getfield 22, 3) := by decide +kernel
theorem d_Exposure_addKernel_46 : decode prog_4_method_2_code 46 = .ok (.iconst 1, 1) := by decide +kernel
theorem d_Exposure_addKernel_47 : decode prog_4_method_2_code 47 = .ok (.isub, 1) := by decide +kernel
theorem d_Exposure_addKernel_48 : decode prog_4_method_2_code 48 = .ok (.ireturn, 1) := by decide +kernel
theorem d_Exposure_imageAt_0 : decode prog_4_method_3_code 0 = .ok (.iconst 0, 1) := by decide +kernel
theorem d_Exposure_imageAt_1 : decode prog_4_method_3_code 1 = .ok (.istore 4, 2) := by decide +kernel
theorem d_Exposure_imageAt_3 : decode prog_4_method_3_code 3 = .ok (.iconst 0, 1) := by decide +kernel
theorem d_Exposure_imageAt_4 : decode prog_4_method_3_code 4 = .ok (.istore 5, 2) := by decide +kernel
theorem d_Exposure_imageAt_6 : decode prog_4_method_3_code 6 = .ok (.iload 5, 2) := by decide +kernel
theorem d_Exposure_imageAt_8 : decode prog_4_method_3_code 8 = .ok (.aload_n 0, 1) := by decide +kernel
theorem d_Exposure_imageAt_9 : decode prog_4_method_3_code 9 = .ok (.getfield 22, 3) := by decide +kernel
theorem d_Exposure_imageAt_12 : decode prog_4_method_3_code 12 = .ok (.if_icmp .ge 35, 3) := by decide +kernel
theorem d_Exposure_imageAt_15 : decode prog_4_method_3_code 15 = .ok (.iload 4, 2) := by decide +kernel
theorem d_Exposure_imageAt_17 : decode prog_4_method_3_code 17 = .ok (.aload_n 0, 1) := by decide +kernel
theorem d_Exposure_imageAt_18 : decode prog_4_method_3_code 18 = .ok (.getfield 9, 3) := by decide +kernel
theorem d_Exposure_imageAt_21 : decode prog_4_method_3_code 21 = .ok (.iload 5, 2) := by decide +kernel
theorem d_Exposure_imageAt_23 : decode prog_4_method_3_code 23 = .ok (.iaload, 1) := by decide +kernel
theorem d_Exposure_imageAt_24 : decode prog_4_method_3_code 24 = .ok (.aload_n 1, 1) := by decide +kernel
theorem d_Exposure_imageAt_25 : decode prog_4_method_3_code 25 = .ok (.iload_n 2, 1) := by decide +kernel
theorem d_Exposure_imageAt_26 : decode prog_4_method_3_code 26 = .ok (.iload_n 3, 1) := by decide +kernel
theorem d_Exposure_imageAt_27 : decode prog_4_method_3_code 27 = .ok (.aload_n 0, 1) := by decide +kernel
theorem d_Exposure_imageAt_28 : decode prog_4_method_3_code 28 = .ok (.getfield 15, 3) := by decide +kernel
theorem d_Exposure_imageAt_31 : decode prog_4_method_3_code 31 = .ok (.iload 5, 2) := by decide +kernel
theorem d_Exposure_imageAt_33 : decode prog_4_method_3_code 33 = .ok (.iaload, 1) := by decide +kernel
theorem d_Exposure_imageAt_34 : decode prog_4_method_3_code 34 = .ok (.invokevirtual 25, 3) := by decide +kernel
theorem d_Exposure_imageAt_37 : decode prog_4_method_3_code 37 = .ok (.imul, 1) := by decide +kernel
theorem d_Exposure_imageAt_38 : decode prog_4_method_3_code 38 = .ok (.iadd, 1) := by decide +kernel
theorem d_Exposure_imageAt_39 : decode prog_4_method_3_code 39 = .ok (.istore 4, 2) := by decide +kernel
theorem d_Exposure_imageAt_41 : decode prog_4_method_3_code 41 = .ok (.iinc 5 1, 3) := by decide +kernel
theorem d_Exposure_imageAt_44 : decode prog_4_method_3_code 44 = .ok (.goto (-38), 3) := by decide +kernel
theorem d_Exposure_imageAt_47 : decode prog_4_method_3_code 47 = .ok (.iload 4, 2) := by decide +kernel
theorem d_Exposure_imageAt_49 : decode prog_4_method_3_code 49 = .ok (.ireturn, 1) := by decide +kernel
theorem d_Exposure_printsAt_0 : decode prog_4_method_4_code 0 = .ok (.iload_n 2, 1) := by decide +kernel
theorem d_Exposure_printsAt_1 : decode prog_4_method_4_code 1 = .ok (.iload_n 3, 1) := by decide +kernel
theorem d_Exposure_printsAt_2 : decode prog_4_method_4_code 2 = .ok (.invokestatic 31, 3) := by decide +kernel
theorem d_Exposure_printsAt_5 : decode prog_4_method_4_code 5 = .ok (.ifCond .eq 27, 3) := by decide +kernel
theorem d_Exposure_printsAt_8 : decode prog_4_method_4_code 8 = .ok (.aload_n 0, 1) := by decide +kernel
theorem d_Exposure_printsAt_9 : decode prog_4_method_4_code 9 = .ok (.aload_n 1, 1) := by decide +kernel
theorem d_Exposure_printsAt_10 : decode prog_4_method_4_code 10 = .ok (.iload_n 2, 1) := by decide +kernel
theorem d_Exposure_printsAt_11 : decode prog_4_method_4_code 11 = .ok (.iload_n 3, 1) := by decide +kernel
theorem d_Exposure_printsAt_12 : decode prog_4_method_4_code 12 = .ok (.invokevirtual 35, 3) := by decide +kernel
theorem d_Exposure_printsAt_15 : decode prog_4_method_4_code 15 = .ok (.iload 4, 2) := by decide +kernel
theorem d_Exposure_printsAt_17 : decode prog_4_method_4_code 17 = .ok (.imul, 1) := by decide +kernel
theorem d_Exposure_printsAt_18 : decode prog_4_method_4_code 18 = .ok (.bipush 100, 2) := by decide +kernel
theorem d_Exposure_printsAt_20 : decode prog_4_method_4_code 20 = .ok (.aload_n 0, 1) := by decide +kernel
theorem d_Exposure_printsAt_21 : decode prog_4_method_4_code 21 = .ok (.getfield 18, 3) := by decide +kernel
theorem d_Exposure_printsAt_24 : decode prog_4_method_4_code 24 = .ok (.imul, 1) := by decide +kernel
theorem d_Exposure_printsAt_25 : decode prog_4_method_4_code 25 = .ok (.if_icmp .lt 7, 3) := by decide +kernel
theorem d_Exposure_printsAt_28 : decode prog_4_method_4_code 28 = .ok (.iconst 1, 1) := by decide +kernel
theorem d_Exposure_printsAt_29 : decode prog_4_method_4_code 29 = .ok (.goto 4, 3) := by decide +kernel
theorem d_Exposure_printsAt_32 : decode prog_4_method_4_code 32 = .ok (.iconst 0, 1) := by decide +kernel
theorem d_Exposure_printsAt_33 : decode prog_4_method_4_code 33 = .ok (.ireturn, 1) := by decide +kernel
theorem d_Outline_init_0 : decode prog_5_method_1_code 0 = .ok (.aload_n 0, 1) := by decide +kernel
theorem d_Outline_init_1 : decode prog_5_method_1_code 1 = .ok (.invokespecial 3, 3) := by decide +kernel
theorem d_Outline_init_4 : decode prog_5_method_1_code 4 = .ok (.aload_n 0, 1) := by decide +kernel
theorem d_Outline_init_5 : decode prog_5_method_1_code 5 = .ok (.bipush 16, 2) := by decide +kernel
theorem d_Outline_init_7 : decode prog_5_method_1_code 7 = .ok (.newarray .int, 2) := by decide +kernel
theorem d_Outline_init_9 : decode prog_5_method_1_code 9 = .ok (.putfield 9, 3) := by decide +kernel
theorem d_Outline_init_12 : decode prog_5_method_1_code 12 = .ok (.aload_n 0, 1) := by decide +kernel
theorem d_Outline_init_13 : decode prog_5_method_1_code 13 = .ok (.bipush 16, 2) := by decide +kernel
theorem d_Outline_init_15 : decode prog_5_method_1_code 15 = .ok (.newarray .int, 2) := by decide +kernel
theorem d_Outline_init_17 : decode prog_5_method_1_code 17 = .ok (.putfield 15, 3) := by decide +kernel
theorem d_Outline_init_20 : decode prog_5_method_1_code 20 = .ok (.return_, 1) := by decide +kernel
theorem d_Outline_takeCorner_0 : decode prog_5_method_2_code 0 = .ok (.aload_n 0, 1) := by decide +kernel
theorem d_Outline_takeCorner_1 : decode prog_5_method_2_code 1 = .ok (.getfield 18, 3) := by decide +kernel
theorem d_Outline_takeCorner_4 : decode prog_5_method_2_code 4 = .ok (.ifCond .ne 12, 3) := by decide +kernel
theorem d_Outline_takeCorner_7 : decode prog_5_method_2_code 7 = .ok (.aload_n 0, 1) := by decide +kernel
theorem d_Outline_takeCorner_8 : decode prog_5_method_2_code 8 = .ok (.iload_n 1, 1) := by decide +kernel
theorem d_Outline_takeCorner_9 : decode prog_5_method_2_code 9 = .ok (.iload_n 2, 1) := by decide +kernel
theorem d_Outline_takeCorner_10 : decode prog_5_method_2_code 10 = .ok (.invokevirtual 22, 3) := by decide +kernel
theorem d_Outline_takeCorner_13 : decode prog_5_method_2_code 13 = .ok (.ifCond .ne 5, 3) := by decide +kernel
theorem d_Outline_takeCorner_16 : decode prog_5_method_2_code 16 = .ok (.iconst 0, 1) := by decide +kernel
theorem d_Outline_takeCorner_17 : decode prog_5_method_2_code 17 = .ok (.ireturn, 1) := by decide +kernel
theorem d_Outline_takeCorner_18 : decode prog_5_method_2_code 18 = .ok (.aload_n 0, 1) := by decide +kernel
theorem d_Outline_takeCorner_19 : decode prog_5_method_2_code 19 = .ok (.getfield 26, 3) := by decide +kernel
theorem d_Outline_takeCorner_22 : decode prog_5_method_2_code 22 = .ok (.iconst 4, 1) := by decide +kernel
theorem d_Outline_takeCorner_23 : decode prog_5_method_2_code 23 = .ok (.if_icmp .lt 55, 3) := by decide +kernel
theorem d_Outline_takeCorner_26 : decode prog_5_method_2_code 26 = .ok (.iload_n 1, 1) := by decide +kernel
theorem d_Outline_takeCorner_27 : decode prog_5_method_2_code 27 = .ok (.aload_n 0, 1) := by decide +kernel
theorem d_Outline_takeCorner_28 : decode prog_5_method_2_code 28 = .ok (.getfield 9, 3) := by decide +kernel
theorem d_Outline_takeCorner_31 : decode prog_5_method_2_code 31 = .ok (.iconst 0, 1) := by decide +kernel
theorem d_Outline_takeCorner_32 : decode prog_5_method_2_code 32 = .ok (.iaload, 1) := by decide +kernel
theorem d_Outline_takeCorner_33 : decode prog_5_method_2_code 33 = .ok (.if_icmp .ne 45, 3) := by decide +kernel
theorem d_Outline_takeCorner_36 : decode prog_5_method_2_code 36 = .ok (.iload_n 2, 1) := by decide +kernel
theorem d_Outline_takeCorner_37 : decode prog_5_method_2_code 37 = .ok (.aload_n 0, 1) := by decide +kernel
theorem d_Outline_takeCorner_38 : decode prog_5_method_2_code 38 = .ok (.getfield 15, 3) := by decide +kernel
theorem d_Outline_takeCorner_41 : decode prog_5_method_2_code 41 = .ok (.iconst 0, 1) := by decide +kernel
theorem d_Outline_takeCorner_42 : decode prog_5_method_2_code 42 = .ok (.iaload, 1) := by decide +kernel
theorem d_Outline_takeCorner_43 : decode prog_5_method_2_code 43 = .ok (.if_icmp .ne 35, 3) := by decide +kernel
theorem d_Outline_takeCorner_46 : decode prog_5_method_2_code 46 = .ok (.aload_n 0, 1) := by decide +kernel
theorem d_Outline_takeCorner_47 : decode prog_5_method_2_code 47 = .ok (.aload_n 0, 1) := by decide +kernel
theorem d_Outline_takeCorner_48 : decode prog_5_method_2_code 48 = .ok (.aload_n 0, 1) := by decide +kernel
theorem d_Outline_takeCorner_49 : decode prog_5_method_2_code 49 = .ok (.getfield 26, 3) := by decide +kernel
theorem d_Outline_takeCorner_52 : decode prog_5_method_2_code 52 = .ok (.iconst 1, 1) := by decide +kernel
theorem d_Outline_takeCorner_53 : decode prog_5_method_2_code 53 = .ok (.isub, 1) := by decide +kernel
theorem d_Outline_takeCorner_54 : decode prog_5_method_2_code 54 = .ok (.invokevirtual 30, 3) := by decide +kernel
theorem d_Outline_takeCorner_57 : decode prog_5_method_2_code 57 = .ok (.aload_n 0, 1) := by decide +kernel
theorem d_Outline_takeCorner_58 : decode prog_5_method_2_code 58 = .ok (.iconst 0, 1) := by decide +kernel
theorem d_Outline_takeCorner_59 : decode prog_5_method_2_code 59 = .ok (.invokevirtual 30, 3) := by decide +kernel
theorem d_Outline_takeCorner_62 : decode prog_5_method_2_code 62 = .ok (.if_icmp .eq 7, 3) := by decide +kernel
theorem d_Outline_takeCorner_65 : decode prog_5_method_2_code 65 = .ok (.iconst 1, 1) := by decide +kernel
theorem d_Outline_takeCorner_66 : decode prog_5_method_2_code 66 = .ok (.goto 4, 3) := by decide +kernel
theorem d_Outline_takeCorner_69 : decode prog_5_method_2_code 69 = .ok (.iconst 0, 1) := by decide +kernel
theorem d_Outline_takeCorner_70 : decode prog_5_method_2_code 70 = .ok (.putfield 18, 3) := by decide +kernel
theorem d_Outline_takeCorner_73 : decode prog_5_method_2_code 73 = .ok (.aload_n 0, 1) := by decide +kernel
theorem d_Outline_takeCorner_74 : decode prog_5_method_2_code 74 = .ok (.getfield 18, 3) := by decide +kernel
theorem d_Outline_takeCorner_77 : decode prog_5_method_2_code 77 = .ok (.ireturn, 1) := by decide +kernel
theorem d_Outline_takeCorner_78 : decode prog_5_method_2_code 78 = .ok (.aload_n 0, 1) := by decide +kernel
theorem d_Outline_takeCorner_79 : decode prog_5_method_2_code 79 = .ok (.getfield 26, 3) := by decide +kernel
theorem d_Outline_takeCorner_82 : decode prog_5_method_2_code 82 = .ok (.bipush 16, 2) := by decide +kernel
theorem d_Outline_takeCorner_84 : decode prog_5_method_2_code 84 = .ok (.if_icmp .lt 5, 3) := by decide +kernel
theorem d_Outline_takeCorner_87 : decode prog_5_method_2_code 87 = .ok (.iconst 0, 1) := by decide +kernel
theorem d_Outline_takeCorner_88 : decode prog_5_method_2_code 88 = .ok (.ireturn, 1) := by decide +kernel
theorem d_Outline_takeCorner_89 : decode prog_5_method_2_code 89 = .ok (.aload_n 0, 1) := by decide +kernel
theorem d_Outline_takeCorner_90 : decode prog_5_method_2_code 90 = .ok (.getfield 9, 3) := by decide +kernel
theorem d_Outline_takeCorner_93 : decode prog_5_method_2_code 93 = .ok (.aload_n 0, 1) := by decide +kernel
theorem d_Outline_takeCorner_94 : decode prog_5_method_2_code 94 = .ok (.getfield 26, 3) := by decide +kernel
theorem d_Outline_takeCorner_97 : decode prog_5_method_2_code 97 = .ok (.iload_n 1, 1) := by decide +kernel
theorem d_Outline_takeCorner_98 : decode prog_5_method_2_code 98 = .ok (.iastore, 1) := by decide +kernel
theorem d_Outline_takeCorner_99 : decode prog_5_method_2_code 99 = .ok (.aload_n 0, 1) := by decide +kernel
theorem d_Outline_takeCorner_100 : decode prog_5_method_2_code 100 = .ok (.getfield 15, 3) := by decide +kernel
theorem d_Outline_takeCorner_103 : decode prog_5_method_2_code 103 = .ok (.aload_n 0, 1) := by decide +kernel
theorem d_Outline_takeCorner_104 : decode prog_5_method_2_code 104 = .ok (.getfield 26, 3) := by decide +kernel
theorem d_Outline_takeCorner_107 : decode prog_5_method_2_code 107 = .ok (.iload_n 2, 1) := by decide +kernel
theorem d_Outline_takeCorner_108 : decode prog_5_method_2_code 108 = .ok (.iastore, 1) := by decide +kernel
theorem d_Outline_takeCorner_109 : decode prog_5_method_2_code 109 = .ok (.aload_n 0, 1) := by decide +kernel
theorem d_Outline_takeCorner_110 : decode prog_5_method_2_code 110 = .ok (.dup, 1) := by decide +kernel
theorem d_Outline_takeCorner_111 : decode prog_5_method_2_code 111 = .ok (.getfield 26, 3) := by decide +kernel
theorem d_Outline_takeCorner_114 : decode prog_5_method_2_code 114 = .ok (.iconst 1, 1) := by decide +kernel
theorem d_Outline_takeCorner_115 : decode prog_5_method_2_code 115 = .ok (.iadd, 1) := by decide +kernel
theorem d_Outline_takeCorner_116 : decode prog_5_method_2_code 116 = .ok (.putfield 26, 3) := by decide +kernel
theorem d_Outline_takeCorner_119 : decode prog_5_method_2_code 119 = .ok (.iconst 1, 1) := by decide +kernel
theorem d_Outline_takeCorner_120 : decode prog_5_method_2_code 120 = .ok (.ireturn, 1) := by decide +kernel
theorem d_Outline_maySideGoTo_0 : decode prog_5_method_3_code 0 = .ok (.aload_n 0, 1) := by decide +kernel
theorem d_Outline_maySideGoTo_1 : decode prog_5_method_3_code 1 = .ok (.getfield 26, 3) := by decide +kernel
theorem d_Outline_maySideGoTo_4 : decode prog_5_method_3_code 4 = .ok (.ifCond .ne 5, 3) := by decide +kernel
theorem d_Outline_maySideGoTo_7 : decode prog_5_method_3_code 7 = .ok (.iconst 1, 1) := by decide +kernel
theorem d_Outline_maySideGoTo_8 : decode prog_5_method_3_code 8 = .ok (.ireturn, 1) := by decide +kernel
theorem d_Outline_maySideGoTo_9 : decode prog_5_method_3_code 9 = .ok (.iload_n 2, 1) := by decide +kernel
theorem d_Outline_maySideGoTo_10 : decode prog_5_method_3_code 10 = .ok (.aload_n 0, 1) := by decide +kernel
theorem d_Outline_maySideGoTo_11 : decode prog_5_method_3_code 11 = .ok (.getfield 15, 3) := by decide +kernel
theorem d_Outline_maySideGoTo_14 : decode prog_5_method_3_code 14 = .ok (.aload_n 0, 1) := by decide +kernel
theorem d_Outline_maySideGoTo_15 : decode prog_5_method_3_code 15 = .ok (.getfield 26, 3) := by decide +kernel
theorem d_Outline_maySideGoTo_18 : decode prog_5_method_3_code 18 = .ok (.iconst 1, 1) := by decide +kernel
theorem d_Outline_maySideGoTo_19 : decode prog_5_method_3_code 19 = .ok (.isub, 1) := by decide +kernel
theorem d_Outline_maySideGoTo_20 : decode prog_5_method_3_code 20 = .ok (.iaload, 1) := by decide +kernel
theorem d_Outline_maySideGoTo_21 : decode prog_5_method_3_code 21 = .ok (.if_icmp .ne 7, 3) := by decide +kernel
theorem d_Outline_maySideGoTo_24 : decode prog_5_method_3_code 24 = .ok (.iconst 1, 1) := by decide +kernel
theorem d_Outline_maySideGoTo_25 : decode prog_5_method_3_code 25 = .ok (.goto 4, 3) := by decide +kernel
theorem d_Outline_maySideGoTo_28 : decode prog_5_method_3_code 28 = .ok (.iconst 0, 1) := by decide +kernel
theorem d_Outline_maySideGoTo_29 : decode prog_5_method_3_code 29 = .ok (.istore_n 3, 1) := by decide +kernel
theorem d_Outline_maySideGoTo_30 : decode prog_5_method_3_code 30 = .ok (.iload_n 1, 1) := by decide +kernel
theorem d_Outline_maySideGoTo_31 : decode prog_5_method_3_code 31 = .ok (.aload_n 0, 1) := by decide +kernel
theorem d_Outline_maySideGoTo_32 : decode prog_5_method_3_code 32 = .ok (.getfield 9, 3) := by decide +kernel
theorem d_Outline_maySideGoTo_35 : decode prog_5_method_3_code 35 = .ok (.aload_n 0, 1) := by decide +kernel
theorem d_Outline_maySideGoTo_36 : decode prog_5_method_3_code 36 = .ok (.getfield 26, 3) := by decide +kernel
theorem d_Outline_maySideGoTo_39 : decode prog_5_method_3_code 39 = .ok (.iconst 1, 1) := by decide +kernel
theorem d_Outline_maySideGoTo_40 : decode prog_5_method_3_code 40 = .ok (.isub, 1) := by decide +kernel
theorem d_Outline_maySideGoTo_41 : decode prog_5_method_3_code 41 = .ok (.iaload, 1) := by decide +kernel
theorem d_Outline_maySideGoTo_42 : decode prog_5_method_3_code 42 = .ok (.if_icmp .ne 7, 3) := by decide +kernel
theorem d_Outline_maySideGoTo_45 : decode prog_5_method_3_code 45 = .ok (.iconst 1, 1) := by decide +kernel
theorem d_Outline_maySideGoTo_46 : decode prog_5_method_3_code 46 = .ok (.goto 4, 3) := by decide +kernel
theorem d_Outline_maySideGoTo_49 : decode prog_5_method_3_code 49 = .ok (.iconst 0, 1) := by decide +kernel
theorem d_Outline_maySideGoTo_50 : decode prog_5_method_3_code 50 = .ok (.istore 4, 2) := by decide +kernel
theorem d_Outline_maySideGoTo_52 : decode prog_5_method_3_code 52 = .ok (.iload_n 3, 1) := by decide +kernel
theorem d_Outline_maySideGoTo_53 : decode prog_5_method_3_code 53 = .ok (.iload 4, 2) := by decide +kernel
theorem d_Outline_maySideGoTo_55 : decode prog_5_method_3_code 55 = .ok (.if_icmp .ne 5, 3) := by decide +kernel
theorem d_Outline_maySideGoTo_58 : decode prog_5_method_3_code 58 = .ok (.iconst 0, 1) := by decide +kernel
theorem d_Outline_maySideGoTo_59 : decode prog_5_method_3_code 59 = .ok (.ireturn, 1) := by decide +kernel
theorem d_Outline_maySideGoTo_60 : decode prog_5_method_3_code 60 = .ok (.aload_n 0, 1) := by decide +kernel
theorem d_Outline_maySideGoTo_61 : decode prog_5_method_3_code 61 = .ok (.getfield 26, 3) := by decide +kernel
theorem d_Outline_maySideGoTo_64 : decode prog_5_method_3_code 64 = .ok (.iconst 1, 1) := by decide +kernel
theorem d_Outline_maySideGoTo_65 : decode prog_5_method_3_code 65 = .ok (.if_icmp .eq 17, 3) := by decide +kernel
theorem d_Outline_maySideGoTo_68 : decode prog_5_method_3_code 68 = .ok (.iload_n 3, 1) := by decide +kernel
theorem d_Outline_maySideGoTo_69 : decode prog_5_method_3_code 69 = .ok (.aload_n 0, 1) := by decide +kernel
theorem d_Outline_maySideGoTo_70 : decode prog_5_method_3_code 70 = .ok (.aload_n 0, 1) := by decide +kernel
theorem d_Outline_maySideGoTo_71 : decode prog_5_method_3_code 71 = .ok (.getfield 26, 3) := by decide +kernel
theorem d_Outline_maySideGoTo_74 : decode prog_5_method_3_code 74 = .ok (.iconst 2, 1) := by decide +kernel
theorem d_Outline_maySideGoTo_75 : decode prog_5_method_3_code 75 = .ok (.isub, 1) := by decide +kernel
theorem d_Outline_maySideGoTo_76 : decode prog_5_method_3_code 76 = .ok (.invokevirtual 30, 3) := by decide +kernel
theorem d_Outline_maySideGoTo_79 : decode prog_5_method_3_code 79 = .ok (.if_icmp .eq 7, 3) := by decide +kernel
theorem d_Outline_maySideGoTo_82 : decode prog_5_method_3_code 82 = .ok (.iconst 1, 1) := by decide +kernel
theorem d_Outline_maySideGoTo_83 : decode prog_5_method_3_code 83 = .ok (.goto 4, 3) := by decide +kernel
theorem d_Outline_maySideGoTo_86 : decode prog_5_method_3_code 86 = .ok (.iconst 0, 1) := by decide +kernel
theorem d_Outline_maySideGoTo_87 : decode prog_5_method_3_code 87 = .ok (.ireturn, 1) := by decide +kernel
theorem d_Outline_nextCorner_0 : decode prog_5_method_4_code 0 = .ok (.iload_n 1, 1) := by decide +kernel
theorem d_Outline_nextCorner_1 : decode prog_5_method_4_code 1 = .ok (.iconst 1, 1) := by decide +kernel
theorem d_Outline_nextCorner_2 : decode prog_5_method_4_code 2 = .ok (.iadd, 1) := by decide +kernel
theorem d_Outline_nextCorner_3 : decode prog_5_method_4_code 3 = .ok (.aload_n 0, 1) := by decide +kernel
theorem d_Outline_nextCorner_4 : decode prog_5_method_4_code 4 = .ok (.getfield 26, 3) := by decide +kernel
theorem d_Outline_nextCorner_7 : decode prog_5_method_4_code 7 = .ok (.if_icmp .ge 9, 3) := by decide +kernel
theorem d_Outline_nextCorner_10 : decode prog_5_method_4_code 10 = .ok (.iload_n 1, 1) := by decide +kernel
theorem d_Outline_nextCorner_11 : decode prog_5_method_4_code 11 = .ok (.iconst 1, 1) := by decide +kernel
theorem d_Outline_nextCorner_12 : decode prog_5_method_4_code 12 = .ok (.iadd, 1) := by decide +kernel
theorem d_Outline_nextCorner_13 : decode prog_5_method_4_code 13 = .ok (.goto 4, 3) := by decide +kernel
theorem d_Outline_nextCorner_16 : decode prog_5_method_4_code 16 = .ok (.iconst 0, 1) := by decide +kernel
theorem d_Outline_nextCorner_17 : decode prog_5_method_4_code 17 = .ok (.ireturn, 1) := by decide +kernel
theorem d_Outline_isAlongX_0 : decode prog_5_method_5_code 0 = .ok (.aload_n 0, 1) := by decide +kernel
theorem d_Outline_isAlongX_1 : decode prog_5_method_5_code 1 = .ok (.getfield 15, 3) := by decide +kernel
theorem d_Outline_isAlongX_4 : decode prog_5_method_5_code 4 = .ok (.iload_n 1, 1) := by decide +kernel
theorem d_Outline_isAlongX_5 : decode prog_5_method_5_code 5 = .ok (.iaload, 1) := by decide +kernel
theorem d_Outline_isAlongX_6 : decode prog_5_method_5_code 6 = .ok (.aload_n 0, 1) := by decide +kernel
theorem d_Outline_isAlongX_7 : decode prog_5_method_5_code 7 = .ok (.getfield 15, 3) := by decide +kernel
theorem d_Outline_isAlongX_10 : decode prog_5_method_5_code 10 = .ok (.aload_n 0, 1) := by decide +kernel
theorem d_Outline_isAlongX_11 : decode prog_5_method_5_code 11 = .ok (.iload_n 1, 1) := by decide +kernel
theorem d_Outline_isAlongX_12 : decode prog_5_method_5_code 12 = .ok (.invokevirtual 34, 3) := by decide +kernel
theorem d_Outline_isAlongX_15 : decode prog_5_method_5_code 15 = .ok (.iaload, 1) := by decide +kernel
theorem d_Outline_isAlongX_16 : decode prog_5_method_5_code 16 = .ok (.if_icmp .ne 7, 3) := by decide +kernel
theorem d_Outline_isAlongX_19 : decode prog_5_method_5_code 19 = .ok (.iconst 1, 1) := by decide +kernel
theorem d_Outline_isAlongX_20 : decode prog_5_method_5_code 20 = .ok (.goto 4, 3) := by decide +kernel
theorem d_Outline_isAlongX_23 : decode prog_5_method_5_code 23 = .ok (.iconst 0, 1) := by decide +kernel
theorem d_Outline_isAlongX_24 : decode prog_5_method_5_code 24 = .ok (.ireturn, 1) := by decide +kernel
theorem d_Outline_sideStart_0 : decode prog_5_method_6_code 0 = .ok (.aload_n 0, 1) := by decide +kernel
theorem d_Outline_sideStart_1 : decode prog_5_method_6_code 1 = .ok (.iload_n 1, 1) := by decide +kernel
theorem d_Outline_sideStart_2 : decode prog_5_method_6_code 2 = .ok (.invokevirtual 30, 3) := by decide +kernel
theorem d_Outline_sideStart_5 : decode prog_5_method_6_code 5 = .ok (.ifCond .eq 12, 3) := by decide +kernel
theorem d_Outline_sideStart_8 : decode prog_5_method_6_code 8 = .ok (.aload_n 0, 1) := by decide +kernel
theorem d_Outline_sideStart_9 : decode prog_5_method_6_code 9 = .ok (.getfield 9, 3) := by decide +kernel
theorem d_Outline_sideStart_12 : decode prog_5_method_6_code 12 = .ok (.iload_n 1, 1) := by decide +kernel
theorem d_Outline_sideStart_13 : decode prog_5_method_6_code 13 = .ok (.iaload, 1) := by decide +kernel
theorem d_Outline_sideStart_14 : decode prog_5_method_6_code 14 = .ok (.goto 9, 3) := by decide +kernel
theorem d_Outline_sideStart_17 : decode prog_5_method_6_code 17 = .ok (.aload_n 0, 1) := by decide +kernel
theorem d_Outline_sideStart_18 : decode prog_5_method_6_code 18 = .ok (.getfield 15, 3) := by decide +kernel
theorem d_Outline_sideStart_21 : decode prog_5_method_6_code 21 = .ok (.iload_n 1, 1) := by decide +kernel
theorem d_Outline_sideStart_22 : decode prog_5_method_6_code 22 = .ok (.iaload, 1) := by decide +kernel
theorem d_Outline_sideStart_23 : decode prog_5_method_6_code 23 = .ok (.ireturn, 1) := by decide +kernel
theorem d_Outline_sideEnd_0 : decode prog_5_method_7_code 0 = .ok (.aload_n 0, 1) := by decide +kernel
theorem d_Outline_sideEnd_1 : decode prog_5_method_7_code 1 = .ok (.iload_n 1, 1) := by decide +kernel
theorem d_Outline_sideEnd_2 : decode prog_5_method_7_code 2 = .ok (.invokevirtual 34, 3) := by decide +kernel
theorem d_Outline_sideEnd_5 : decode prog_5_method_7_code 5 = .ok (.istore_n 2, 1) := by decide +kernel
theorem d_Outline_sideEnd_6 : decode prog_5_method_7_code 6 = .ok (.aload_n 0, 1) := by decide +kernel
theorem d_Outline_sideEnd_7 : decode prog_5_method_7_code 7 = .ok (.iload_n 1, 1) := by decide +kernel
theorem d_Outline_sideEnd_8 : decode prog_5_method_7_code 8 = .ok (.invokevirtual 30, 3) := by decide +kernel
theorem d_Outline_sideEnd_11 : decode prog_5_method_7_code 11 = .ok (.ifCond .eq 12, 3) := by decide +kernel
theorem d_Outline_sideEnd_14 : decode prog_5_method_7_code 14 = .ok (.aload_n 0, 1) := by decide +kernel
theorem d_Outline_sideEnd_15 : decode prog_5_method_7_code 15 = .ok (.getfield 9, 3) := by decide +kernel
theorem d_Outline_sideEnd_18 : decode prog_5_method_7_code 18 = .ok (.iload_n 2, 1) := by decide +kernel
theorem d_Outline_sideEnd_19 : decode prog_5_method_7_code 19 = .ok (.iaload, 1) := by decide +kernel
theorem d_Outline_sideEnd_20 : decode prog_5_method_7_code 20 = .ok (.goto 9, 3) := by decide +kernel
theorem d_Outline_sideEnd_23 : decode prog_5_method_7_code 23 = .ok (.aload_n 0, 1) := by decide +kernel
theorem d_Outline_sideEnd_24 : decode prog_5_method_7_code 24 = .ok (.getfield 15, 3) := by decide +kernel
theorem d_Outline_sideEnd_27 : decode prog_5_method_7_code 27 = .ok (.iload_n 2, 1) := by decide +kernel
theorem d_Outline_sideEnd_28 : decode prog_5_method_7_code 28 = .ok (.iaload, 1) := by decide +kernel
theorem d_Outline_sideEnd_29 : decode prog_5_method_7_code 29 = .ok (.ireturn, 1) := by decide +kernel
theorem d_Outline_partsOf_0 : decode prog_5_method_8_code 0 = .ok (.iload_n 2, 1) := by decide +kernel
theorem d_Outline_partsOf_1 : decode prog_5_method_8_code 1 = .ok (.iconst 1, 1) := by decide +kernel
theorem d_Outline_partsOf_2 : decode prog_5_method_8_code 2 = .ok (.if_icmp .ge 5, 3) := by decide +kernel
theorem d_Outline_partsOf_5 : decode prog_5_method_8_code 5 = .ok (.iconst 0, 1) := by decide +kernel
theorem d_Outline_partsOf_6 : decode prog_5_method_8_code 6 = .ok (.ireturn, 1) := by decide +kernel
theorem d_Outline_partsOf_7 : decode prog_5_method_8_code 7 = .ok (.aload_n 0, 1) := by decide +kernel
theorem d_Outline_partsOf_8 : decode prog_5_method_8_code 8 = .ok (.iload_n 1, 1) := by decide +kernel
theorem d_Outline_partsOf_9 : decode prog_5_method_8_code 9 = .ok (.invokevirtual 38, 3) := by decide +kernel
theorem d_Outline_partsOf_12 : decode prog_5_method_8_code 12 = .ok (.aload_n 0, 1) := by decide +kernel
theorem d_Outline_partsOf_13 : decode prog_5_method_8_code 13 = .ok (.iload_n 1, 1) := by decide +kernel
theorem d_Outline_partsOf_14 : decode prog_5_method_8_code 14 = .ok (.invokevirtual 41, 3) := by decide +kernel
theorem d_Outline_partsOf_17 : decode prog_5_method_8_code 17 = .ok (.isub, 1) := by decide +kernel
theorem d_Outline_partsOf_18 : decode prog_5_method_8_code 18 = .ok (.invokestatic 44, 3) := by decide +kernel
theorem d_Outline_partsOf_21 : decode prog_5_method_8_code 21 = .ok (.istore_n 3, 1) := by decide +kernel
theorem d_Outline_partsOf_22 : decode prog_5_method_8_code 22 = .ok (.iload_n 3, 1) := by decide +kernel
theorem d_Outline_partsOf_23 : decode prog_5_method_8_code 23 = .ok (.iload_n 2, 1) := by decide +kernel
theorem d_Outline_partsOf_24 : decode prog_5_method_8_code 24 = .ok (.iadd, 1) := by decide +kernel
theorem d_Outline_partsOf_25 : decode prog_5_method_8_code 25 = .ok (.iconst 1, 1) := by decide +kernel
theorem d_Outline_partsOf_26 : decode prog_5_method_8_code 26 = .ok (.isub, 1) := by decide +kernel
theorem d_Outline_partsOf_27 : decode prog_5_method_8_code 27 = .ok (.iload_n 2, 1) := by decide +kernel
theorem d_Outline_partsOf_28 : decode prog_5_method_8_code 28 = .ok (.idiv, 1) := by decide +kernel
theorem d_Outline_partsOf_29 : decode prog_5_method_8_code 29 = .ok (.ireturn, 1) := by decide +kernel
theorem d_Outline_holds_0 : decode prog_5_method_9_code 0 = .ok (.iconst 0, 1) := by decide +kernel
theorem d_Outline_holds_1 : decode prog_5_method_9_code 1 = .ok (.istore_n 3, 1) := by decide +kernel
theorem d_Outline_holds_2 : decode prog_5_method_9_code 2 = .ok (.iconst 0, 1) := by decide +kernel
theorem d_Outline_holds_3 : decode prog_5_method_9_code 3 = .ok (.istore 4, 2) := by decide +kernel
theorem d_Outline_holds_5 : decode prog_5_method_9_code 5 = .ok (.iload 4, 2) := by decide +kernel
theorem d_Outline_holds_7 : decode prog_5_method_9_code 7 = .ok (.aload_n 0, 1) := by decide +kernel
theorem d_Outline_holds_8 : decode prog_5_method_9_code 8 = .ok (.getfield 26, 3) := by decide +kernel
theorem d_Outline_holds_11 : decode prog_5_method_9_code 11 = .ok (.if_icmp .ge 74, 3) := by decide +kernel
theorem d_Outline_holds_14 : decode prog_5_method_9_code 14 = .ok (.aload_n 0, 1) := by decide +kernel
theorem d_Outline_holds_15 : decode prog_5_method_9_code 15 = .ok (.getfield 15, 3) := by decide +kernel
theorem d_Outline_holds_18 : decode prog_5_method_9_code 18 = .ok (.iload 4, 2) := by decide +kernel
theorem d_Outline_holds_20 : decode prog_5_method_9_code 20 = .ok (.iaload, 1) := by decide +kernel
theorem d_Outline_holds_21 : decode prog_5_method_9_code 21 = .ok (.istore 5, 2) := by decide +kernel
theorem d_Outline_holds_23 : decode prog_5_method_9_code 23 = .ok (.aload_n 0, 1) := by decide +kernel
theorem d_Outline_holds_24 : decode prog_5_method_9_code 24 = .ok (.getfield 15, 3) := by decide +kernel
theorem d_Outline_holds_27 : decode prog_5_method_9_code 27 = .ok (.aload_n 0, 1) := by decide +kernel
theorem d_Outline_holds_28 : decode prog_5_method_9_code 28 = .ok (.iload 4, 2) := by decide +kernel
theorem d_Outline_holds_30 : decode prog_5_method_9_code 30 = .ok (.invokevirtual 34, 3) := by decide +kernel
theorem d_Outline_holds_33 : decode prog_5_method_9_code 33 = .ok (.iaload, 1) := by decide +kernel
theorem d_Outline_holds_34 : decode prog_5_method_9_code 34 = .ok (.istore 6, 2) := by decide +kernel
theorem d_Outline_holds_36 : decode prog_5_method_9_code 36 = .ok (.aload_n 0, 1) := by decide +kernel
theorem d_Outline_holds_37 : decode prog_5_method_9_code 37 = .ok (.getfield 9, 3) := by decide +kernel
theorem d_Outline_holds_40 : decode prog_5_method_9_code 40 = .ok (.iload 4, 2) := by decide +kernel
theorem d_Outline_holds_42 : decode prog_5_method_9_code 42 = .ok (.iaload, 1) := by decide +kernel
theorem d_Outline_holds_43 : decode prog_5_method_9_code 43 = .ok (.iload_n 1, 1) := by decide +kernel
theorem d_Outline_holds_44 : decode prog_5_method_9_code 44 = .ok (.if_icmp .gt 35, 3) := by decide +kernel
theorem d_Outline_holds_47 : decode prog_5_method_9_code 47 = .ok (.iload 5, 2) := by decide +kernel
theorem d_Outline_holds_49 : decode prog_5_method_9_code 49 = .ok (.iload 6, 2) := by decide +kernel
theorem d_Outline_holds_51 : decode prog_5_method_9_code 51 = .ok (.invokestatic 49, 3) := by decide +kernel
theorem d_Outline_holds_54 : decode prog_5_method_9_code 54 = .ok (.iload_n 2, 1) := by decide +kernel
theorem d_Outline_holds_55 : decode prog_5_method_9_code 55 = .ok (.if_icmp .gt 24, 3) := by decide +kernel
theorem d_Outline_holds_58 : decode prog_5_method_9_code 58 = .ok (.iload_n 2, 1) := by decide +kernel
theorem d_Outline_holds_59 : decode prog_5_method_9_code 59 = .ok (.iload 5, 2) := by decide +kernel
theorem d_Outline_holds_61 : decode prog_5_method_9_code 61 = .ok (.iload 6, 2) := by decide +kernel
theorem d_Outline_holds_63 : decode prog_5_method_9_code 63 = .ok (.invokestatic 53, 3) := by decide +kernel
theorem d_Outline_holds_66 : decode prog_5_method_9_code 66 = .ok (.if_icmp .ge 13, 3) := by decide +kernel
theorem d_Outline_holds_69 : decode prog_5_method_9_code 69 = .ok (.iload_n 3, 1) := by decide +kernel
theorem d_Outline_holds_70 : decode prog_5_method_9_code 70 = .ok (.ifCond .ne 7, 3) := by decide +kernel
theorem d_Outline_holds_73 : decode prog_5_method_9_code 73 = .ok (.iconst 1, 1) := by decide +kernel
theorem d_Outline_holds_74 : decode prog_5_method_9_code 74 = .ok (.goto 4, 3) := by decide +kernel
theorem d_Outline_holds_77 : decode prog_5_method_9_code 77 = .ok (.iconst 0, 1) := by decide +kernel
theorem d_Outline_holds_78 : decode prog_5_method_9_code 78 = .ok (.istore_n 3, 1) := by decide +kernel
theorem d_Outline_holds_79 : decode prog_5_method_9_code 79 = .ok (.iinc 4 1, 3) := by decide +kernel
theorem d_Outline_holds_82 : decode prog_5_method_9_code 82 = .ok (.goto (-77), 3) := by decide +kernel
theorem d_Outline_holds_85 : decode prog_5_method_9_code 85 = .ok (.aload_n 0, 1) := by decide +kernel
theorem d_Outline_holds_86 : decode prog_5_method_9_code 86 = .ok (.getfield 18, 3) := by decide +kernel
theorem d_Outline_holds_89 : decode prog_5_method_9_code 89 = .ok (.ifCond .eq 11, 3) := by decide +kernel
theorem d_Outline_holds_92 : decode prog_5_method_9_code 92 = .ok (.iload_n 3, 1) := by decide +kernel
theorem d_Outline_holds_93 : decode prog_5_method_9_code 93 = .ok (.ifCond .eq 7, 3) := by decide +kernel
theorem d_Outline_holds_96 : decode prog_5_method_9_code 96 = .ok (.iconst 1, 1) := by decide +kernel
theorem d_Outline_holds_97 : decode prog_5_method_9_code 97 = .ok (.goto 4, 3) := by decide +kernel
theorem d_Outline_holds_100 : decode prog_5_method_9_code 100 = .ok (.iconst 0, 1) := by decide +kernel
theorem d_Outline_holds_101 : decode prog_5_method_9_code 101 = .ok (.ireturn, 1) := by decide +kernel
theorem d_Piece_init_0 : decode prog_6_method_1_code 0 = .ok (.aload_n 0, 1) := by decide +kernel
theorem d_Piece_init_1 : decode prog_6_method_1_code 1 = .ok (.invokespecial 3, 3) := by decide +kernel
theorem d_Piece_init_4 : decode prog_6_method_1_code 4 = .ok (.return_, 1) := by decide +kernel
theorem d_Piece_lieOn_0 : decode prog_6_method_2_code 0 = .ok (.aload_n 1, 1) := by decide +kernel
theorem d_Piece_lieOn_1 : decode prog_6_method_2_code 1 = .ok (.iload_n 2, 1) := by decide +kernel
theorem d_Piece_lieOn_2 : decode prog_6_method_2_code 2 = .ok (.invokevirtual 9, 3) := by decide +kernel
theorem d_Piece_lieOn_5 : decode prog_6_method_2_code 5 = .ok (.istore 5, 2) := by decide +kernel
theorem d_Piece_lieOn_7 : decode prog_6_method_2_code 7 = .ok (.aload_n 1, 1) := by decide +kernel
theorem d_Piece_lieOn_8 : decode prog_6_method_2_code 8 = .ok (.iload_n 2, 1) := by decide +kernel
theorem d_Piece_lieOn_9 : decode prog_6_method_2_code 9 = .ok (.invokevirtual 15, 3) := by decide +kernel
theorem d_Piece_lieOn_12 : decode prog_6_method_2_code 12 = .ok (.istore 6, 2) := by decide +kernel
theorem d_Piece_lieOn_14 : decode prog_6_method_2_code 14 = .ok (.aload_n 0, 1) := by decide +kernel
theorem d_Piece_lieOn_15 : decode prog_6_method_2_code 15 = .ok (.aload_n 1, 1) := by decide +kernel
theorem d_Piece_lieOn_16 : decode prog_6_method_2_code 16 = .ok (.iload_n 2, 1) := by decide +kernel
theorem d_Piece_lieOn_17 : decode prog_6_method_2_code 17 = .ok (.invokevirtual 18, 3) := by decide +kernel
theorem d_Piece_lieOn_20 : decode prog_6_method_2_code 20 = .ok (.putfield 22, 3) := by decide +kernel
theorem d_Piece_lieOn_23 : decode prog_6_method_2_code 23 = .ok (.aload_n 0, 1) := by decide +kernel
theorem d_Piece_lieOn_24 : decode prog_6_method_2_code 24 = .ok (.aload_n 0, 1) := by decide +kernel
theorem d_Piece_lieOn_25 : decode prog_6_method_2_code 25 = .ok (.getfield 22, 3) := by decide +kernel
theorem d_Piece_lieOn_28 : decode prog_6_method_2_code 28 = .ok (.ifCond .eq 12, 3) := by decide +kernel
theorem d_Piece_lieOn_31 : decode prog_6_method_2_code 31 = .ok (.aload_n 1, 1) := by decide +kernel
theorem d_Piece_lieOn_32 : decode prog_6_method_2_code 32 = .ok (.getfield 28, 3) := by decide +kernel
theorem d_Piece_lieOn_35 : decode prog_6_method_2_code 35 = .ok (.iload_n 2, 1) := by decide +kernel
theorem d_Piece_lieOn_36 : decode prog_6_method_2_code 36 = .ok (.iaload, 1) := by decide +kernel
theorem d_Piece_lieOn_37 : decode prog_6_method_2_code 37 = .ok (.goto 9, 3) := by decide +kernel
theorem d_Piece_lieOn_40 : decode prog_6_method_2_code 40 = .ok (.aload_n 1, 1) := by decide +kernel
theorem d_Piece_lieOn_41 : decode prog_6_method_2_code 41 = .ok (.getfield 32, 3) := by decide +kernel
theorem d_Piece_lieOn_44 : decode prog_6_method_2_code 44 = .ok (.iload_n 2, 1) := by decide +kernel
theorem d_Piece_lieOn_45 : decode prog_6_method_2_code 45 = .ok (.iaload, 1) := by decide +kernel
theorem d_Piece_lieOn_46 : decode prog_6_method_2_code 46 = .ok (.putfield 35, 3) := by decide +kernel
theorem d_Piece_lieOn_49 : decode prog_6_method_2_code 49 = .ok (.aload_n 0, 1) := by decide +kernel
theorem d_Piece_lieOn_50 : decode prog_6_method_2_code 50 = .ok (.iload 5, 2) := by decide +kernel
theorem d_Piece_lieOn_52 : decode prog_6_method_2_code 52 = .ok (.iload 6, 2) := by decide +kernel
theorem d_Piece_lieOn_54 : decode prog_6_method_2_code 54 = .ok (.invokestatic 39, 3) := by decide +kernel
theorem d_Piece_lieOn_57 : decode prog_6_method_2_code 57 = .ok (.putfield 45, 3) := by decide +kernel
theorem d_Piece_lieOn_60 : decode prog_6_method_2_code 60 = .ok (.aload_n 0, 1) := by decide +kernel
theorem d_Piece_lieOn_61 : decode prog_6_method_2_code 61 = .ok (.iload 5, 2) := by decide +kernel
theorem d_Piece_lieOn_63 : decode prog_6_method_2_code 63 = .ok (.iload 6, 2) := by decide +kernel
theorem d_Piece_lieOn_65 : decode prog_6_method_2_code 65 = .ok (.invokestatic 48, 3) := by decide +kernel
theorem d_Piece_lieOn_68 : decode prog_6_method_2_code 68 = .ok (.putfield 51, 3) := by decide +kernel
theorem d_Piece_lieOn_71 : decode prog_6_method_2_code 71 = .ok (.aload_n 0, 1) := by decide +kernel
theorem d_Piece_lieOn_72 : decode prog_6_method_2_code 72 = .ok (.iload_n 3, 1) := by decide +kernel
theorem d_Piece_lieOn_73 : decode prog_6_method_2_code 73 = .ok (.ifCond .ne 7, 3) := by decide +kernel
theorem d_Piece_lieOn_76 : decode prog_6_method_2_code 76 = .ok (.iconst 1, 1) := by decide +kernel
theorem d_Piece_lieOn_77 : decode prog_6_method_2_code 77 = .ok (.goto 4, 3) := by decide +kernel
theorem d_Piece_lieOn_80 : decode prog_6_method_2_code 80 = .ok (.iconst 0, 1) := by decide +kernel
theorem d_Piece_lieOn_81 : decode prog_6_method_2_code 81 = .ok (.putfield 54, 3) := by decide +kernel
theorem d_Piece_lieOn_84 : decode prog_6_method_2_code 84 = .ok (.aload_n 0, 1) := by decide +kernel
theorem d_Piece_lieOn_85 : decode prog_6_method_2_code 85 = .ok (.iload_n 3, 1) := by decide +kernel
theorem d_Piece_lieOn_86 : decode prog_6_method_2_code 86 = .ok (.iload 4, 2) := by decide +kernel
theorem d_Piece_lieOn_88 : decode prog_6_method_2_code 88 = .ok (.iconst 1, 1) := by decide +kernel
theorem d_Piece_lieOn_89 : decode prog_6_method_2_code 89 = .ok (.isub, 1) := by decide +kernel
theorem d_Piece_lieOn_90 : decode prog_6_method_2_code 90 = .ok (.if_icmp .ne 7, 3) := by decide +kernel
theorem d_Piece_lieOn_93 : decode prog_6_method_2_code 93 = .ok (.iconst 1, 1) := by decide +kernel
theorem d_Piece_lieOn_94 : decode prog_6_method_2_code 94 = .ok (.goto 4, 3) := by decide +kernel
theorem d_Piece_lieOn_97 : decode prog_6_method_2_code 97 = .ok (.iconst 0, 1) := by decide +kernel
theorem d_Piece_lieOn_98 : decode prog_6_method_2_code 98 = .ok (.putfield 57, 3) := by decide +kernel
theorem d_Piece_lieOn_101 : decode prog_6_method_2_code 101 = .ok (.aload_n 0, 1) := by decide +kernel
theorem d_Piece_lieOn_102 : decode prog_6_method_2_code 102 = .ok (.iconst 0, 1) := by decide +kernel
theorem d_Piece_lieOn_103 : decode prog_6_method_2_code 103 = .ok (.putfield 60, 3) := by decide +kernel
theorem d_Piece_lieOn_106 : decode prog_6_method_2_code 106 = .ok (.iload 5, 2) := by decide +kernel
theorem d_Piece_lieOn_108 : decode prog_6_method_2_code 108 = .ok (.iload 6, 2) := by decide +kernel
theorem d_Piece_lieOn_110 : decode prog_6_method_2_code 110 = .ok (.iload_n 3, 1) := by decide +kernel
theorem d_Piece_lieOn_111 : decode prog_6_method_2_code 111 = .ok (.iload 4, 2) := by decide +kernel
theorem d_Piece_lieOn_113 : decode prog_6_method_2_code 113 = .ok (.invokestatic 63, 3) := by decide +kernel
theorem d_Piece_lieOn_116 : decode prog_6_method_2_code 116 = .ok (.istore 7, 2) := by decide +kernel
theorem d_Piece_lieOn_118 : decode prog_6_method_2_code 118 = .ok (.iload 5, 2) := by decide +kernel
theorem d_Piece_lieOn_120 : decode prog_6_method_2_code 120 = .ok (.iload 6, 2) := by decide +kernel
theorem d_Piece_lieOn_122 : decode prog_6_method_2_code 122 = .ok (.iload_n 3, 1) := by decide +kernel
theorem d_Piece_lieOn_123 : decode prog_6_method_2_code 123 = .ok (.iconst 1, 1) := by decide +kernel
theorem d_Piece_lieOn_124 : decode prog_6_method_2_code 124 = .ok (.iadd, 1) := by decide +kernel
theorem d_Piece_lieOn_125 : decode prog_6_method_2_code 125 = .ok (.iload 4, 2) := by decide +kernel
theorem d_Piece_lieOn_127 : decode prog_6_method_2_code 127 = .ok (.invokestatic 63, 3) := by decide +kernel
theorem d_Piece_lieOn_130 : decode prog_6_method_2_code 130 = .ok (.istore 8, 2) := by decide +kernel
theorem d_Piece_lieOn_132 : decode prog_6_method_2_code 132 = .ok (.aload_n 0, 1) := by decide +kernel
theorem d_Piece_lieOn_133 : decode prog_6_method_2_code 133 = .ok (.iload 7, 2) := by decide +kernel
theorem d_Piece_lieOn_135 : decode prog_6_method_2_code 135 = .ok (.iload 8, 2) := by decide +kernel
theorem d_Piece_lieOn_137 : decode prog_6_method_2_code 137 = .ok (.invokestatic 39, 3) := by decide +kernel
theorem d_Piece_lieOn_140 : decode prog_6_method_2_code 140 = .ok (.putfield 67, 3) := by decide +kernel
theorem d_Piece_lieOn_143 : decode prog_6_method_2_code 143 = .ok (.aload_n 0, 1) := by decide +kernel
theorem d_Piece_lieOn_144 : decode prog_6_method_2_code 144 = .ok (.iload 7, 2) := by decide +kernel
theorem d_Piece_lieOn_146 : decode prog_6_method_2_code 146 = .ok (.iload 8, 2) := by decide +kernel
theorem d_Piece_lieOn_148 : decode prog_6_method_2_code 148 = .ok (.invokestatic 48, 3) := by decide +kernel
theorem d_Piece_lieOn_151 : decode prog_6_method_2_code 151 = .ok (.putfield 70, 3) := by decide +kernel
theorem d_Piece_lieOn_154 : decode prog_6_method_2_code 154 = .ok (.aload_n 0, 1) := by decide +kernel
theorem d_Piece_lieOn_155 : decode prog_6_method_2_code 155 = .ok (.aload_n 1, 1) := by decide +kernel
theorem d_Piece_lieOn_156 : decode prog_6_method_2_code 156 = .ok (.invokevirtual 73, 3) := by decide +kernel
theorem d_Piece_lieOn_159 : decode prog_6_method_2_code 159 = .ok (.return_, 1) := by decide +kernel
theorem d_Piece_pointAt_0 : decode prog_6_method_3_code 0 = .ok (.iload_n 3, 1) := by decide +kernel
theorem d_Piece_pointAt_1 : decode prog_6_method_3_code 1 = .ok (.iconst 1, 1) := by decide +kernel
theorem d_Piece_pointAt_2 : decode prog_6_method_3_code 2 = .ok (.if_icmp .ge 5, 3) := by decide +kernel
theorem d_Piece_pointAt_5 : decode prog_6_method_3_code 5 = .ok (.iload_n 0, 1) := by decide +kernel
theorem d_Piece_pointAt_6 : decode prog_6_method_3_code 6 = .ok (.ireturn, 1) := by decide +kernel
theorem d_Piece_pointAt_7 : decode prog_6_method_3_code 7 = .ok (.iload_n 1, 1) := by decide +kernel
theorem d_Piece_pointAt_8 : decode prog_6_method_3_code 8 = .ok (.iload_n 0, 1) := by decide +kernel
theorem d_Piece_pointAt_9 : decode prog_6_method_3_code 9 = .ok (.isub, 1) := by decide +kernel
theorem d_Piece_pointAt_10 : decode prog_6_method_3_code 10 = .ok (.invokestatic 77, 3) := by decide +kernel
theorem d_Piece_pointAt_13 : decode prog_6_method_3_code 13 = .ok (.iload_n 2, 1) := by decide +kernel
theorem d_Piece_pointAt_14 : decode prog_6_method_3_code 14 = .ok (.imul, 1) := by decide +kernel
theorem d_Piece_pointAt_15 : decode prog_6_method_3_code 15 = .ok (.iload_n 3, 1) := by decide +kernel
theorem d_Piece_pointAt_16 : decode prog_6_method_3_code 16 = .ok (.idiv, 1) := by decide +kernel
theorem d_Piece_pointAt_17 : decode prog_6_method_3_code 17 = .ok (.istore 4, 2) := by decide +kernel
theorem d_Piece_pointAt_19 : decode prog_6_method_3_code 19 = .ok (.iload_n 1, 1) := by decide +kernel
theorem d_Piece_pointAt_20 : decode prog_6_method_3_code 20 = .ok (.iload_n 0, 1) := by decide +kernel
theorem d_Piece_pointAt_21 : decode prog_6_method_3_code 21 = .ok (.if_icmp .le 10, 3) := by decide +kernel
theorem d_Piece_pointAt_24 : decode prog_6_method_3_code 24 = .ok (.iload_n 0, 1) := by decide +kernel
theorem d_Piece_pointAt_25 : decode prog_6_method_3_code 25 = .ok (.iload 4, 2) := by decide +kernel
theorem d_Piece_pointAt_27 : decode prog_6_method_3_code 27 = .ok (.iadd, 1) := by decide +kernel
theorem d_Piece_pointAt_28 : decode prog_6_method_3_code 28 = .ok (.goto 7, 3) := by decide +kernel
theorem d_Piece_pointAt_31 : decode prog_6_method_3_code 31 = .ok (.iload_n 0, 1) := by decide +kernel
theorem d_Piece_pointAt_32 : decode prog_6_method_3_code 32 = .ok (.iload 4, 2) := by decide +kernel
theorem d_Piece_pointAt_34 : decode prog_6_method_3_code 34 = .ok (.isub, 1) := by decide +kernel
theorem d_Piece_pointAt_35 : decode prog_6_method_3_code 35 = .ok (.ireturn, 1) := by decide +kernel
theorem d_Piece_faceOutward_0 : decode prog_6_method_4_code 0 = .ok (.aload_n 0, 1) := by decide +kernel
theorem d_Piece_faceOutward_1 : decode prog_6_method_4_code 1 = .ok (.getfield 67, 3) := by decide +kernel
theorem d_Piece_faceOutward_4 : decode prog_6_method_4_code 4 = .ok (.aload_n 0, 1) := by decide +kernel
theorem d_Piece_faceOutward_5 : decode prog_6_method_4_code 5 = .ok (.getfield 70, 3) := by decide +kernel
theorem d_Piece_faceOutward_8 : decode prog_6_method_4_code 8 = .ok (.iadd, 1) := by decide +kernel
theorem d_Piece_faceOutward_9 : decode prog_6_method_4_code 9 = .ok (.iconst 1, 1) := by decide +kernel
theorem d_Piece_faceOutward_10 : decode prog_6_method_4_code 10 = .ok (.isub, 1) := by decide +kernel
theorem d_Piece_faceOutward_11 : decode prog_6_method_4_code 11 = .ok (.iconst 2, 1) := by decide +kernel
theorem d_Piece_faceOutward_12 : decode prog_6_method_4_code 12 = .ok (.idiv, 1) := by decide +kernel
theorem d_Piece_faceOutward_13 : decode prog_6_method_4_code 13 = .ok (.istore_n 2, 1) := by decide +kernel
theorem d_Piece_faceOutward_14 : decode prog_6_method_4_code 14 = .ok (.aload_n 0, 1) := by decide +kernel
theorem d_Piece_faceOutward_15 : decode prog_6_method_4_code 15 = .ok (.getfield 22, 3) := by decide +kernel
theorem d_Piece_faceOutward_18 : decode prog_6_method_4_code 18 = .ok (.ifCond .eq 17, 3) := by decide +kernel
theorem d_Piece_faceOutward_21 : decode prog_6_method_4_code 21 = .ok (.aload_n 1, 1) := by decide +kernel
theorem d_Piece_faceOutward_22 : decode prog_6_method_4_code 22 = .ok (.iload_n 2, 1) := by decide +kernel
theorem d_Piece_faceOutward_23 : decode prog_6_method_4_code 23 = .ok (.aload_n 0, 1) := by decide +kernel
theorem d_Piece_faceOutward_24 : decode prog_6_method_4_code 24 = .ok (.getfield 35, 3) := by decide +kernel
theorem d_Piece_faceOutward_27 : decode prog_6_method_4_code 27 = .ok (.iconst 1, 1) := by decide +kernel
theorem d_Piece_faceOutward_28 : decode prog_6_method_4_code 28 = .ok (.isub, 1) := by decide +kernel
theorem d_Piece_faceOutward_29 : decode prog_6_method_4_code 29 = .ok (.invokevirtual 80, 3) := by decide +kernel
theorem d_Piece_faceOutward_32 : decode prog_6_method_4_code 32 = .ok (.goto 14, 3) := by decide +kernel
theorem d_Piece_faceOutward_35 : decode prog_6_method_4_code 35 = .ok (.aload_n 1, 1) := by decide +kernel
theorem d_Piece_faceOutward_36 : decode prog_6_method_4_code 36 = .ok (.aload_n 0, 1) := by decide +kernel
theorem d_Piece_faceOutward_37 : decode prog_6_method_4_code 37 = .ok (.getfield 35, 3) := by decide +kernel
theorem d_Piece_faceOutward_40 : decode prog_6_method_4_code 40 = .ok (.iconst 1, 1) := by decide +kernel
theorem d_Piece_faceOutward_41 : decode prog_6_method_4_code 41 = .ok (.isub, 1) := by decide +kernel
theorem d_Piece_faceOutward_42 : decode prog_6_method_4_code 42 = .ok (.iload_n 2, 1) := by decide +kernel
theorem d_Piece_faceOutward_43 : decode prog_6_method_4_code 43 = .ok (.invokevirtual 80, 3) := by decide +kernel
theorem d_Piece_faceOutward_46 : decode prog_6_method_4_code 46 = .ok (.istore_n 3, 1) := by decide +kernel
theorem d_Piece_faceOutward_47 : decode prog_6_method_4_code 47 = .ok (.aload_n 0, 1) := by decide +kernel
theorem d_Piece_faceOutward_48 : decode prog_6_method_4_code 48 = .ok (.getfield 22, 3) := by decide +kernel
theorem d_Piece_faceOutward_51 : decode prog_6_method_4_code 51 = .ok (.ifCond .eq 15, 3) := by decide +kernel
theorem d_Piece_faceOutward_54 : decode prog_6_method_4_code 54 = .ok (.aload_n 1, 1) := by decide +kernel
theorem d_Piece_faceOutward_55 : decode prog_6_method_4_code 55 = .ok (.iload_n 2, 1) := by decide +kernel
theorem d_Piece_faceOutward_56 : decode prog_6_method_4_code 56 = .ok (.aload_n 0, 1) := by decide +kernel
theorem d_Piece_faceOutward_57 : decode prog_6_method_4_code 57 = .ok (.getfield 35, 3) := by decide +kernel
theorem d_Piece_faceOutward_60 : decode prog_6_method_4_code 60 = .ok (.invokevirtual 80, 3) := by decide +kernel
theorem d_Piece_faceOutward_63 : decode prog_6_method_4_code 63 = .ok (.goto 12, 3) := by decide +kernel
theorem d_Piece_faceOutward_66 : decode prog_6_method_4_code 66 = .ok (.aload_n 1, 1) := by decide +kernel
theorem d_Piece_faceOutward_67 : decode prog_6_method_4_code 67 = .ok (.aload_n 0, 1) := by decide +kernel
theorem d_Piece_faceOutward_68 : decode prog_6_method_4_code 68 = .ok (.getfield 35, 3) := by decide +kernel
theorem d_Piece_faceOutward_71 : decode prog_6_method_4_code 71 = .ok (.iload_n 2, 1) := by decide +kernel
theorem d_Piece_faceOutward_72 : decode prog_6_method_4_code 72 = .ok (.invokevirtual 80, 3) := by decide +kernel
theorem d_Piece_faceOutward_75 : decode prog_6_method_4_code 75 = .ok (.istore 4, 2) := by decide +kernel
theorem d_Piece_faceOutward_77 : decode prog_6_method_4_code 77 = .ok (.aload_n 0, 1) := by decide +kernel
theorem d_Piece_faceOutward_78 : decode prog_6_method_4_code 78 = .ok (.iconst 0, 1) := by decide +kernel
theorem d_Piece_faceOutward_79 : decode prog_6_method_4_code 79 = .ok (.putfield 84, 3) := by decide +kernel
theorem d_Piece_faceOutward_82 : decode prog_6_method_4_code 82 = .ok (.iload_n 3, 1) := by decide +kernel
theorem d_Piece_faceOutward_83 : decode prog_6_method_4_code 83 = .ok (.iload 4, 2) := by decide +kernel
theorem d_Piece_faceOutward_85 : decode prog_6_method_4_code 85 = .ok (.if_icmp .eq 16, 3) := by decide +kernel
theorem d_Piece_faceOutward_88 : decode prog_6_method_4_code 88 = .ok (.aload_n 0, 1) := by decide +kernel
theorem d_Piece_faceOutward_89 : decode prog_6_method_4_code 89 = .ok (.iload_n 3, 1) := by decide +kernel
theorem d_Piece_faceOutward_90 : decode prog_6_method_4_code 90 = .ok (.ifCond .eq 7, 3) := by decide +kernel
theorem d_Piece_faceOutward_93 : decode prog_6_method_4_code 93 = .ok (.iconst 1, 1) := by decide +kernel
theorem d_Piece_faceOutward_94 : decode prog_6_method_4_code 94 = .ok (.goto 4, 3) := by decide +kernel
theorem d_Piece_faceOutward_97 : decode prog_6_method_4_code 97 = .ok (.iconst (-1), 1) := by decide +kernel
theorem d_Piece_faceOutward_98 : decode prog_6_method_4_code 98 = .ok (.putfield 84, 3) := by decide +kernel
theorem d_Piece_faceOutward_101 : decode prog_6_method_4_code 101 = .ok (.iload_n 3, 1) := by decide +kernel
theorem d_Piece_faceOutward_102 : decode prog_6_method_4_code 102 = .ok (.ifCond .eq 12, 3) := by decide +kernel
theorem d_Piece_faceOutward_105 : decode prog_6_method_4_code 105 = .ok (.aload_n 0, 1) := by decide +kernel
theorem d_Piece_faceOutward_106 : decode prog_6_method_4_code 106 = .ok (.getfield 35, 3) := by decide +kernel
theorem d_Piece_faceOutward_109 : decode prog_6_method_4_code 109 = .ok (.iconst 1, 1) := by decide +kernel
theorem d_Piece_faceOutward_110 : decode prog_6_method_4_code 110 = .ok (.isub, 1) := by decide +kernel
theorem d_Piece_faceOutward_111 : decode prog_6_method_4_code 111 = .ok (.goto 7, 3) := by decide +kernel
theorem d_Piece_faceOutward_114 : decode prog_6_method_4_code 114 = .ok (.aload_n 0, 1) := by decide +kernel
theorem d_Piece_faceOutward_115 : decode prog_6_method_4_code 115 = .ok (.getfield 35, 3) := by decide +kernel
theorem d_Piece_faceOutward_118 : decode prog_6_method_4_code 118 = .ok (.istore 5, 2) := by decide +kernel
theorem d_Piece_faceOutward_120 : decode prog_6_method_4_code 120 = .ok (.aload_n 0, 1) := by decide +kernel
theorem d_Piece_faceOutward_121 : decode prog_6_method_4_code 121 = .ok (.aload_n 0, 1) := by decide +kernel
theorem d_Piece_faceOutward_122 : decode prog_6_method_4_code 122 = .ok (.getfield 22, 3) := by decide +kernel
theorem d_Piece_faceOutward_125 : decode prog_6_method_4_code 125 = .ok (.ifCond .eq 7, 3) := by decide +kernel
theorem d_Piece_faceOutward_128 : decode prog_6_method_4_code 128 = .ok (.iload_n 2, 1) := by decide +kernel
theorem d_Piece_faceOutward_129 : decode prog_6_method_4_code 129 = .ok (.goto 5, 3) := by decide +kernel
theorem d_Piece_faceOutward_132 : decode prog_6_method_4_code 132 = .ok (.iload 5, 2) := by decide +kernel
theorem d_Piece_faceOutward_134 : decode prog_6_method_4_code 134 = .ok (.putfield 87, 3) := by decide +kernel
theorem d_Piece_faceOutward_137 : decode prog_6_method_4_code 137 = .ok (.aload_n 0, 1) := by decide +kernel
theorem d_Piece_faceOutward_138 : decode prog_6_method_4_code 138 = .ok (.aload_n 0, 1) := by decide +kernel
theorem d_Piece_faceOutward_139 : decode prog_6_method_4_code 139 = .ok (.getfield 22, 3) := by decide +kernel
theorem d_Piece_faceOutward_142 : decode prog_6_method_4_code 142 = .ok (.ifCond .eq 8, 3) := by decide +kernel
theorem d_Piece_faceOutward_145 : decode prog_6_method_4_code 145 = .ok (.iload 5, 2) := by decide +kernel
theorem d_Piece_faceOutward_147 : decode prog_6_method_4_code 147 = .ok (.goto 4, 3) := by decide +kernel
theorem d_Piece_faceOutward_150 : decode prog_6_method_4_code 150 = .ok (.iload_n 2, 1) := by decide +kernel
theorem d_Piece_faceOutward_151 : decode prog_6_method_4_code 151 = .ok (.putfield 90, 3) := by decide +kernel
theorem d_Piece_faceOutward_154 : decode prog_6_method_4_code 154 = .ok (.return_, 1) := by decide +kernel
theorem d_Piece_isFlat_0 : decode prog_6_method_5_code 0 = .ok (.aload_n 0, 1) := by decide +kernel
theorem d_Piece_isFlat_1 : decode prog_6_method_5_code 1 = .ok (.getfield 84, 3) := by decide +kernel
theorem d_Piece_isFlat_4 : decode prog_6_method_5_code 4 = .ok (.ifCond .ne 7, 3) := by decide +kernel
theorem d_Piece_isFlat_7 : decode prog_6_method_5_code 7 = .ok (.iconst 1, 1) := by decide +kernel
theorem d_Piece_isFlat_8 : decode prog_6_method_5_code 8 = .ok (.goto 4, 3) := by decide +kernel
theorem d_Piece_isFlat_11 : decode prog_6_method_5_code 11 = .ok (.iconst 0, 1) := by decide +kernel
theorem d_Piece_isFlat_12 : decode prog_6_method_5_code 12 = .ok (.ireturn, 1) := by decide +kernel
theorem d_Piece_facesLike_0 : decode prog_6_method_6_code 0 = .ok (.aload_n 0, 1) := by decide +kernel
theorem d_Piece_facesLike_1 : decode prog_6_method_6_code 1 = .ok (.getfield 22, 3) := by decide +kernel
theorem d_Piece_facesLike_4 : decode prog_6_method_6_code 4 = .ok (.aload_n 1, 1) := by decide +kernel
theorem d_Piece_facesLike_5 : decode prog_6_method_6_code 5 = .ok (.getfield 22, 3) := by decide +kernel
theorem d_Piece_facesLike_8 : decode prog_6_method_6_code 8 = .ok (.if_icmp .ne 18, 3) := by decide +kernel
theorem d_Piece_facesLike_11 : decode prog_6_method_6_code 11 = .ok (.aload_n 0, 1) := by decide +kernel
theorem d_Piece_facesLike_12 : decode prog_6_method_6_code 12 = .ok (.getfield 84, 3) := by decide +kernel
theorem d_Piece_facesLike_15 : decode prog_6_method_6_code 15 = .ok (.aload_n 1, 1) := by decide +kernel
theorem d_Piece_facesLike_16 : decode prog_6_method_6_code 16 = .ok (.getfield 84, 3) := by decide +kernel
theorem d_Piece_facesLike_19 : decode prog_6_method_6_code 19 = .ok (.if_icmp .ne 7, 3) := by decide +kernel
theorem d_Piece_facesLike_22 : decode prog_6_method_6_code 22 = .ok (.iconst 1, 1) := by decide +kernel
theorem d_Piece_facesLike_23 : decode prog_6_method_6_code 23 = .ok (.goto 4, 3) := by decide +kernel
theorem d_Piece_facesLike_26 : decode prog_6_method_6_code 26 = .ok (.iconst 0, 1) := by decide +kernel
theorem d_Piece_facesLike_27 : decode prog_6_method_6_code 27 = .ok (.ireturn, 1) := by decide +kernel
theorem d_Piece_mayHaveBar_0 : decode prog_6_method_7_code 0 = .ok (.aload_n 0, 1) := by decide +kernel
theorem d_Piece_mayHaveBar_1 : decode prog_6_method_7_code 1 = .ok (.getfield 54, 3) := by decide +kernel
theorem d_Piece_mayHaveBar_4 : decode prog_6_method_7_code 4 = .ok (.ifCond .eq 28, 3) := by decide +kernel
theorem d_Piece_mayHaveBar_7 : decode prog_6_method_7_code 7 = .ok (.aload_n 0, 1) := by decide +kernel
theorem d_Piece_mayHaveBar_8 : decode prog_6_method_7_code 8 = .ok (.invokevirtual 93, 3) := by decide +kernel
theorem d_Piece_mayHaveBar_11 : decode prog_6_method_7_code 11 = .ok (.ifCond .ne 21, 3) := by decide +kernel
theorem d_Piece_mayHaveBar_14 : decode prog_6_method_7_code 14 = .ok (.aload_n 0, 1) := by decide +kernel
theorem d_Piece_mayHaveBar_15 : decode prog_6_method_7_code 15 = .ok (.getfield 51, 3) := by decide +kernel
theorem d_Piece_mayHaveBar_18 : decode prog_6_method_7_code 18 = .ok (.aload_n 0, 1) := by decide +kernel
theorem d_Piece_mayHaveBar_19 : decode prog_6_method_7_code 19 = .ok (.getfield 45, 3) := by decide +kernel
theorem d_Piece_mayHaveBar_22 : decode prog_6_method_7_code 22 = .ok (.isub, 1) := by decide +kernel
theorem d_Piece_mayHaveBar_23 : decode prog_6_method_7_code 23 = .ok (.bipush 6, 2) := by decide +kernel
theorem d_Piece_mayHaveBar_25 : decode prog_6_method_7_code 25 = .ok (.if_icmp .lt 7, 3) := by decide +kernel
theorem d_Piece_mayHaveBar_28 : decode prog_6_method_7_code 28 = .ok (.iconst 1, 1) := by decide +kernel
theorem d_Piece_mayHaveBar_29 : decode prog_6_method_7_code 29 = .ok (.goto 4, 3) := by decide +kernel
theorem d_Piece_mayHaveBar_32 : decode prog_6_method_7_code 32 = .ok (.iconst 0, 1) := by decide +kernel
theorem d_Piece_mayHaveBar_33 : decode prog_6_method_7_code 33 = .ok (.ireturn, 1) := by decide +kernel
theorem d_Piece_fitsRule_0 : decode prog_6_method_8_code 0 = .ok (.iload_n 1, 1) := by decide +kernel
theorem d_Piece_fitsRule_1 : decode prog_6_method_8_code 1 = .ok (.tableswitch 71 0 3 #[31, 33, 38, 51], 31) := by decide +kernel
theorem d_Piece_fitsRule_32 : decode prog_6_method_8_code 32 = .ok (.iconst 1, 1) := by decide +kernel
theorem d_Piece_fitsRule_33 : decode prog_6_method_8_code 33 = .ok (.ireturn, 1) := by decide +kernel
theorem d_Piece_fitsRule_34 : decode prog_6_method_8_code 34 = .ok (.aload_n 0, 1) := by decide +kernel
theorem d_Piece_fitsRule_35 : decode prog_6_method_8_code 35 = .ok (.getfield 22, 3) := by decide +kernel
theorem d_Piece_fitsRule_38 : decode prog_6_method_8_code 38 = .ok (.ireturn, 1) := by decide +kernel
theorem d_Piece_fitsRule_39 : decode prog_6_method_8_code 39 = .ok (.aload_n 0, 1) := by decide +kernel
theorem d_Piece_fitsRule_40 : decode prog_6_method_8_code 40 = .ok (.getfield 22, 3) := by decide +kernel
theorem d_Piece_fitsRule_43 : decode prog_6_method_8_code 43 = .ok (.ifCond .ne 7, 3) := by decide +kernel
theorem d_Piece_fitsRule_46 : decode prog_6_method_8_code 46 = .ok (.iconst 1, 1) := by decide +kernel
theorem d_Piece_fitsRule_47 : decode prog_6_method_8_code 47 = .ok (.goto 4, 3) := by decide +kernel
theorem d_Piece_fitsRule_50 : decode prog_6_method_8_code 50 = .ok (.iconst 0, 1) := by decide +kernel
theorem d_Piece_fitsRule_51 : decode prog_6_method_8_code 51 = .ok (.ireturn, 1) := by decide +kernel
theorem d_Piece_fitsRule_52 : decode prog_6_method_8_code 52 = .ok (.aload_n 0, 1) := by decide +kernel
theorem d_Piece_fitsRule_53 : decode prog_6_method_8_code 53 = .ok (.getfield 54, 3) := by decide +kernel
theorem d_Piece_fitsRule_56 : decode prog_6_method_8_code 56 = .ok (.ifCond .ne 10, 3) := by decide +kernel
theorem d_Piece_fitsRule_59 : decode prog_6_method_8_code 59 = .ok (.aload_n 0, 1) := by decide +kernel
theorem d_Piece_fitsRule_60 : decode prog_6_method_8_code 60 = .ok (.getfield 57, 3) := by decide +kernel
theorem d_Piece_fitsRule_63 : decode prog_6_method_8_code 63 = .ok (.ifCond .eq 7, 3) := by decide +kernel
theorem d_Piece_fitsRule_66 : decode prog_6_method_8_code 66 = .ok (.iconst 1, 1) := by decide +kernel
theorem d_Piece_fitsRule_67 : decode prog_6_method_8_code 67 = .ok (.goto 4, 3) := by decide +kernel
theorem d_Piece_fitsRule_70 : decode prog_6_method_8_code 70 = .ok (.iconst 0, 1) := by decide +kernel
theorem d_Piece_fitsRule_71 : decode prog_6_method_8_code 71 = .ok (.ireturn, 1) := by decide +kernel
theorem d_Piece_fitsRule_72 : decode prog_6_method_8_code 72 = .ok (.iconst 0, 1) := by decide +kernel
theorem d_Piece_fitsRule_73 : decode prog_6_method_8_code 73 = .ok (.ireturn, 1) := by decide +kernel
theorem d_Piece_moveTo_0 : decode prog_6_method_9_code 0 = .ok (.aload_n 0, 1) := by decide +kernel
theorem d_Piece_moveTo_1 : decode prog_6_method_9_code 1 = .ok (.invokevirtual 93, 3) := by decide +kernel
theorem d_Piece_moveTo_4 : decode prog_6_method_9_code 4 = .ok (.ifCond .eq 5, 3) := by decide +kernel
theorem d_Piece_moveTo_7 : decode prog_6_method_9_code 7 = .ok (.iconst 0, 1) := by decide +kernel
theorem d_Piece_moveTo_8 : decode prog_6_method_9_code 8 = .ok (.ireturn, 1) := by decide +kernel
theorem d_Piece_moveTo_9 : decode prog_6_method_9_code 9 = .ok (.aload_n 0, 1) := by decide +kernel
theorem d_Piece_moveTo_10 : decode prog_6_method_9_code 10 = .ok (.getfield 60, 3) := by decide +kernel
theorem d_Piece_moveTo_13 : decode prog_6_method_9_code 13 = .ok (.istore_n 3, 1) := by decide +kernel
theorem d_Piece_moveTo_14 : decode prog_6_method_9_code 14 = .ok (.aload_n 0, 1) := by decide +kernel
theorem d_Piece_moveTo_15 : decode prog_6_method_9_code 15 = .ok (.iload_n 1, 1) := by decide +kernel
theorem d_Piece_moveTo_16 : decode prog_6_method_9_code 16 = .ok (.iload_n 2, 1) := by decide +kernel
theorem d_Piece_moveTo_17 : decode prog_6_method_9_code 17 = .ok (.invokestatic 97, 3) := by decide +kernel
theorem d_Piece_moveTo_20 : decode prog_6_method_9_code 20 = .ok (.putfield 60, 3) := by decide +kernel
theorem d_Piece_moveTo_23 : decode prog_6_method_9_code 23 = .ok (.aload_n 0, 1) := by decide +kernel
theorem d_Piece_moveTo_24 : decode prog_6_method_9_code 24 = .ok (.getfield 60, 3) := by decide +kernel
theorem d_Piece_moveTo_27 : decode prog_6_method_9_code 27 = .ok (.iload_n 3, 1) := by decide +kernel
theorem d_Piece_moveTo_28 : decode prog_6_method_9_code 28 = .ok (.if_icmp .eq 7, 3) := by decide +kernel
theorem d_Piece_moveTo_31 : decode prog_6_method_9_code 31 = .ok (.iconst 1, 1) := by decide +kernel
theorem d_Piece_moveTo_32 : decode prog_6_method_9_code 32 = .ok (.goto 4, 3) := by decide +kernel
theorem d_Piece_moveTo_35 : decode prog_6_method_9_code 35 = .ok (.iconst 0, 1) := by decide +kernel
theorem d_Piece_moveTo_36 : decode prog_6_method_9_code 36 = .ok (.ireturn, 1) := by decide +kernel
theorem d_Long_bitCount_0 : decode prog_9_method_50_code 0 = .ok (.lload_n 0, 1) := by decide +kernel
theorem d_Long_bitCount_1 : decode prog_9_method_50_code 1 = .ok (.lload_n 0, 1) := by decide +kernel
theorem d_Long_bitCount_2 : decode prog_9_method_50_code 2 = .ok (.iconst 1, 1) := by decide +kernel
theorem d_Long_bitCount_3 : decode prog_9_method_50_code 3 = .ok (.lushr, 1) := by decide +kernel
theorem d_Long_bitCount_4 : decode prog_9_method_50_code 4 = .ok (.ldc2_w 314, 3) := by decide +kernel
theorem d_Long_bitCount_7 : decode prog_9_method_50_code 7 = .ok (.land, 1) := by decide +kernel
theorem d_Long_bitCount_8 : decode prog_9_method_50_code 8 = .ok (.lsub, 1) := by decide +kernel
theorem d_Long_bitCount_9 : decode prog_9_method_50_code 9 = .ok (.lstore_n 0, 1) := by decide +kernel
theorem d_Long_bitCount_10 : decode prog_9_method_50_code 10 = .ok (.lload_n 0, 1) := by decide +kernel
theorem d_Long_bitCount_11 : decode prog_9_method_50_code 11 = .ok (.ldc2_w 316, 3) := by decide +kernel
theorem d_Long_bitCount_14 : decode prog_9_method_50_code 14 = .ok (.land, 1) := by decide +kernel
theorem d_Long_bitCount_15 : decode prog_9_method_50_code 15 = .ok (.lload_n 0, 1) := by decide +kernel
theorem d_Long_bitCount_16 : decode prog_9_method_50_code 16 = .ok (.iconst 2, 1) := by decide +kernel
theorem d_Long_bitCount_17 : decode prog_9_method_50_code 17 = .ok (.lushr, 1) := by decide +kernel
theorem d_Long_bitCount_18 : decode prog_9_method_50_code 18 = .ok (.ldc2_w 316, 3) := by decide +kernel
theorem d_Long_bitCount_21 : decode prog_9_method_50_code 21 = .ok (.land, 1) := by decide +kernel
theorem d_Long_bitCount_22 : decode prog_9_method_50_code 22 = .ok (.ladd, 1) := by decide +kernel
theorem d_Long_bitCount_23 : decode prog_9_method_50_code 23 = .ok (.lstore_n 0, 1) := by decide +kernel
theorem d_Long_bitCount_24 : decode prog_9_method_50_code 24 = .ok (.lload_n 0, 1) := by decide +kernel
theorem d_Long_bitCount_25 : decode prog_9_method_50_code 25 = .ok (.lload_n 0, 1) := by decide +kernel
theorem d_Long_bitCount_26 : decode prog_9_method_50_code 26 = .ok (.iconst 4, 1) := by decide +kernel
theorem d_Long_bitCount_27 : decode prog_9_method_50_code 27 = .ok (.lushr, 1) := by decide +kernel
theorem d_Long_bitCount_28 : decode prog_9_method_50_code 28 = .ok (.ladd, 1) := by decide +kernel
theorem d_Long_bitCount_29 : decode prog_9_method_50_code 29 = .ok (.ldc2_w 318, 3) := by decide +kernel
theorem d_Long_bitCount_32 : decode prog_9_method_50_code 32 = .ok (.land, 1) := by decide +kernel
theorem d_Long_bitCount_33 : decode prog_9_method_50_code 33 = .ok (.lstore_n 0, 1) := by decide +kernel
theorem d_Long_bitCount_34 : decode prog_9_method_50_code 34 = .ok (.lload_n 0, 1) := by decide +kernel
theorem d_Long_bitCount_35 : decode prog_9_method_50_code 35 = .ok (.lload_n 0, 1) := by decide +kernel
theorem d_Long_bitCount_36 : decode prog_9_method_50_code 36 = .ok (.bipush 8, 2) := by decide +kernel
theorem d_Long_bitCount_38 : decode prog_9_method_50_code 38 = .ok (.lushr, 1) := by decide +kernel
theorem d_Long_bitCount_39 : decode prog_9_method_50_code 39 = .ok (.ladd, 1) := by decide +kernel
theorem d_Long_bitCount_40 : decode prog_9_method_50_code 40 = .ok (.lstore_n 0, 1) := by decide +kernel
theorem d_Long_bitCount_41 : decode prog_9_method_50_code 41 = .ok (.lload_n 0, 1) := by decide +kernel
theorem d_Long_bitCount_42 : decode prog_9_method_50_code 42 = .ok (.lload_n 0, 1) := by decide +kernel
theorem d_Long_bitCount_43 : decode prog_9_method_50_code 43 = .ok (.bipush 16, 2) := by decide +kernel
theorem d_Long_bitCount_45 : decode prog_9_method_50_code 45 = .ok (.lushr, 1) := by decide +kernel
theorem d_Long_bitCount_46 : decode prog_9_method_50_code 46 = .ok (.ladd, 1) := by decide +kernel
theorem d_Long_bitCount_47 : decode prog_9_method_50_code 47 = .ok (.lstore_n 0, 1) := by decide +kernel
theorem d_Long_bitCount_48 : decode prog_9_method_50_code 48 = .ok (.lload_n 0, 1) := by decide +kernel
theorem d_Long_bitCount_49 : decode prog_9_method_50_code 49 = .ok (.lload_n 0, 1) := by decide +kernel
theorem d_Long_bitCount_50 : decode prog_9_method_50_code 50 = .ok (.bipush 32, 2) := by decide +kernel
theorem d_Long_bitCount_52 : decode prog_9_method_50_code 52 = .ok (.lushr, 1) := by decide +kernel
theorem d_Long_bitCount_53 : decode prog_9_method_50_code 53 = .ok (.ladd, 1) := by decide +kernel
theorem d_Long_bitCount_54 : decode prog_9_method_50_code 54 = .ok (.lstore_n 0, 1) := by decide +kernel
theorem d_Long_bitCount_55 : decode prog_9_method_50_code 55 = .ok (.lload_n 0, 1) := by decide +kernel
theorem d_Long_bitCount_56 : decode prog_9_method_50_code 56 = .ok (.l2i, 1) := by decide +kernel
theorem d_Long_bitCount_57 : decode prog_9_method_50_code 57 = .ok (.bipush 127, 2) := by decide +kernel
theorem d_Long_bitCount_59 : decode prog_9_method_50_code 59 = .ok (.iand, 1) := by decide +kernel
theorem d_Long_bitCount_60 : decode prog_9_method_50_code 60 = .ok (.ireturn, 1) := by decide +kernel
end
section
theorem d_MaskEdges_init_0 : decode prog_1_method_1_code 0 = .ok (.aload_n 0, 1) := by decide +kernel
theorem d_MaskEdges_init_1 : decode prog_1_method_1_code 1 = .ok (.invokespecial 1, 3) := by decide +kernel
theorem d_MaskEdges_init_4 : decode prog_1_method_1_code 4 = .ok (.aload_n 0, 1) := by decide +kernel
theorem d_MaskEdges_init_5 : decode prog_1_method_1_code 5 = .ok (.iconst 4, 1) := by decide +kernel
theorem d_MaskEdges_init_6 : decode prog_1_method_1_code 6 = .ok (.anewarray 9, 3) := by decide +kernel
theorem d_MaskEdges_init_9 : decode prog_1_method_1_code 9 = .ok (.putfield 11, 3) := by decide +kernel
theorem d_MaskEdges_init_12 : decode prog_1_method_1_code 12 = .ok (.aload_n 0, 1) := by decide +kernel
theorem d_MaskEdges_init_13 : decode prog_1_method_1_code 13 = .ok (.bipush 120, 2) := by decide +kernel
theorem d_MaskEdges_init_15 : decode prog_1_method_1_code 15 = .ok (.anewarray 15, 3) := by decide +kernel
theorem d_MaskEdges_init_18 : decode prog_1_method_1_code 18 = .ok (.putfield 17, 3) := by decide +kernel
theorem d_MaskEdges_init_21 : decode prog_1_method_1_code 21 = .ok (.aload_n 0, 1) := by decide +kernel
theorem d_MaskEdges_init_22 : decode prog_1_method_1_code 22 = .ok (.bipush 120, 2) := by decide +kernel
theorem d_MaskEdges_init_24 : decode prog_1_method_1_code 24 = .ok (.newarray .int, 2) := by decide +kernel
theorem d_MaskEdges_init_26 : decode prog_1_method_1_code 26 = .ok (.putfield 21, 3) := by decide +kernel
theorem d_MaskEdges_init_29 : decode prog_1_method_1_code 29 = .ok (.aload_n 0, 1) := by decide +kernel
theorem d_MaskEdges_init_30 : decode prog_1_method_1_code 30 = .ok (.bipush 24, 2) := by decide +kernel
theorem d_MaskEdges_init_32 : decode prog_1_method_1_code 32 = .ok (.anewarray 25, 3) := by decide +kernel
theorem d_MaskEdges_init_35 : decode prog_1_method_1_code 35 = .ok (.putfield 27, 3) := by decide +kernel
theorem d_MaskEdges_init_38 : decode prog_1_method_1_code 38 = .ok (.aload_n 0, 1) := by decide +kernel
theorem d_MaskEdges_init_39 : decode prog_1_method_1_code 39 = .ok (.new 31, 3) := by decide +kernel
theorem d_MaskEdges_init_42 : decode prog_1_method_1_code 42 = .ok (.dup, 1) := by decide +kernel
theorem d_MaskEdges_init_43 : decode prog_1_method_1_code 43 = .ok (.invokespecial 33, 3) := by decide +kernel
theorem d_MaskEdges_init_46 : decode prog_1_method_1_code 46 = .ok (.putfield 34, 3) := by decide +kernel
theorem d_MaskEdges_init_49 : decode prog_1_method_1_code 49 = .ok (.aload_n 0, 1) := by decide +kernel
theorem d_MaskEdges_init_50 : decode prog_1_method_1_code 50 = .ok (.new 31, 3) := by decide +kernel
theorem d_MaskEdges_init_53 : decode prog_1_method_1_code 53 = .ok (.dup, 1) := by decide +kernel
theorem d_MaskEdges_init_54 : decode prog_1_method_1_code 54 = .ok (.invokespecial 33, 3) := by decide +kernel
theorem d_MaskEdges_init_57 : decode prog_1_method_1_code 57 = .ok (.putfield 38, 3) := by decide +kernel
theorem d_MaskEdges_init_60 : decode prog_1_method_1_code 60 = .ok (.aload_n 0, 1) := by decide +kernel
theorem d_MaskEdges_init_61 : decode prog_1_method_1_code 61 = .ok (.new 31, 3) := by decide +kernel
theorem d_MaskEdges_init_64 : decode prog_1_method_1_code 64 = .ok (.dup, 1) := by decide +kernel
theorem d_MaskEdges_init_65 : decode prog_1_method_1_code 65 = .ok (.invokespecial 33, 3) := by decide +kernel
theorem d_MaskEdges_init_68 : decode prog_1_method_1_code 68 = .ok (.putfield 41, 3) := by decide +kernel
theorem d_MaskEdges_init_71 : decode prog_1_method_1_code 71 = .ok (.aload_n 0, 1) := by decide +kernel
theorem d_MaskEdges_init_72 : decode prog_1_method_1_code 72 = .ok (.new 44, 3) := by decide +kernel
theorem d_MaskEdges_init_75 : decode prog_1_method_1_code 75 = .ok (.dup, 1) := by decide +kernel
theorem d_MaskEdges_init_76 : decode prog_1_method_1_code 76 = .ok (.invokespecial 46, 3) := by decide +kernel
theorem d_MaskEdges_init_79 : decode prog_1_method_1_code 79 = .ok (.putfield 47, 3) := by decide +kernel
theorem d_MaskEdges_init_82 : decode prog_1_method_1_code 82 = .ok (.aload_n 0, 1) := by decide +kernel
theorem d_MaskEdges_init_83 : decode prog_1_method_1_code 83 = .ok (.bipush 21, 2) := by decide +kernel
theorem d_MaskEdges_init_85 : decode prog_1_method_1_code 85 = .ok (.newarray .int, 2) := by decide +kernel
theorem d_MaskEdges_init_87 : decode prog_1_method_1_code 87 = .ok (.putfield 51, 3) := by decide +kernel
theorem d_MaskEdges_init_90 : decode prog_1_method_1_code 90 = .ok (.aload_n 0, 1) := by decide +kernel
theorem d_MaskEdges_init_91 : decode prog_1_method_1_code 91 = .ok (.new 25, 3) := by decide +kernel
theorem d_MaskEdges_init_94 : decode prog_1_method_1_code 94 = .ok (.dup, 1) := by decide +kernel
theorem d_MaskEdges_init_95 : decode prog_1_method_1_code 95 = .ok (.invokespecial 54, 3) := by decide +kernel
theorem d_MaskEdges_init_98 : decode prog_1_method_1_code 98 = .ok (.putfield 55, 3) := by decide +kernel
theorem d_MaskEdges_init_101 : decode prog_1_method_1_code 101 = .ok (.iconst 0, 1) := by decide +kernel
theorem d_MaskEdges_init_102 : decode prog_1_method_1_code 102 = .ok (.istore_n 1, 1) := by decide +kernel
theorem d_MaskEdges_init_103 : decode prog_1_method_1_code 103 = .ok (.iload_n 1, 1) := by decide +kernel
theorem d_MaskEdges_init_104 : decode prog_1_method_1_code 104 = .ok (.iconst 4, 1) := by decide +kernel
theorem d_MaskEdges_init_105 : decode prog_1_method_1_code 105 = .ok (.if_icmp .ge 22, 3) := by decide +kernel
theorem d_MaskEdges_init_108 : decode prog_1_method_1_code 108 = .ok (.aload_n 0, 1) := by decide +kernel
theorem d_MaskEdges_init_109 : decode prog_1_method_1_code 109 = .ok (.getfield 11, 3) := by decide +kernel
theorem d_MaskEdges_init_112 : decode prog_1_method_1_code 112 = .ok (.iload_n 1, 1) := by decide +kernel
theorem d_MaskEdges_init_113 : decode prog_1_method_1_code 113 = .ok (.new 9, 3) := by decide +kernel
theorem d_MaskEdges_init_116 : decode prog_1_method_1_code 116 = .ok (.dup, 1) := by decide +kernel
theorem d_MaskEdges_init_117 : decode prog_1_method_1_code 117 = .ok (.invokespecial 59, 3) := by decide +kernel
theorem d_MaskEdges_init_120 : decode prog_1_method_1_code 120 = .ok (.aastore, 1) := by decide +kernel
theorem d_MaskEdges_init_121 : decode prog_1_method_1_code 121 = .ok (.iinc 1 1, 3) := by decide +kernel
theorem d_MaskEdges_init_124 : decode prog_1_method_1_code 124 = .ok (.goto (-21), 3) := by decide +kernel
theorem d_MaskEdges_init_127 : decode prog_1_method_1_code 127 = .ok (.iconst 0, 1) := by decide +kernel
theorem d_MaskEdges_init_128 : decode prog_1_method_1_code 128 = .ok (.istore_n 1, 1) := by decide +kernel
theorem d_MaskEdges_init_129 : decode prog_1_method_1_code 129 = .ok (.iload_n 1, 1) := by decide +kernel
theorem d_MaskEdges_init_130 : decode prog_1_method_1_code 130 = .ok (.bipush 120, 2) := by decide +kernel
theorem d_MaskEdges_init_132 : decode prog_1_method_1_code 132 = .ok (.if_icmp .ge 22, 3) := by decide +kernel
theorem d_MaskEdges_init_135 : decode prog_1_method_1_code 135 = .ok (.aload_n 0, 1) := by decide +kernel
theorem d_MaskEdges_init_136 : decode prog_1_method_1_code 136 = .ok (.getfield 17, 3) := by decide +kernel
theorem d_MaskEdges_init_139 : decode prog_1_method_1_code 139 = .ok (.iload_n 1, 1) := by decide +kernel
theorem d_MaskEdges_init_140 : decode prog_1_method_1_code 140 = .ok (.new 15, 3) := by decide +kernel
theorem d_MaskEdges_init_143 : decode prog_1_method_1_code 143 = .ok (.dup, 1) := by decide +kernel
theorem d_MaskEdges_init_144 : decode prog_1_method_1_code 144 = .ok (.invokespecial 60, 3) := by decide +kernel
theorem d_MaskEdges_init_147 : decode prog_1_method_1_code 147 = .ok (.aastore, 1) := by decide +kernel
theorem d_MaskEdges_init_148 : decode prog_1_method_1_code 148 = .ok (.iinc 1 1, 3) := by decide +kernel
theorem d_MaskEdges_init_151 : decode prog_1_method_1_code 151 = .ok (.goto (-22), 3) := by decide +kernel
theorem d_MaskEdges_init_154 : decode prog_1_method_1_code 154 = .ok (.iconst 0, 1) := by decide +kernel
theorem d_MaskEdges_init_155 : decode prog_1_method_1_code 155 = .ok (.istore_n 1, 1) := by decide +kernel
theorem d_MaskEdges_init_156 : decode prog_1_method_1_code 156 = .ok (.iload_n 1, 1) := by decide +kernel
theorem d_MaskEdges_init_157 : decode prog_1_method_1_code 157 = .ok (.bipush 24, 2) := by decide +kernel
theorem d_MaskEdges_init_159 : decode prog_1_method_1_code 159 = .ok (.if_icmp .ge 22, 3) := by decide +kernel
theorem d_MaskEdges_init_162 : decode prog_1_method_1_code 162 = .ok (.aload_n 0, 1) := by decide +kernel
theorem d_MaskEdges_init_163 : decode prog_1_method_1_code 163 = .ok (.getfield 27, 3) := by decide +kernel
theorem d_MaskEdges_init_166 : decode prog_1_method_1_code 166 = .ok (.iload_n 1, 1) := by decide +kernel
theorem d_MaskEdges_init_167 : decode prog_1_method_1_code 167 = .ok (.new 25, 3) := by decide +kernel
theorem d_MaskEdges_init_170 : decode prog_1_method_1_code 170 = .ok (.dup, 1) := by decide +kernel
theorem d_MaskEdges_init_171 : decode prog_1_method_1_code 171 = .ok (.invokespecial 54, 3) := by decide +kernel
theorem d_MaskEdges_init_174 : decode prog_1_method_1_code 174 = .ok (.aastore, 1) := by decide +kernel
theorem d_MaskEdges_init_175 : decode prog_1_method_1_code 175 = .ok (.iinc 1 1, 3) := by decide +kernel
theorem d_MaskEdges_init_178 : decode prog_1_method_1_code 178 = .ok (.goto (-22), 3) := by decide +kernel
theorem d_MaskEdges_init_181 : decode prog_1_method_1_code 181 = .ok (.return_, 1) := by decide +kernel
theorem d_MaskEdges_polygon_0 : decode prog_1_method_2_code 0 = .ok (.aload_n 0, 1) := by decide +kernel
theorem d_MaskEdges_polygon_1 : decode prog_1_method_2_code 1 = .ok (.getfield 61, 3) := by decide +kernel
theorem d_MaskEdges_polygon_4 : decode prog_1_method_2_code 4 = .ok (.ifCond .le 6, 3) := by decide +kernel
theorem d_MaskEdges_polygon_7 : decode prog_1_method_2_code 7 = .ok (.bipush (-3), 2) := by decide +kernel
theorem d_MaskEdges_polygon_9 : decode prog_1_method_2_code 9 = .ok (.ireturn, 1) := by decide +kernel
theorem d_MaskEdges_polygon_10 : decode prog_1_method_2_code 10 = .ok (.aload_n 0, 1) := by decide +kernel
theorem d_MaskEdges_polygon_11 : decode prog_1_method_2_code 11 = .ok (.getfield 65, 3) := by decide +kernel
theorem d_MaskEdges_polygon_14 : decode prog_1_method_2_code 14 = .ok (.iconst 4, 1) := by decide +kernel
theorem d_MaskEdges_polygon_15 : decode prog_1_method_2_code 15 = .ok (.if_icmp .lt 6, 3) := by decide +kernel
theorem d_MaskEdges_polygon_18 : decode prog_1_method_2_code 18 = .ok (.bipush (-4), 2) := by decide +kernel
theorem d_MaskEdges_polygon_20 : decode prog_1_method_2_code 20 = .ok (.ireturn, 1) := by decide +kernel
theorem d_MaskEdges_polygon_21 : decode prog_1_method_2_code 21 = .ok (.aload_n 0, 1) := by decide +kernel
theorem d_MaskEdges_polygon_22 : decode prog_1_method_2_code 22 = .ok (.dup, 1) := by decide +kernel
theorem d_MaskEdges_polygon_23 : decode prog_1_method_2_code 23 = .ok (.getfield 65, 3) := by decide +kernel
theorem d_MaskEdges_polygon_26 : decode prog_1_method_2_code 26 = .ok (.iconst 1, 1) := by decide +kernel
theorem d_MaskEdges_polygon_27 : decode prog_1_method_2_code 27 = .ok (.iadd, 1) := by decide +kernel
theorem d_MaskEdges_polygon_28 : decode prog_1_method_2_code 28 = .ok (.putfield 65, 3) := by decide +kernel
theorem d_MaskEdges_polygon_31 : decode prog_1_method_2_code 31 = .ok (.aload_n 0, 1) := by decide +kernel
theorem d_MaskEdges_polygon_32 : decode prog_1_method_2_code 32 = .ok (.getfield 65, 3) := by decide +kernel
theorem d_MaskEdges_polygon_35 : decode prog_1_method_2_code 35 = .ok (.iconst 1, 1) := by decide +kernel
theorem d_MaskEdges_polygon_36 : decode prog_1_method_2_code 36 = .ok (.isub, 1) := by decide +kernel
theorem d_MaskEdges_polygon_37 : decode prog_1_method_2_code 37 = .ok (.ireturn, 1) := by decide +kernel
theorem d_MaskEdges_corner_0 : decode prog_1_method_3_code 0 = .ok (.iload_n 1, 1) := by decide +kernel
theorem d_MaskEdges_corner_1 : decode prog_1_method_3_code 1 = .ok (.ifCond .lt 18, 3) := by decide +kernel
theorem d_MaskEdges_corner_4 : decode prog_1_method_3_code 4 = .ok (.iload_n 1, 1) := by decide +kernel
theorem d_MaskEdges_corner_5 : decode prog_1_method_3_code 5 = .ok (.aload_n 0, 1) := by decide +kernel
theorem d_MaskEdges_corner_6 : decode prog_1_method_3_code 6 = .ok (.getfield 65, 3) := by decide +kernel
theorem d_MaskEdges_corner_9 : decode prog_1_method_3_code 9 = .ok (.if_icmp .ge 10, 3) := by decide +kernel
theorem d_MaskEdges_corner_12 : decode prog_1_method_3_code 12 = .ok (.aload_n 0, 1) := by decide +kernel
theorem d_MaskEdges_corner_13 : decode prog_1_method_3_code 13 = .ok (.getfield 61, 3) := by decide +kernel
theorem d_MaskEdges_corner_16 : decode prog_1_method_3_code 16 = .ok (.ifCond .le 5, 3) := by decide +kernel
theorem d_MaskEdges_corner_19 : decode prog_1_method_3_code 19 = .ok (.iconst 0, 1) := by decide +kernel
theorem d_MaskEdges_corner_20 : decode prog_1_method_3_code 20 = .ok (.ireturn, 1) := by decide +kernel
theorem d_MaskEdges_corner_21 : decode prog_1_method_3_code 21 = .ok (.lload_n 2, 1) := by decide +kernel
theorem d_MaskEdges_corner_22 : decode prog_1_method_3_code 22 = .ok (.lconst 0, 1) := by decide +kernel
theorem d_MaskEdges_corner_23 : decode prog_1_method_3_code 23 = .ok (.lcmp, 1) := by decide +kernel
theorem d_MaskEdges_corner_24 : decode prog_1_method_3_code 24 = .ok (.ifCond .lt 27, 3) := by decide +kernel
theorem d_MaskEdges_corner_27 : decode prog_1_method_3_code 27 = .ok (.lload_n 2, 1) := by decide +kernel
theorem d_MaskEdges_corner_28 : decode prog_1_method_3_code 28 = .ok (.ldc2_w 68, 3) := by decide +kernel
theorem d_MaskEdges_corner_31 : decode prog_1_method_3_code 31 = .ok (.lcmp, 1) := by decide +kernel
theorem d_MaskEdges_corner_32 : decode prog_1_method_3_code 32 = .ok (.ifCond .gt 19, 3) := by decide +kernel
theorem d_MaskEdges_corner_35 : decode prog_1_method_3_code 35 = .ok (.lload 4, 2) := by decide +kernel
theorem d_MaskEdges_corner_37 : decode prog_1_method_3_code 37 = .ok (.lconst 0, 1) := by decide +kernel
theorem d_MaskEdges_corner_38 : decode prog_1_method_3_code 38 = .ok (.lcmp, 1) := by decide +kernel
theorem d_MaskEdges_corner_39 : decode prog_1_method_3_code 39 = .ok (.ifCond .lt 12, 3) := by decide +kernel
theorem d_MaskEdges_corner_42 : decode prog_1_method_3_code 42 = .ok (.lload 4, 2) := by decide +kernel
theorem d_MaskEdges_corner_44 : decode prog_1_method_3_code 44 = .ok (.ldc2_w 68, 3) := by decide +kernel
theorem d_MaskEdges_corner_47 : decode prog_1_method_3_code 47 = .ok (.lcmp, 1) := by decide +kernel
theorem d_MaskEdges_corner_48 : decode prog_1_method_3_code 48 = .ok (.ifCond .le 5, 3) := by decide +kernel
theorem d_MaskEdges_corner_51 : decode prog_1_method_3_code 51 = .ok (.iconst 0, 1) := by decide +kernel
theorem d_MaskEdges_corner_52 : decode prog_1_method_3_code 52 = .ok (.ireturn, 1) := by decide +kernel
theorem d_MaskEdges_corner_53 : decode prog_1_method_3_code 53 = .ok (.aload_n 0, 1) := by decide +kernel
theorem d_MaskEdges_corner_54 : decode prog_1_method_3_code 54 = .ok (.getfield 11, 3) := by decide +kernel
theorem d_MaskEdges_corner_57 : decode prog_1_method_3_code 57 = .ok (.iload_n 1, 1) := by decide +kernel
theorem d_MaskEdges_corner_58 : decode prog_1_method_3_code 58 = .ok (.aaload, 1) := by decide +kernel
theorem d_MaskEdges_corner_59 : decode prog_1_method_3_code 59 = .ok (.astore 6, 2) := by decide +kernel
theorem d_MaskEdges_corner_61 : decode prog_1_method_3_code 61 = .ok (.aload 6, 2) := by decide +kernel
theorem d_MaskEdges_corner_63 : decode prog_1_method_3_code 63 = .ok (.lload_n 2, 1) := by decide +kernel
theorem d_MaskEdges_corner_64 : decode prog_1_method_3_code 64 = .ok (.l2i, 1) := by decide +kernel
theorem d_MaskEdges_corner_65 : decode prog_1_method_3_code 65 = .ok (.lload 4, 2) := by decide +kernel
theorem d_MaskEdges_corner_67 : decode prog_1_method_3_code 67 = .ok (.l2i, 1) := by decide +kernel
theorem d_MaskEdges_corner_68 : decode prog_1_method_3_code 68 = .ok (.invokevirtual 70, 3) := by decide +kernel
theorem d_MaskEdges_corner_71 : decode prog_1_method_3_code 71 = .ok (.istore 7, 2) := by decide +kernel
theorem d_MaskEdges_corner_73 : decode prog_1_method_3_code 73 = .ok (.iload 7, 2) := by decide +kernel
theorem d_MaskEdges_corner_75 : decode prog_1_method_3_code 75 = .ok (.ifCond .eq 21, 3) := by decide +kernel
theorem d_MaskEdges_corner_78 : decode prog_1_method_3_code 78 = .ok (.aload 6, 2) := by decide +kernel
theorem d_MaskEdges_corner_80 : decode prog_1_method_3_code 80 = .ok (.getfield 74, 3) := by decide +kernel
theorem d_MaskEdges_corner_83 : decode prog_1_method_3_code 83 = .ok (.ifCond .eq 13, 3) := by decide +kernel
theorem d_MaskEdges_corner_86 : decode prog_1_method_3_code 86 = .ok (.aload_n 0, 1) := by decide +kernel
theorem d_MaskEdges_corner_87 : decode prog_1_method_3_code 87 = .ok (.aload 6, 2) := by decide +kernel
theorem d_MaskEdges_corner_89 : decode prog_1_method_3_code 89 = .ok (.invokevirtual 78, 3) := by decide +kernel
theorem d_MaskEdges_corner_92 : decode prog_1_method_3_code 92 = .ok (.aload_n 0, 1) := by decide +kernel
theorem d_MaskEdges_corner_93 : decode prog_1_method_3_code 93 = .ok (.invokevirtual 82, 3) := by decide +kernel
theorem d_MaskEdges_corner_96 : decode prog_1_method_3_code 96 = .ok (.iload 7, 2) := by decide +kernel
theorem d_MaskEdges_corner_98 : decode prog_1_method_3_code 98 = .ok (.ireturn, 1) := by decide +kernel
theorem d_MaskEdges_kernel_0 : decode prog_1_method_4_code 0 = .ok (.iload_n 1, 1) := by decide +kernel
theorem d_MaskEdges_kernel_1 : decode prog_1_method_4_code 1 = .ok (.bipush (-20), 2) := by decide +kernel
theorem d_MaskEdges_kernel_3 : decode prog_1_method_4_code 3 = .ok (.bipush 20, 2) := by decide +kernel
theorem d_MaskEdges_kernel_5 : decode prog_1_method_4_code 5 = .ok (.invokestatic 85, 3) := by decide +kernel
theorem d_MaskEdges_kernel_8 : decode prog_1_method_4_code 8 = .ok (.ifCond .eq 13, 3) := by decide +kernel
theorem d_MaskEdges_kernel_11 : decode prog_1_method_4_code 11 = .ok (.iload_n 2, 1) := by decide +kernel
theorem d_MaskEdges_kernel_12 : decode prog_1_method_4_code 12 = .ok (.iconst 0, 1) := by decide +kernel
theorem d_MaskEdges_kernel_13 : decode prog_1_method_4_code 13 = .ok (.bipush 6, 2) := by decide +kernel
theorem d_MaskEdges_kernel_15 : decode prog_1_method_4_code 15 = .ok (.invokestatic 85, 3) := by decide +kernel
theorem d_MaskEdges_kernel_18 : decode prog_1_method_4_code 18 = .ok (.ifCond .ne 6, 3) := by decide +kernel
theorem d_MaskEdges_kernel_21 : decode prog_1_method_4_code 21 = .ok (.bipush (-2), 2) := by decide +kernel
theorem d_MaskEdges_kernel_23 : decode prog_1_method_4_code 23 = .ok (.ireturn, 1) := by decide +kernel
theorem d_MaskEdges_kernel_24 : decode prog_1_method_4_code 24 = .ok (.aload_n 0, 1) := by decide +kernel
theorem d_MaskEdges_kernel_25 : decode prog_1_method_4_code 25 = .ok (.getfield 47, 3) := by decide +kernel
theorem d_MaskEdges_kernel_28 : decode prog_1_method_4_code 28 = .ok (.iload_n 1, 1) := by decide +kernel
theorem d_MaskEdges_kernel_29 : decode prog_1_method_4_code 29 = .ok (.iload_n 2, 1) := by decide +kernel
theorem d_MaskEdges_kernel_30 : decode prog_1_method_4_code 30 = .ok (.invokevirtual 89, 3) := by decide +kernel
theorem d_MaskEdges_kernel_33 : decode prog_1_method_4_code 33 = .ok (.ireturn, 1) := by decide +kernel
theorem d_MaskEdges_cut_0 : decode prog_1_method_5_code 0 = .ok (.iload_n 1, 1) := by decide +kernel
theorem d_MaskEdges_cut_1 : decode prog_1_method_5_code 1 = .ok (.iconst 1, 1) := by decide +kernel
theorem d_MaskEdges_cut_2 : decode prog_1_method_5_code 2 = .ok (.bipush 48, 2) := by decide +kernel
theorem d_MaskEdges_cut_4 : decode prog_1_method_5_code 4 = .ok (.invokestatic 85, 3) := by decide +kernel
theorem d_MaskEdges_cut_7 : decode prog_1_method_5_code 7 = .ok (.ifCond .ne 6, 3) := by decide +kernel
theorem d_MaskEdges_cut_10 : decode prog_1_method_5_code 10 = .ok (.bipush (-2), 2) := by decide +kernel
theorem d_MaskEdges_cut_12 : decode prog_1_method_5_code 12 = .ok (.ireturn, 1) := by decide +kernel
theorem d_MaskEdges_cut_13 : decode prog_1_method_5_code 13 = .ok (.aload_n 0, 1) := by decide +kernel
theorem d_MaskEdges_cut_14 : decode prog_1_method_5_code 14 = .ok (.iload_n 1, 1) := by decide +kernel
theorem d_MaskEdges_cut_15 : decode prog_1_method_5_code 15 = .ok (.invokevirtual 93, 3) := by decide +kernel
theorem d_MaskEdges_cut_18 : decode prog_1_method_5_code 18 = .ok (.istore_n 2, 1) := by decide +kernel
theorem d_MaskEdges_cut_19 : decode prog_1_method_5_code 19 = .ok (.iload_n 2, 1) := by decide +kernel
theorem d_MaskEdges_cut_20 : decode prog_1_method_5_code 20 = .ok (.ifCond .ne 6, 3) := by decide +kernel
theorem d_MaskEdges_cut_23 : decode prog_1_method_5_code 23 = .ok (.bipush (-3), 2) := by decide +kernel
theorem d_MaskEdges_cut_25 : decode prog_1_method_5_code 25 = .ok (.ireturn, 1) := by decide +kernel
theorem d_MaskEdges_cut_26 : decode prog_1_method_5_code 26 = .ok (.iload_n 2, 1) := by decide +kernel
theorem d_MaskEdges_cut_27 : decode prog_1_method_5_code 27 = .ok (.bipush 120, 2) := by decide +kernel
theorem d_MaskEdges_cut_29 : decode prog_1_method_5_code 29 = .ok (.if_icmp .le 6, 3) := by decide +kernel
theorem d_MaskEdges_cut_32 : decode prog_1_method_5_code 32 = .ok (.bipush (-4), 2) := by decide +kernel
theorem d_MaskEdges_cut_34 : decode prog_1_method_5_code 34 = .ok (.ireturn, 1) := by decide +kernel
theorem d_MaskEdges_cut_35 : decode prog_1_method_5_code 35 = .ok (.aload_n 0, 1) := by decide +kernel
theorem d_MaskEdges_cut_36 : decode prog_1_method_5_code 36 = .ok (.iconst 0, 1) := by decide +kernel
theorem d_MaskEdges_cut_37 : decode prog_1_method_5_code 37 = .ok (.putfield 61, 3) := by decide +kernel
theorem d_MaskEdges_cut_40 : decode prog_1_method_5_code 40 = .ok (.iconst 0, 1) := by decide +kernel
theorem d_MaskEdges_cut_41 : decode prog_1_method_5_code 41 = .ok (.istore_n 3, 1) := by decide +kernel
theorem d_MaskEdges_cut_42 : decode prog_1_method_5_code 42 = .ok (.iload_n 3, 1) := by decide +kernel
theorem d_MaskEdges_cut_43 : decode prog_1_method_5_code 43 = .ok (.aload_n 0, 1) := by decide +kernel
theorem d_MaskEdges_cut_44 : decode prog_1_method_5_code 44 = .ok (.getfield 65, 3) := by decide +kernel
theorem d_MaskEdges_cut_47 : decode prog_1_method_5_code 47 = .ok (.if_icmp .ge 20, 3) := by decide +kernel
theorem d_MaskEdges_cut_50 : decode prog_1_method_5_code 50 = .ok (.aload_n 0, 1) := by decide +kernel
theorem d_MaskEdges_cut_51 : decode prog_1_method_5_code 51 = .ok (.aload_n 0, 1) := by decide +kernel
theorem d_MaskEdges_cut_52 : decode prog_1_method_5_code 52 = .ok (.getfield 11, 3) := by decide +kernel
theorem d_MaskEdges_cut_55 : decode prog_1_method_5_code 55 = .ok (.iload_n 3, 1) := by decide +kernel
theorem d_MaskEdges_cut_56 : decode prog_1_method_5_code 56 = .ok (.aaload, 1) := by decide +kernel
theorem d_MaskEdges_cut_57 : decode prog_1_method_5_code 57 = .ok (.iload_n 1, 1) := by decide +kernel
theorem d_MaskEdges_cut_58 : decode prog_1_method_5_code 58 = .ok (.invokevirtual 97, 3) := by decide +kernel
theorem d_MaskEdges_cut_61 : decode prog_1_method_5_code 61 = .ok (.iinc 3 1, 3) := by decide +kernel
theorem d_MaskEdges_cut_64 : decode prog_1_method_5_code 64 = .ok (.goto (-22), 3) := by decide +kernel
theorem d_MaskEdges_cut_67 : decode prog_1_method_5_code 67 = .ok (.aload_n 0, 1) := by decide +kernel
theorem d_MaskEdges_cut_68 : decode prog_1_method_5_code 68 = .ok (.invokevirtual 82, 3) := by decide +kernel
theorem d_MaskEdges_cut_71 : decode prog_1_method_5_code 71 = .ok (.aload_n 0, 1) := by decide +kernel
theorem d_MaskEdges_cut_72 : decode prog_1_method_5_code 72 = .ok (.getfield 61, 3) := by decide +kernel
theorem d_MaskEdges_cut_75 : decode prog_1_method_5_code 75 = .ok (.ireturn, 1) := by decide +kernel
theorem d_MaskEdges_image_0 : decode prog_1_method_6_code 0 = .ok (.iload_n 1, 1) := by decide +kernel
theorem d_MaskEdges_image_1 : decode prog_1_method_6_code 1 = .ok (.iload_n 2, 1) := by decide +kernel
theorem d_MaskEdges_image_2 : decode prog_1_method_6_code 2 = .ok (.invokestatic 101, 3) := by decide +kernel
theorem d_MaskEdges_image_5 : decode prog_1_method_6_code 5 = .ok (.ifCond .eq 19, 3) := by decide +kernel
theorem d_MaskEdges_image_8 : decode prog_1_method_6_code 8 = .ok (.aload_n 0, 1) := by decide +kernel
theorem d_MaskEdges_image_9 : decode prog_1_method_6_code 9 = .ok (.getfield 47, 3) := by decide +kernel
theorem d_MaskEdges_image_12 : decode prog_1_method_6_code 12 = .ok (.aload_n 0, 1) := by decide +kernel
theorem d_MaskEdges_image_13 : decode prog_1_method_6_code 13 = .ok (.getfield 41, 3) := by decide +kernel
theorem d_MaskEdges_image_16 : decode prog_1_method_6_code 16 = .ok (.iload_n 1, 1) := by decide +kernel
theorem d_MaskEdges_image_17 : decode prog_1_method_6_code 17 = .ok (.iload_n 2, 1) := by decide +kernel
theorem d_MaskEdges_image_18 : decode prog_1_method_6_code 18 = .ok (.invokevirtual 104, 3) := by decide +kernel
theorem d_MaskEdges_image_21 : decode prog_1_method_6_code 21 = .ok (.goto 4, 3) := by decide +kernel
theorem d_MaskEdges_image_24 : decode prog_1_method_6_code 24 = .ok (.iconst 0, 1) := by decide +kernel
theorem d_MaskEdges_image_25 : decode prog_1_method_6_code 25 = .ok (.ireturn, 1) := by decide +kernel
theorem d_MaskEdges_error_0 : decode prog_1_method_7_code 0 = .ok (.aload_n 0, 1) := by decide +kernel
theorem d_MaskEdges_error_1 : decode prog_1_method_7_code 1 = .ok (.iload_n 1, 1) := by decide +kernel
theorem d_MaskEdges_error_2 : decode prog_1_method_7_code 2 = .ok (.invokevirtual 108, 3) := by decide +kernel
theorem d_MaskEdges_error_5 : decode prog_1_method_7_code 5 = .ok (.ifCond .eq 18, 3) := by decide +kernel
theorem d_MaskEdges_error_8 : decode prog_1_method_7_code 8 = .ok (.aload_n 0, 1) := by decide +kernel
theorem d_MaskEdges_error_9 : decode prog_1_method_7_code 9 = .ok (.aload_n 0, 1) := by decide +kernel
theorem d_MaskEdges_error_10 : decode prog_1_method_7_code 10 = .ok (.getfield 17, 3) := by decide +kernel
theorem d_MaskEdges_error_13 : decode prog_1_method_7_code 13 = .ok (.iload_n 1, 1) := by decide +kernel
theorem d_MaskEdges_error_14 : decode prog_1_method_7_code 14 = .ok (.aaload, 1) := by decide +kernel
theorem d_MaskEdges_error_15 : decode prog_1_method_7_code 15 = .ok (.bipush 100, 2) := by decide +kernel
theorem d_MaskEdges_error_17 : decode prog_1_method_7_code 17 = .ok (.invokevirtual 112, 3) := by decide +kernel
theorem d_MaskEdges_error_20 : decode prog_1_method_7_code 20 = .ok (.goto 4, 3) := by decide +kernel
theorem d_MaskEdges_error_23 : decode prog_1_method_7_code 23 = .ok (.iconst 0, 1) := by decide +kernel
theorem d_MaskEdges_error_24 : decode prog_1_method_7_code 24 = .ok (.ireturn, 1) := by decide +kernel
theorem d_MaskEdges_run_0 : decode prog_1_method_8_code 0 = .ok (.iload_n 1, 1) := by decide +kernel
theorem d_MaskEdges_run_1 : decode prog_1_method_8_code 1 = .ok (.iconst 1, 1) := by decide +kernel
theorem d_MaskEdges_run_2 : decode prog_1_method_8_code 2 = .ok (.bipush 20, 2) := by decide +kernel
theorem d_MaskEdges_run_4 : decode prog_1_method_8_code 4 = .ok (.invokestatic 85, 3) := by decide +kernel
theorem d_MaskEdges_run_7 : decode prog_1_method_8_code 7 = .ok (.ifCond .eq 13, 3) := by decide +kernel
theorem d_MaskEdges_run_10 : decode prog_1_method_8_code 10 = .ok (.iload_n 2, 1) := by decide +kernel
theorem d_MaskEdges_run_11 : decode prog_1_method_8_code 11 = .ok (.iconst 1, 1) := by decide +kernel
theorem d_MaskEdges_run_12 : decode prog_1_method_8_code 12 = .ok (.ldc 116, 2) := by decide +kernel
theorem d_MaskEdges_run_14 : decode prog_1_method_8_code 14 = .ok (.invokestatic 85, 3) := by decide +kernel
theorem d_MaskEdges_run_17 : decode prog_1_method_8_code 17 = .ok (.ifCond .ne 6, 3) := by decide +kernel
theorem d_MaskEdges_run_20 : decode prog_1_method_8_code 20 = .ok (.bipush (-2), 2) := by decide +kernel
theorem d_MaskEdges_run_22 : decode prog_1_method_8_code 22 = .ok (.ireturn, 1) := by decide +kernel
theorem d_MaskEdges_run_23 : decode prog_1_method_8_code 23 = .ok (.iload_n 3, 1) := by decide +kernel
theorem d_MaskEdges_run_24 : decode prog_1_method_8_code 24 = .ok (.iconst 1, 1) := by decide +kernel
theorem d_MaskEdges_run_25 : decode prog_1_method_8_code 25 = .ok (.iconst 4, 1) := by decide +kernel
theorem d_MaskEdges_run_26 : decode prog_1_method_8_code 26 = .ok (.invokestatic 85, 3) := by decide +kernel
theorem d_MaskEdges_run_29 : decode prog_1_method_8_code 29 = .ok (.ifCond .eq 14, 3) := by decide +kernel
theorem d_MaskEdges_run_32 : decode prog_1_method_8_code 32 = .ok (.iload 4, 2) := by decide +kernel
theorem d_MaskEdges_run_34 : decode prog_1_method_8_code 34 = .ok (.iconst 1, 1) := by decide +kernel
theorem d_MaskEdges_run_35 : decode prog_1_method_8_code 35 = .ok (.bipush 6, 2) := by decide +kernel
theorem d_MaskEdges_run_37 : decode prog_1_method_8_code 37 = .ok (.invokestatic 85, 3) := by decide +kernel
theorem d_MaskEdges_run_40 : decode prog_1_method_8_code 40 = .ok (.ifCond .ne 6, 3) := by decide +kernel
theorem d_MaskEdges_run_43 : decode prog_1_method_8_code 43 = .ok (.bipush (-2), 2) := by decide +kernel
theorem d_MaskEdges_run_45 : decode prog_1_method_8_code 45 = .ok (.ireturn, 1) := by decide +kernel
theorem d_MaskEdges_run_46 : decode prog_1_method_8_code 46 = .ok (.aload_n 0, 1) := by decide +kernel
theorem d_MaskEdges_run_47 : decode prog_1_method_8_code 47 = .ok (.getfield 61, 3) := by decide +kernel
theorem d_MaskEdges_run_50 : decode prog_1_method_8_code 50 = .ok (.ifCond .ne 6, 3) := by decide +kernel
theorem d_MaskEdges_run_53 : decode prog_1_method_8_code 53 = .ok (.bipush (-3), 2) := by decide +kernel
theorem d_MaskEdges_run_55 : decode prog_1_method_8_code 55 = .ok (.ireturn, 1) := by decide +kernel
theorem d_MaskEdges_run_56 : decode prog_1_method_8_code 56 = .ok (.aload_n 0, 1) := by decide +kernel
theorem d_MaskEdges_run_57 : decode prog_1_method_8_code 57 = .ok (.getfield 47, 3) := by decide +kernel
theorem d_MaskEdges_run_60 : decode prog_1_method_8_code 60 = .ok (.iload_n 2, 1) := by decide +kernel
theorem d_MaskEdges_run_61 : decode prog_1_method_8_code 61 = .ok (.putfield 117, 3) := by decide +kernel
theorem d_MaskEdges_run_64 : decode prog_1_method_8_code 64 = .ok (.aload_n 0, 1) := by decide +kernel
theorem d_MaskEdges_run_65 : decode prog_1_method_8_code 65 = .ok (.getfield 51, 3) := by decide +kernel
theorem d_MaskEdges_run_68 : decode prog_1_method_8_code 68 = .ok (.iconst 0, 1) := by decide +kernel
theorem d_MaskEdges_run_69 : decode prog_1_method_8_code 69 = .ok (.aload_n 0, 1) := by decide +kernel
theorem d_MaskEdges_run_70 : decode prog_1_method_8_code 70 = .ok (.invokevirtual 120, 3) := by decide +kernel
theorem d_MaskEdges_run_73 : decode prog_1_method_8_code 73 = .ok (.iastore, 1) := by decide +kernel
theorem d_MaskEdges_run_74 : decode prog_1_method_8_code 74 = .ok (.iconst 0, 1) := by decide +kernel
theorem d_MaskEdges_run_75 : decode prog_1_method_8_code 75 = .ok (.istore 5, 2) := by decide +kernel
theorem d_MaskEdges_run_77 : decode prog_1_method_8_code 77 = .ok (.iload 5, 2) := by decide +kernel
theorem d_MaskEdges_run_79 : decode prog_1_method_8_code 79 = .ok (.iload_n 1, 1) := by decide +kernel
theorem d_MaskEdges_run_80 : decode prog_1_method_8_code 80 = .ok (.if_icmp .ge 67, 3) := by decide +kernel
theorem d_MaskEdges_run_83 : decode prog_1_method_8_code 83 = .ok (.aload_n 0, 1) := by decide +kernel
theorem d_MaskEdges_run_84 : decode prog_1_method_8_code 84 = .ok (.getfield 51, 3) := by decide +kernel
theorem d_MaskEdges_run_87 : decode prog_1_method_8_code 87 = .ok (.iload 5, 2) := by decide +kernel
theorem d_MaskEdges_run_89 : decode prog_1_method_8_code 89 = .ok (.iaload, 1) := by decide +kernel
theorem d_MaskEdges_run_90 : decode prog_1_method_8_code 90 = .ok (.ifCond .le 57, 3) := by decide +kernel
theorem d_MaskEdges_run_93 : decode prog_1_method_8_code 93 = .ok (.aload_n 0, 1) := by decide +kernel
theorem d_MaskEdges_run_94 : decode prog_1_method_8_code 94 = .ok (.iload_n 3, 1) := by decide +kernel
theorem d_MaskEdges_run_95 : decode prog_1_method_8_code 95 = .ok (.iload 4, 2) := by decide +kernel
theorem d_MaskEdges_run_97 : decode prog_1_method_8_code 97 = .ok (.invokevirtual 124, 3) := by decide +kernel
theorem d_MaskEdges_run_100 : decode prog_1_method_8_code 100 = .ok (.ifCond .eq 47, 3) := by decide +kernel
theorem d_MaskEdges_run_103 : decode prog_1_method_8_code 103 = .ok (.aload_n 0, 1) := by decide +kernel
theorem d_MaskEdges_run_104 : decode prog_1_method_8_code 104 = .ok (.invokevirtual 82, 3) := by decide +kernel
theorem d_MaskEdges_run_107 : decode prog_1_method_8_code 107 = .ok (.aload_n 0, 1) := by decide +kernel
theorem d_MaskEdges_run_108 : decode prog_1_method_8_code 108 = .ok (.invokevirtual 120, 3) := by decide +kernel
theorem d_MaskEdges_run_111 : decode prog_1_method_8_code 111 = .ok (.istore 6, 2) := by decide +kernel
theorem d_MaskEdges_run_113 : decode prog_1_method_8_code 113 = .ok (.iload 6, 2) := by decide +kernel
theorem d_MaskEdges_run_115 : decode prog_1_method_8_code 115 = .ok (.aload_n 0, 1) := by decide +kernel
theorem d_MaskEdges_run_116 : decode prog_1_method_8_code 116 = .ok (.getfield 51, 3) := by decide +kernel
theorem d_MaskEdges_run_119 : decode prog_1_method_8_code 119 = .ok (.iload 5, 2) := by decide +kernel
theorem d_MaskEdges_run_121 : decode prog_1_method_8_code 121 = .ok (.iaload, 1) := by decide +kernel
theorem d_MaskEdges_run_122 : decode prog_1_method_8_code 122 = .ok (.if_icmp .le 10, 3) := by decide +kernel
theorem d_MaskEdges_run_125 : decode prog_1_method_8_code 125 = .ok (.aload_n 0, 1) := by decide +kernel
theorem d_MaskEdges_run_126 : decode prog_1_method_8_code 126 = .ok (.invokevirtual 127, 3) := by decide +kernel
theorem d_MaskEdges_run_129 : decode prog_1_method_8_code 129 = .ok (.goto 18, 3) := by decide +kernel
theorem d_MaskEdges_run_132 : decode prog_1_method_8_code 132 = .ok (.iinc 5 1, 3) := by decide +kernel
theorem d_MaskEdges_run_135 : decode prog_1_method_8_code 135 = .ok (.aload_n 0, 1) := by decide +kernel
theorem d_MaskEdges_run_136 : decode prog_1_method_8_code 136 = .ok (.getfield 51, 3) := by decide +kernel
theorem d_MaskEdges_run_139 : decode prog_1_method_8_code 139 = .ok (.iload 5, 2) := by decide +kernel
theorem d_MaskEdges_run_141 : decode prog_1_method_8_code 141 = .ok (.iload 6, 2) := by decide +kernel
theorem d_MaskEdges_run_143 : decode prog_1_method_8_code 143 = .ok (.iastore, 1) := by decide +kernel
theorem d_MaskEdges_run_144 : decode prog_1_method_8_code 144 = .ok (.goto (-67), 3) := by decide +kernel
theorem d_MaskEdges_run_147 : decode prog_1_method_8_code 147 = .ok (.aload_n 0, 1) := by decide +kernel
theorem d_MaskEdges_run_148 : decode prog_1_method_8_code 148 = .ok (.iload 5, 2) := by decide +kernel
theorem d_MaskEdges_run_150 : decode prog_1_method_8_code 150 = .ok (.iconst 1, 1) := by decide +kernel
theorem d_MaskEdges_run_151 : decode prog_1_method_8_code 151 = .ok (.iadd, 1) := by decide +kernel
theorem d_MaskEdges_run_152 : decode prog_1_method_8_code 152 = .ok (.putfield 130, 3) := by decide +kernel
theorem d_MaskEdges_run_155 : decode prog_1_method_8_code 155 = .ok (.iload 5, 2) := by decide +kernel
theorem d_MaskEdges_run_157 : decode prog_1_method_8_code 157 = .ok (.ireturn, 1) := by decide +kernel
theorem d_MaskEdges_moved_0 : decode prog_1_method_9_code 0 = .ok (.aload_n 0, 1) := by decide +kernel
theorem d_MaskEdges_moved_1 : decode prog_1_method_9_code 1 = .ok (.iload_n 1, 1) := by decide +kernel
theorem d_MaskEdges_moved_2 : decode prog_1_method_9_code 2 = .ok (.invokevirtual 108, 3) := by decide +kernel
theorem d_MaskEdges_moved_5 : decode prog_1_method_9_code 5 = .ok (.ifCond .eq 15, 3) := by decide +kernel
theorem d_MaskEdges_moved_8 : decode prog_1_method_9_code 8 = .ok (.aload_n 0, 1) := by decide +kernel
theorem d_MaskEdges_moved_9 : decode prog_1_method_9_code 9 = .ok (.getfield 17, 3) := by decide +kernel
theorem d_MaskEdges_moved_12 : decode prog_1_method_9_code 12 = .ok (.iload_n 1, 1) := by decide +kernel
theorem d_MaskEdges_moved_13 : decode prog_1_method_9_code 13 = .ok (.aaload, 1) := by decide +kernel
theorem d_MaskEdges_moved_14 : decode prog_1_method_9_code 14 = .ok (.getfield 133, 3) := by decide +kernel
theorem d_MaskEdges_moved_17 : decode prog_1_method_9_code 17 = .ok (.goto 4, 3) := by decide +kernel
theorem d_MaskEdges_moved_20 : decode prog_1_method_9_code 20 = .ok (.iconst 0, 1) := by decide +kernel
theorem d_MaskEdges_moved_21 : decode prog_1_method_9_code 21 = .ok (.ireturn, 1) := by decide +kernel
theorem d_MaskEdges_worst_0 : decode prog_1_method_10_code 0 = .ok (.iload_n 1, 1) := by decide +kernel
theorem d_MaskEdges_worst_1 : decode prog_1_method_10_code 1 = .ok (.ifCond .lt 20, 3) := by decide +kernel
theorem d_MaskEdges_worst_4 : decode prog_1_method_10_code 4 = .ok (.iload_n 1, 1) := by decide +kernel
theorem d_MaskEdges_worst_5 : decode prog_1_method_10_code 5 = .ok (.aload_n 0, 1) := by decide +kernel
theorem d_MaskEdges_worst_6 : decode prog_1_method_10_code 6 = .ok (.getfield 130, 3) := by decide +kernel
theorem d_MaskEdges_worst_9 : decode prog_1_method_10_code 9 = .ok (.if_icmp .ge 12, 3) := by decide +kernel
theorem d_MaskEdges_worst_12 : decode prog_1_method_10_code 12 = .ok (.aload_n 0, 1) := by decide +kernel
theorem d_MaskEdges_worst_13 : decode prog_1_method_10_code 13 = .ok (.getfield 51, 3) := by decide +kernel
theorem d_MaskEdges_worst_16 : decode prog_1_method_10_code 16 = .ok (.iload_n 1, 1) := by decide +kernel
theorem d_MaskEdges_worst_17 : decode prog_1_method_10_code 17 = .ok (.iaload, 1) := by decide +kernel
theorem d_MaskEdges_worst_18 : decode prog_1_method_10_code 18 = .ok (.goto 4, 3) := by decide +kernel
theorem d_MaskEdges_worst_21 : decode prog_1_method_10_code 21 = .ok (.iconst (-1), 1) := by decide +kernel
theorem d_MaskEdges_worst_22 : decode prog_1_method_10_code 22 = .ok (.ireturn, 1) := by decide +kernel
theorem d_MaskEdges_helper_0 : decode prog_1_method_11_code 0 = .ok (.iload_n 1, 1) := by decide +kernel
theorem d_MaskEdges_helper_1 : decode prog_1_method_11_code 1 = .ok (.iconst 1, 1) := by decide +kernel
theorem d_MaskEdges_helper_2 : decode prog_1_method_11_code 2 = .ok (.bipush 8, 2) := by decide +kernel
theorem d_MaskEdges_helper_4 : decode prog_1_method_11_code 4 = .ok (.invokestatic 85, 3) := by decide +kernel
theorem d_MaskEdges_helper_7 : decode prog_1_method_11_code 7 = .ok (.ifCond .eq 12, 3) := by decide +kernel
theorem d_MaskEdges_helper_10 : decode prog_1_method_11_code 10 = .ok (.iload_n 2, 1) := by decide +kernel
theorem d_MaskEdges_helper_11 : decode prog_1_method_11_code 11 = .ok (.iconst 1, 1) := by decide +kernel
theorem d_MaskEdges_helper_12 : decode prog_1_method_11_code 12 = .ok (.iconst 4, 1) := by decide +kernel
theorem d_MaskEdges_helper_13 : decode prog_1_method_11_code 13 = .ok (.invokestatic 85, 3) := by decide +kernel
theorem d_MaskEdges_helper_16 : decode prog_1_method_11_code 16 = .ok (.ifCond .ne 6, 3) := by decide +kernel
theorem d_MaskEdges_helper_19 : decode prog_1_method_11_code 19 = .ok (.bipush (-2), 2) := by decide +kernel
theorem d_MaskEdges_helper_21 : decode prog_1_method_11_code 21 = .ok (.ireturn, 1) := by decide +kernel
theorem d_MaskEdges_helper_22 : decode prog_1_method_11_code 22 = .ok (.aload_n 0, 1) := by decide +kernel
theorem d_MaskEdges_helper_23 : decode prog_1_method_11_code 23 = .ok (.getfield 61, 3) := by decide +kernel
theorem d_MaskEdges_helper_26 : decode prog_1_method_11_code 26 = .ok (.ifCond .ne 6, 3) := by decide +kernel
theorem d_MaskEdges_helper_29 : decode prog_1_method_11_code 29 = .ok (.bipush (-3), 2) := by decide +kernel
theorem d_MaskEdges_helper_31 : decode prog_1_method_11_code 31 = .ok (.ireturn, 1) := by decide +kernel
theorem d_MaskEdges_helper_32 : decode prog_1_method_11_code 32 = .ok (.aload_n 0, 1) := by decide +kernel
theorem d_MaskEdges_helper_33 : decode prog_1_method_11_code 33 = .ok (.getfield 136, 3) := by decide +kernel
theorem d_MaskEdges_helper_36 : decode prog_1_method_11_code 36 = .ok (.istore_n 3, 1) := by decide +kernel
theorem d_MaskEdges_helper_37 : decode prog_1_method_11_code 37 = .ok (.iconst 0, 1) := by decide +kernel
theorem d_MaskEdges_helper_38 : decode prog_1_method_11_code 38 = .ok (.istore 4, 2) := by decide +kernel
theorem d_MaskEdges_helper_40 : decode prog_1_method_11_code 40 = .ok (.iload 4, 2) := by decide +kernel
theorem d_MaskEdges_helper_42 : decode prog_1_method_11_code 42 = .ok (.aload_n 0, 1) := by decide +kernel
theorem d_MaskEdges_helper_43 : decode prog_1_method_11_code 43 = .ok (.getfield 61, 3) := by decide +kernel
theorem d_MaskEdges_helper_46 : decode prog_1_method_11_code 46 = .ok (.if_icmp .ge 35, 3) := by decide +kernel
theorem d_MaskEdges_helper_49 : decode prog_1_method_11_code 49 = .ok (.aload_n 0, 1) := by decide +kernel
theorem d_MaskEdges_helper_50 : decode prog_1_method_11_code 50 = .ok (.getfield 17, 3) := by decide +kernel
theorem d_MaskEdges_helper_53 : decode prog_1_method_11_code 53 = .ok (.iload 4, 2) := by decide +kernel
theorem d_MaskEdges_helper_55 : decode prog_1_method_11_code 55 = .ok (.aaload, 1) := by decide +kernel
theorem d_MaskEdges_helper_56 : decode prog_1_method_11_code 56 = .ok (.invokevirtual 139, 3) := by decide +kernel
theorem d_MaskEdges_helper_59 : decode prog_1_method_11_code 59 = .ok (.ifCond .eq 16, 3) := by decide +kernel
theorem d_MaskEdges_helper_62 : decode prog_1_method_11_code 62 = .ok (.aload_n 0, 1) := by decide +kernel
theorem d_MaskEdges_helper_63 : decode prog_1_method_11_code 63 = .ok (.aload_n 0, 1) := by decide +kernel
theorem d_MaskEdges_helper_64 : decode prog_1_method_11_code 64 = .ok (.getfield 17, 3) := by decide +kernel
theorem d_MaskEdges_helper_67 : decode prog_1_method_11_code 67 = .ok (.iload 4, 2) := by decide +kernel
theorem d_MaskEdges_helper_69 : decode prog_1_method_11_code 69 = .ok (.aaload, 1) := by decide +kernel
theorem d_MaskEdges_helper_70 : decode prog_1_method_11_code 70 = .ok (.iload_n 1, 1) := by decide +kernel
theorem d_MaskEdges_helper_71 : decode prog_1_method_11_code 71 = .ok (.iload_n 2, 1) := by decide +kernel
theorem d_MaskEdges_helper_72 : decode prog_1_method_11_code 72 = .ok (.invokevirtual 143, 3) := by decide +kernel
theorem d_MaskEdges_helper_75 : decode prog_1_method_11_code 75 = .ok (.iinc 4 1, 3) := by decide +kernel
theorem d_MaskEdges_helper_78 : decode prog_1_method_11_code 78 = .ok (.goto (-38), 3) := by decide +kernel
theorem d_MaskEdges_helper_81 : decode prog_1_method_11_code 81 = .ok (.aload_n 0, 1) := by decide +kernel
theorem d_MaskEdges_helper_82 : decode prog_1_method_11_code 82 = .ok (.invokevirtual 82, 3) := by decide +kernel
theorem d_MaskEdges_helper_85 : decode prog_1_method_11_code 85 = .ok (.aload_n 0, 1) := by decide +kernel
theorem d_MaskEdges_helper_86 : decode prog_1_method_11_code 86 = .ok (.getfield 136, 3) := by decide +kernel
theorem d_MaskEdges_helper_89 : decode prog_1_method_11_code 89 = .ok (.iload_n 3, 1) := by decide +kernel
theorem d_MaskEdges_helper_90 : decode prog_1_method_11_code 90 = .ok (.isub, 1) := by decide +kernel
theorem d_MaskEdges_helper_91 : decode prog_1_method_11_code 91 = .ok (.ireturn, 1) := by decide +kernel
theorem d_MaskEdges_prints_0 : decode prog_1_method_12_code 0 = .ok (.iload_n 1, 1) := by decide +kernel
theorem d_MaskEdges_prints_1 : decode prog_1_method_12_code 1 = .ok (.ifCond .lt 22, 3) := by decide +kernel
theorem d_MaskEdges_prints_4 : decode prog_1_method_12_code 4 = .ok (.iload_n 1, 1) := by decide +kernel
theorem d_MaskEdges_prints_5 : decode prog_1_method_12_code 5 = .ok (.aload_n 0, 1) := by decide +kernel
theorem d_MaskEdges_prints_6 : decode prog_1_method_12_code 6 = .ok (.getfield 136, 3) := by decide +kernel
theorem d_MaskEdges_prints_9 : decode prog_1_method_12_code 9 = .ok (.if_icmp .ge 14, 3) := by decide +kernel
theorem d_MaskEdges_prints_12 : decode prog_1_method_12_code 12 = .ok (.iload_n 2, 1) := by decide +kernel
theorem d_MaskEdges_prints_13 : decode prog_1_method_12_code 13 = .ok (.iconst 1, 1) := by decide +kernel
theorem d_MaskEdges_prints_14 : decode prog_1_method_12_code 14 = .ok (.sipush 1000, 3) := by decide +kernel
theorem d_MaskEdges_prints_17 : decode prog_1_method_12_code 17 = .ok (.invokestatic 85, 3) := by decide +kernel
theorem d_MaskEdges_prints_20 : decode prog_1_method_12_code 20 = .ok (.ifCond .ne 5, 3) := by decide +kernel
theorem d_MaskEdges_prints_23 : decode prog_1_method_12_code 23 = .ok (.iconst 0, 1) := by decide +kernel
theorem d_MaskEdges_prints_24 : decode prog_1_method_12_code 24 = .ok (.ireturn, 1) := by decide +kernel
theorem d_MaskEdges_prints_25 : decode prog_1_method_12_code 25 = .ok (.aload_n 0, 1) := by decide +kernel
theorem d_MaskEdges_prints_26 : decode prog_1_method_12_code 26 = .ok (.getfield 27, 3) := by decide +kernel
theorem d_MaskEdges_prints_29 : decode prog_1_method_12_code 29 = .ok (.iload_n 1, 1) := by decide +kernel
theorem d_MaskEdges_prints_30 : decode prog_1_method_12_code 30 = .ok (.aaload, 1) := by decide +kernel
theorem d_MaskEdges_prints_31 : decode prog_1_method_12_code 31 = .ok (.astore_n 3, 1) := by decide +kernel
theorem d_MaskEdges_prints_32 : decode prog_1_method_12_code 32 = .ok (.aload_n 3, 1) := by decide +kernel
theorem d_MaskEdges_prints_33 : decode prog_1_method_12_code 33 = .ok (.getfield 147, 3) := by decide +kernel
theorem d_MaskEdges_prints_36 : decode prog_1_method_12_code 36 = .ok (.istore 4, 2) := by decide +kernel
theorem d_MaskEdges_prints_38 : decode prog_1_method_12_code 38 = .ok (.iload 4, 2) := by decide +kernel
theorem d_MaskEdges_prints_40 : decode prog_1_method_12_code 40 = .ok (.aload_n 3, 1) := by decide +kernel
theorem d_MaskEdges_prints_41 : decode prog_1_method_12_code 41 = .ok (.getfield 150, 3) := by decide +kernel
theorem d_MaskEdges_prints_44 : decode prog_1_method_12_code 44 = .ok (.if_icmp .ge 51, 3) := by decide +kernel
theorem d_MaskEdges_prints_47 : decode prog_1_method_12_code 47 = .ok (.aload_n 3, 1) := by decide +kernel
theorem d_MaskEdges_prints_48 : decode prog_1_method_12_code 48 = .ok (.getfield 153, 3) := by decide +kernel
theorem d_MaskEdges_prints_51 : decode prog_1_method_12_code 51 = .ok (.istore 5, 2) := by decide +kernel
theorem d_MaskEdges_prints_53 : decode prog_1_method_12_code 53 = .ok (.iload 5, 2) := by decide +kernel
theorem d_MaskEdges_prints_55 : decode prog_1_method_12_code 55 = .ok (.aload_n 3, 1) := by decide +kernel
theorem d_MaskEdges_prints_56 : decode prog_1_method_12_code 56 = .ok (.getfield 156, 3) := by decide +kernel
theorem d_MaskEdges_prints_59 : decode prog_1_method_12_code 59 = .ok (.if_icmp .ge 30, 3) := by decide +kernel
theorem d_MaskEdges_prints_62 : decode prog_1_method_12_code 62 = .ok (.aload_n 0, 1) := by decide +kernel
theorem d_MaskEdges_prints_63 : decode prog_1_method_12_code 63 = .ok (.getfield 47, 3) := by decide +kernel
theorem d_MaskEdges_prints_66 : decode prog_1_method_12_code 66 = .ok (.aload_n 0, 1) := by decide +kernel
theorem d_MaskEdges_prints_67 : decode prog_1_method_12_code 67 = .ok (.getfield 41, 3) := by decide +kernel
theorem d_MaskEdges_prints_70 : decode prog_1_method_12_code 70 = .ok (.iload 5, 2) := by decide +kernel
theorem d_MaskEdges_prints_72 : decode prog_1_method_12_code 72 = .ok (.iload 4, 2) := by decide +kernel
theorem d_MaskEdges_prints_74 : decode prog_1_method_12_code 74 = .ok (.iload_n 2, 1) := by decide +kernel
theorem d_MaskEdges_prints_75 : decode prog_1_method_12_code 75 = .ok (.invokevirtual 159, 3) := by decide +kernel
theorem d_MaskEdges_prints_78 : decode prog_1_method_12_code 78 = .ok (.ifCond .eq 5, 3) := by decide +kernel
theorem d_MaskEdges_prints_81 : decode prog_1_method_12_code 81 = .ok (.iconst 1, 1) := by decide +kernel
theorem d_MaskEdges_prints_82 : decode prog_1_method_12_code 82 = .ok (.ireturn, 1) := by decide +kernel
theorem d_MaskEdges_prints_83 : decode prog_1_method_12_code 83 = .ok (.iinc 5 1, 3) := by decide +kernel
theorem d_MaskEdges_prints_86 : decode prog_1_method_12_code 86 = .ok (.goto (-33), 3) := by decide +kernel
theorem d_MaskEdges_prints_89 : decode prog_1_method_12_code 89 = .ok (.iinc 4 1, 3) := by decide +kernel
theorem d_MaskEdges_prints_92 : decode prog_1_method_12_code 92 = .ok (.goto (-54), 3) := by decide +kernel
theorem d_MaskEdges_prints_95 : decode prog_1_method_12_code 95 = .ok (.iconst 0, 1) := by decide +kernel
theorem d_MaskEdges_prints_96 : decode prog_1_method_12_code 96 = .ok (.ireturn, 1) := by decide +kernel
theorem d_MaskEdges_edge_0 : decode prog_1_method_13_code 0 = .ok (.aload_n 0, 1) := by decide +kernel
theorem d_MaskEdges_edge_1 : decode prog_1_method_13_code 1 = .ok (.iload_n 1, 1) := by decide +kernel
theorem d_MaskEdges_edge_2 : decode prog_1_method_13_code 2 = .ok (.invokevirtual 108, 3) := by decide +kernel
theorem d_MaskEdges_edge_5 : decode prog_1_method_13_code 5 = .ok (.ifCond .eq 28, 3) := by decide +kernel
theorem d_MaskEdges_edge_8 : decode prog_1_method_13_code 8 = .ok (.iload_n 2, 1) := by decide +kernel
theorem d_MaskEdges_edge_9 : decode prog_1_method_13_code 9 = .ok (.iconst 1, 1) := by decide +kernel
theorem d_MaskEdges_edge_10 : decode prog_1_method_13_code 10 = .ok (.sipush 1000, 3) := by decide +kernel
theorem d_MaskEdges_edge_13 : decode prog_1_method_13_code 13 = .ok (.invokestatic 85, 3) := by decide +kernel
theorem d_MaskEdges_edge_16 : decode prog_1_method_13_code 16 = .ok (.ifCond .eq 17, 3) := by decide +kernel
theorem d_MaskEdges_edge_19 : decode prog_1_method_13_code 19 = .ok (.aload_n 0, 1) := by decide +kernel
theorem d_MaskEdges_edge_20 : decode prog_1_method_13_code 20 = .ok (.aload_n 0, 1) := by decide +kernel
theorem d_MaskEdges_edge_21 : decode prog_1_method_13_code 21 = .ok (.getfield 17, 3) := by decide +kernel
theorem d_MaskEdges_edge_24 : decode prog_1_method_13_code 24 = .ok (.iload_n 1, 1) := by decide +kernel
theorem d_MaskEdges_edge_25 : decode prog_1_method_13_code 25 = .ok (.aaload, 1) := by decide +kernel
theorem d_MaskEdges_edge_26 : decode prog_1_method_13_code 26 = .ok (.iload_n 2, 1) := by decide +kernel
theorem d_MaskEdges_edge_27 : decode prog_1_method_13_code 27 = .ok (.invokevirtual 112, 3) := by decide +kernel
theorem d_MaskEdges_edge_30 : decode prog_1_method_13_code 30 = .ok (.goto 4, 3) := by decide +kernel
theorem d_MaskEdges_edge_33 : decode prog_1_method_13_code 33 = .ok (.iconst 0, 1) := by decide +kernel
theorem d_MaskEdges_edge_34 : decode prog_1_method_13_code 34 = .ok (.ireturn, 1) := by decide +kernel
theorem d_MaskEdges_alike_0 : decode prog_1_method_14_code 0 = .ok (.aload_n 0, 1) := by decide +kernel
theorem d_MaskEdges_alike_1 : decode prog_1_method_14_code 1 = .ok (.iload_n 1, 1) := by decide +kernel
theorem d_MaskEdges_alike_2 : decode prog_1_method_14_code 2 = .ok (.invokevirtual 108, 3) := by decide +kernel
theorem d_MaskEdges_alike_5 : decode prog_1_method_14_code 5 = .ok (.ifCond .eq 11, 3) := by decide +kernel
theorem d_MaskEdges_alike_8 : decode prog_1_method_14_code 8 = .ok (.aload_n 0, 1) := by decide +kernel
theorem d_MaskEdges_alike_9 : decode prog_1_method_14_code 9 = .ok (.iload_n 2, 1) := by decide +kernel
theorem d_MaskEdges_alike_10 : decode prog_1_method_14_code 10 = .ok (.invokevirtual 108, 3) := by decide +kernel
theorem d_MaskEdges_alike_13 : decode prog_1_method_14_code 13 = .ok (.ifCond .ne 5, 3) := by decide +kernel
theorem d_MaskEdges_alike_16 : decode prog_1_method_14_code 16 = .ok (.iconst 0, 1) := by decide +kernel
theorem d_MaskEdges_alike_17 : decode prog_1_method_14_code 17 = .ok (.ireturn, 1) := by decide +kernel
theorem d_MaskEdges_alike_18 : decode prog_1_method_14_code 18 = .ok (.aload_n 0, 1) := by decide +kernel
theorem d_MaskEdges_alike_19 : decode prog_1_method_14_code 19 = .ok (.getfield 17, 3) := by decide +kernel
theorem d_MaskEdges_alike_22 : decode prog_1_method_14_code 22 = .ok (.iload_n 1, 1) := by decide +kernel
theorem d_MaskEdges_alike_23 : decode prog_1_method_14_code 23 = .ok (.aaload, 1) := by decide +kernel
theorem d_MaskEdges_alike_24 : decode prog_1_method_14_code 24 = .ok (.astore_n 3, 1) := by decide +kernel
theorem d_MaskEdges_alike_25 : decode prog_1_method_14_code 25 = .ok (.aload_n 0, 1) := by decide +kernel
theorem d_MaskEdges_alike_26 : decode prog_1_method_14_code 26 = .ok (.getfield 17, 3) := by decide +kernel
theorem d_MaskEdges_alike_29 : decode prog_1_method_14_code 29 = .ok (.iload_n 2, 1) := by decide +kernel
theorem d_MaskEdges_alike_30 : decode prog_1_method_14_code 30 = .ok (.aaload, 1) := by decide +kernel
theorem d_MaskEdges_alike_31 : decode prog_1_method_14_code 31 = .ok (.astore 4, 2) := by decide +kernel
theorem d_MaskEdges_alike_33 : decode prog_1_method_14_code 33 = .ok (.aload_n 3, 1) := by decide +kernel
theorem d_MaskEdges_alike_34 : decode prog_1_method_14_code 34 = .ok (.invokevirtual 163, 3) := by decide +kernel
theorem d_MaskEdges_alike_37 : decode prog_1_method_14_code 37 = .ok (.ifCond .ne 26, 3) := by decide +kernel
theorem d_MaskEdges_alike_40 : decode prog_1_method_14_code 40 = .ok (.aload_n 3, 1) := by decide +kernel
theorem d_MaskEdges_alike_41 : decode prog_1_method_14_code 41 = .ok (.aload 4, 2) := by decide +kernel
theorem d_MaskEdges_alike_43 : decode prog_1_method_14_code 43 = .ok (.invokevirtual 166, 3) := by decide +kernel
theorem d_MaskEdges_alike_46 : decode prog_1_method_14_code 46 = .ok (.ifCond .eq 17, 3) := by decide +kernel
theorem d_MaskEdges_alike_49 : decode prog_1_method_14_code 49 = .ok (.aload_n 0, 1) := by decide +kernel
theorem d_MaskEdges_alike_50 : decode prog_1_method_14_code 50 = .ok (.aload_n 3, 1) := by decide +kernel
theorem d_MaskEdges_alike_51 : decode prog_1_method_14_code 51 = .ok (.aload 4, 2) := by decide +kernel
theorem d_MaskEdges_alike_53 : decode prog_1_method_14_code 53 = .ok (.invokevirtual 170, 3) := by decide +kernel
theorem d_MaskEdges_alike_56 : decode prog_1_method_14_code 56 = .ok (.ifCond .eq 7, 3) := by decide +kernel
theorem d_MaskEdges_alike_59 : decode prog_1_method_14_code 59 = .ok (.iconst 1, 1) := by decide +kernel
theorem d_MaskEdges_alike_60 : decode prog_1_method_14_code 60 = .ok (.goto 4, 3) := by decide +kernel
theorem d_MaskEdges_alike_63 : decode prog_1_method_14_code 63 = .ok (.iconst 0, 1) := by decide +kernel
theorem d_MaskEdges_alike_64 : decode prog_1_method_14_code 64 = .ok (.ireturn, 1) := by decide +kernel
theorem d_MaskEdges_shift_0 : decode prog_1_method_15_code 0 = .ok (.iload_n 1, 1) := by decide +kernel
theorem d_MaskEdges_shift_1 : decode prog_1_method_15_code 1 = .ok (.iconst 0, 1) := by decide +kernel
theorem d_MaskEdges_shift_2 : decode prog_1_method_15_code 2 = .ok (.iconst 3, 1) := by decide +kernel
theorem d_MaskEdges_shift_3 : decode prog_1_method_15_code 3 = .ok (.invokestatic 85, 3) := by decide +kernel
theorem d_MaskEdges_shift_6 : decode prog_1_method_15_code 6 = .ok (.ifCond .eq 14, 3) := by decide +kernel
theorem d_MaskEdges_shift_9 : decode prog_1_method_15_code 9 = .ok (.iload_n 2, 1) := by decide +kernel
theorem d_MaskEdges_shift_10 : decode prog_1_method_15_code 10 = .ok (.bipush (-6), 2) := by decide +kernel
theorem d_MaskEdges_shift_12 : decode prog_1_method_15_code 12 = .ok (.bipush 6, 2) := by decide +kernel
theorem d_MaskEdges_shift_14 : decode prog_1_method_15_code 14 = .ok (.invokestatic 85, 3) := by decide +kernel
theorem d_MaskEdges_shift_17 : decode prog_1_method_15_code 17 = .ok (.ifCond .ne 6, 3) := by decide +kernel
theorem d_MaskEdges_shift_20 : decode prog_1_method_15_code 20 = .ok (.bipush (-2), 2) := by decide +kernel
theorem d_MaskEdges_shift_22 : decode prog_1_method_15_code 22 = .ok (.ireturn, 1) := by decide +kernel
theorem d_MaskEdges_shift_23 : decode prog_1_method_15_code 23 = .ok (.aload_n 0, 1) := by decide +kernel
theorem d_MaskEdges_shift_24 : decode prog_1_method_15_code 24 = .ok (.getfield 61, 3) := by decide +kernel
theorem d_MaskEdges_shift_27 : decode prog_1_method_15_code 27 = .ok (.ifCond .ne 6, 3) := by decide +kernel
theorem d_MaskEdges_shift_30 : decode prog_1_method_15_code 30 = .ok (.bipush (-3), 2) := by decide +kernel
theorem d_MaskEdges_shift_32 : decode prog_1_method_15_code 32 = .ok (.ireturn, 1) := by decide +kernel
theorem d_MaskEdges_shift_33 : decode prog_1_method_15_code 33 = .ok (.iconst 0, 1) := by decide +kernel
theorem d_MaskEdges_shift_34 : decode prog_1_method_15_code 34 = .ok (.istore_n 3, 1) := by decide +kernel
theorem d_MaskEdges_shift_35 : decode prog_1_method_15_code 35 = .ok (.iconst 0, 1) := by decide +kernel
theorem d_MaskEdges_shift_36 : decode prog_1_method_15_code 36 = .ok (.istore 4, 2) := by decide +kernel
theorem d_MaskEdges_shift_38 : decode prog_1_method_15_code 38 = .ok (.iload 4, 2) := by decide +kernel
theorem d_MaskEdges_shift_40 : decode prog_1_method_15_code 40 = .ok (.aload_n 0, 1) := by decide +kernel
theorem d_MaskEdges_shift_41 : decode prog_1_method_15_code 41 = .ok (.getfield 61, 3) := by decide +kernel
theorem d_MaskEdges_shift_44 : decode prog_1_method_15_code 44 = .ok (.if_icmp .ge 47, 3) := by decide +kernel
theorem d_MaskEdges_shift_47 : decode prog_1_method_15_code 47 = .ok (.aload_n 0, 1) := by decide +kernel
theorem d_MaskEdges_shift_48 : decode prog_1_method_15_code 48 = .ok (.getfield 17, 3) := by decide +kernel
theorem d_MaskEdges_shift_51 : decode prog_1_method_15_code 51 = .ok (.iload 4, 2) := by decide +kernel
theorem d_MaskEdges_shift_53 : decode prog_1_method_15_code 53 = .ok (.aaload, 1) := by decide +kernel
theorem d_MaskEdges_shift_54 : decode prog_1_method_15_code 54 = .ok (.astore 5, 2) := by decide +kernel
theorem d_MaskEdges_shift_56 : decode prog_1_method_15_code 56 = .ok (.aload 5, 2) := by decide +kernel
theorem d_MaskEdges_shift_58 : decode prog_1_method_15_code 58 = .ok (.iload_n 1, 1) := by decide +kernel
theorem d_MaskEdges_shift_59 : decode prog_1_method_15_code 59 = .ok (.invokevirtual 174, 3) := by decide +kernel
theorem d_MaskEdges_shift_62 : decode prog_1_method_15_code 62 = .ok (.ifCond .eq 23, 3) := by decide +kernel
theorem d_MaskEdges_shift_65 : decode prog_1_method_15_code 65 = .ok (.aload 5, 2) := by decide +kernel
theorem d_MaskEdges_shift_67 : decode prog_1_method_15_code 67 = .ok (.aload 5, 2) := by decide +kernel
theorem d_MaskEdges_shift_69 : decode prog_1_method_15_code 69 = .ok (.getfield 133, 3) := by decide +kernel
theorem d_MaskEdges_shift_72 : decode prog_1_method_15_code 72 = .ok (.iload_n 2, 1) := by decide +kernel
theorem d_MaskEdges_shift_73 : decode prog_1_method_15_code 73 = .ok (.iadd, 1) := by decide +kernel
theorem d_MaskEdges_shift_74 : decode prog_1_method_15_code 74 = .ok (.bipush 6, 2) := by decide +kernel
theorem d_MaskEdges_shift_76 : decode prog_1_method_15_code 76 = .ok (.invokevirtual 177, 3) := by decide +kernel
theorem d_MaskEdges_shift_79 : decode prog_1_method_15_code 79 = .ok (.ifCond .eq 6, 3) := by decide +kernel
theorem d_MaskEdges_shift_82 : decode prog_1_method_15_code 82 = .ok (.iinc 3 1, 3) := by decide +kernel
theorem d_MaskEdges_shift_85 : decode prog_1_method_15_code 85 = .ok (.iinc 4 1, 3) := by decide +kernel
theorem d_MaskEdges_shift_88 : decode prog_1_method_15_code 88 = .ok (.goto (-50), 3) := by decide +kernel
theorem d_MaskEdges_shift_91 : decode prog_1_method_15_code 91 = .ok (.aload_n 0, 1) := by decide +kernel
theorem d_MaskEdges_shift_92 : decode prog_1_method_15_code 92 = .ok (.invokevirtual 82, 3) := by decide +kernel
theorem d_MaskEdges_shift_95 : decode prog_1_method_15_code 95 = .ok (.iload_n 3, 1) := by decide +kernel
theorem d_MaskEdges_shift_96 : decode prog_1_method_15_code 96 = .ok (.ireturn, 1) := by decide +kernel
theorem d_MaskEdges_is_0 : decode prog_1_method_16_code 0 = .ok (.iload_n 3, 1) := by decide +kernel
theorem d_MaskEdges_is_1 : decode prog_1_method_16_code 1 = .ok (.tableswitch 63 0 2 #[27, 37, 47], 27) := by decide +kernel
theorem d_MaskEdges_is_28 : decode prog_1_method_16_code 28 = .ok (.aload_n 0, 1) := by decide +kernel
theorem d_MaskEdges_is_29 : decode prog_1_method_16_code 29 = .ok (.getfield 34, 3) := by decide +kernel
theorem d_MaskEdges_is_32 : decode prog_1_method_16_code 32 = .ok (.iload_n 1, 1) := by decide +kernel
theorem d_MaskEdges_is_33 : decode prog_1_method_16_code 33 = .ok (.iload_n 2, 1) := by decide +kernel
theorem d_MaskEdges_is_34 : decode prog_1_method_16_code 34 = .ok (.invokevirtual 180, 3) := by decide +kernel
theorem d_MaskEdges_is_37 : decode prog_1_method_16_code 37 = .ok (.ireturn, 1) := by decide +kernel
theorem d_MaskEdges_is_38 : decode prog_1_method_16_code 38 = .ok (.aload_n 0, 1) := by decide +kernel
theorem d_MaskEdges_is_39 : decode prog_1_method_16_code 39 = .ok (.getfield 41, 3) := by decide +kernel
theorem d_MaskEdges_is_42 : decode prog_1_method_16_code 42 = .ok (.iload_n 1, 1) := by decide +kernel
theorem d_MaskEdges_is_43 : decode prog_1_method_16_code 43 = .ok (.iload_n 2, 1) := by decide +kernel
theorem d_MaskEdges_is_44 : decode prog_1_method_16_code 44 = .ok (.invokevirtual 180, 3) := by decide +kernel
theorem d_MaskEdges_is_47 : decode prog_1_method_16_code 47 = .ok (.ireturn, 1) := by decide +kernel
theorem d_MaskEdges_is_48 : decode prog_1_method_16_code 48 = .ok (.aload_n 0, 1) := by decide +kernel
theorem d_MaskEdges_is_49 : decode prog_1_method_16_code 49 = .ok (.getfield 47, 3) := by decide +kernel
theorem d_MaskEdges_is_52 : decode prog_1_method_16_code 52 = .ok (.aload_n 0, 1) := by decide +kernel
theorem d_MaskEdges_is_53 : decode prog_1_method_16_code 53 = .ok (.getfield 41, 3) := by decide +kernel
theorem d_MaskEdges_is_56 : decode prog_1_method_16_code 56 = .ok (.iload_n 1, 1) := by decide +kernel
theorem d_MaskEdges_is_57 : decode prog_1_method_16_code 57 = .ok (.iload_n 2, 1) := by decide +kernel
theorem d_MaskEdges_is_58 : decode prog_1_method_16_code 58 = .ok (.bipush 100, 2) := by decide +kernel
theorem d_MaskEdges_is_60 : decode prog_1_method_16_code 60 = .ok (.invokevirtual 159, 3) := by decide +kernel
theorem d_MaskEdges_is_63 : decode prog_1_method_16_code 63 = .ok (.ireturn, 1) := by decide +kernel
theorem d_MaskEdges_is_64 : decode prog_1_method_16_code 64 = .ok (.iconst 0, 1) := by decide +kernel
theorem d_MaskEdges_is_65 : decode prog_1_method_16_code 65 = .ok (.ireturn, 1) := by decide +kernel
theorem d_MaskEdges_within_0 : decode prog_1_method_17_code 0 = .ok (.iload_n 0, 1) := by decide +kernel
theorem d_MaskEdges_within_1 : decode prog_1_method_17_code 1 = .ok (.iload_n 1, 1) := by decide +kernel
theorem d_MaskEdges_within_2 : decode prog_1_method_17_code 2 = .ok (.if_icmp .lt 12, 3) := by decide +kernel
theorem d_MaskEdges_within_5 : decode prog_1_method_17_code 5 = .ok (.iload_n 0, 1) := by decide +kernel
theorem d_MaskEdges_within_6 : decode prog_1_method_17_code 6 = .ok (.iload_n 2, 1) := by decide +kernel
theorem d_MaskEdges_within_7 : decode prog_1_method_17_code 7 = .ok (.if_icmp .gt 7, 3) := by decide +kernel
theorem d_MaskEdges_within_10 : decode prog_1_method_17_code 10 = .ok (.iconst 1, 1) := by decide +kernel
theorem d_MaskEdges_within_11 : decode prog_1_method_17_code 11 = .ok (.goto 4, 3) := by decide +kernel
theorem d_MaskEdges_within_14 : decode prog_1_method_17_code 14 = .ok (.iconst 0, 1) := by decide +kernel
theorem d_MaskEdges_within_15 : decode prog_1_method_17_code 15 = .ok (.ireturn, 1) := by decide +kernel
theorem d_MaskEdges_onGrid_0 : decode prog_1_method_18_code 0 = .ok (.iload_n 0, 1) := by decide +kernel
theorem d_MaskEdges_onGrid_1 : decode prog_1_method_18_code 1 = .ok (.ifCond .lt 23, 3) := by decide +kernel
theorem d_MaskEdges_onGrid_4 : decode prog_1_method_18_code 4 = .ok (.iload_n 0, 1) := by decide +kernel
theorem d_MaskEdges_onGrid_5 : decode prog_1_method_18_code 5 = .ok (.bipush 48, 2) := by decide +kernel
theorem d_MaskEdges_onGrid_7 : decode prog_1_method_18_code 7 = .ok (.if_icmp .ge 17, 3) := by decide +kernel
theorem d_MaskEdges_onGrid_10 : decode prog_1_method_18_code 10 = .ok (.iload_n 1, 1) := by decide +kernel
theorem d_MaskEdges_onGrid_11 : decode prog_1_method_18_code 11 = .ok (.ifCond .lt 13, 3) := by decide +kernel
theorem d_MaskEdges_onGrid_14 : decode prog_1_method_18_code 14 = .ok (.iload_n 1, 1) := by decide +kernel
theorem d_MaskEdges_onGrid_15 : decode prog_1_method_18_code 15 = .ok (.bipush 48, 2) := by decide +kernel
theorem d_MaskEdges_onGrid_17 : decode prog_1_method_18_code 17 = .ok (.if_icmp .ge 7, 3) := by decide +kernel
theorem d_MaskEdges_onGrid_20 : decode prog_1_method_18_code 20 = .ok (.iconst 1, 1) := by decide +kernel
theorem d_MaskEdges_onGrid_21 : decode prog_1_method_18_code 21 = .ok (.goto 4, 3) := by decide +kernel
theorem d_MaskEdges_onGrid_24 : decode prog_1_method_18_code 24 = .ok (.iconst 0, 1) := by decide +kernel
theorem d_MaskEdges_onGrid_25 : decode prog_1_method_18_code 25 = .ok (.ireturn, 1) := by decide +kernel
theorem d_MaskEdges_clamp_0 : decode prog_1_method_19_code 0 = .ok (.iload_n 1, 1) := by decide +kernel
theorem d_MaskEdges_clamp_1 : decode prog_1_method_19_code 1 = .ok (.ineg, 1) := by decide +kernel
theorem d_MaskEdges_clamp_2 : decode prog_1_method_19_code 2 = .ok (.iload_n 1, 1) := by decide +kernel
theorem d_MaskEdges_clamp_3 : decode prog_1_method_19_code 3 = .ok (.iload_n 0, 1) := by decide +kernel
theorem d_MaskEdges_clamp_4 : decode prog_1_method_19_code 4 = .ok (.invokestatic 183, 3) := by decide +kernel
theorem d_MaskEdges_clamp_7 : decode prog_1_method_19_code 7 = .ok (.invokestatic 188, 3) := by decide +kernel
theorem d_MaskEdges_clamp_10 : decode prog_1_method_19_code 10 = .ok (.ireturn, 1) := by decide +kernel
theorem d_MaskEdges_columnBits_0 : decode prog_1_method_20_code 0 = .ok (.iload_n 0, 1) := by decide +kernel
theorem d_MaskEdges_columnBits_1 : decode prog_1_method_20_code 1 = .ok (.ifCond .le 7, 3) := by decide +kernel
theorem d_MaskEdges_columnBits_4 : decode prog_1_method_20_code 4 = .ok (.iload_n 0, 1) := by decide +kernel
theorem d_MaskEdges_columnBits_5 : decode prog_1_method_20_code 5 = .ok (.goto 4, 3) := by decide +kernel
theorem d_MaskEdges_columnBits_8 : decode prog_1_method_20_code 8 = .ok (.iconst 0, 1) := by decide +kernel
theorem d_MaskEdges_columnBits_9 : decode prog_1_method_20_code 9 = .ok (.istore_n 2, 1) := by decide +kernel
theorem d_MaskEdges_columnBits_10 : decode prog_1_method_20_code 10 = .ok (.iload_n 1, 1) := by decide +kernel
theorem d_MaskEdges_columnBits_11 : decode prog_1_method_20_code 11 = .ok (.bipush 48, 2) := by decide +kernel
theorem d_MaskEdges_columnBits_13 : decode prog_1_method_20_code 13 = .ok (.if_icmp .ge 7, 3) := by decide +kernel
theorem d_MaskEdges_columnBits_16 : decode prog_1_method_20_code 16 = .ok (.iload_n 1, 1) := by decide +kernel
theorem d_MaskEdges_columnBits_17 : decode prog_1_method_20_code 17 = .ok (.goto 5, 3) := by decide +kernel
theorem d_MaskEdges_columnBits_20 : decode prog_1_method_20_code 20 = .ok (.bipush 48, 2) := by decide +kernel
theorem d_MaskEdges_columnBits_22 : decode prog_1_method_20_code 22 = .ok (.istore_n 3, 1) := by decide +kernel
theorem d_MaskEdges_columnBits_23 : decode prog_1_method_20_code 23 = .ok (.iload_n 2, 1) := by decide +kernel
theorem d_MaskEdges_columnBits_24 : decode prog_1_method_20_code 24 = .ok (.iload_n 3, 1) := by decide +kernel
theorem d_MaskEdges_columnBits_25 : decode prog_1_method_20_code 25 = .ok (.if_icmp .ge 13, 3) := by decide +kernel
theorem d_MaskEdges_columnBits_28 : decode prog_1_method_20_code 28 = .ok (.lconst 1, 1) := by decide +kernel
theorem d_MaskEdges_columnBits_29 : decode prog_1_method_20_code 29 = .ok (.iload_n 3, 1) := by decide +kernel
theorem d_MaskEdges_columnBits_30 : decode prog_1_method_20_code 30 = .ok (.lshl, 1) := by decide +kernel
theorem d_MaskEdges_columnBits_31 : decode prog_1_method_20_code 31 = .ok (.lconst 1, 1) := by decide +kernel
theorem d_MaskEdges_columnBits_32 : decode prog_1_method_20_code 32 = .ok (.iload_n 2, 1) := by decide +kernel
theorem d_MaskEdges_columnBits_33 : decode prog_1_method_20_code 33 = .ok (.lshl, 1) := by decide +kernel
theorem d_MaskEdges_columnBits_34 : decode prog_1_method_20_code 34 = .ok (.lsub, 1) := by decide +kernel
theorem d_MaskEdges_columnBits_35 : decode prog_1_method_20_code 35 = .ok (.goto 4, 3) := by decide +kernel
theorem d_MaskEdges_columnBits_38 : decode prog_1_method_20_code 38 = .ok (.lconst 0, 1) := by decide +kernel
theorem d_MaskEdges_columnBits_39 : decode prog_1_method_20_code 39 = .ok (.lreturn, 1) := by decide +kernel
theorem d_MaskEdges_isPiece_0 : decode prog_1_method_21_code 0 = .ok (.iload_n 1, 1) := by decide +kernel
theorem d_MaskEdges_isPiece_1 : decode prog_1_method_21_code 1 = .ok (.ifCond .lt 15, 3) := by decide +kernel
theorem d_MaskEdges_isPiece_4 : decode prog_1_method_21_code 4 = .ok (.iload_n 1, 1) := by decide +kernel
theorem d_MaskEdges_isPiece_5 : decode prog_1_method_21_code 5 = .ok (.aload_n 0, 1) := by decide +kernel
theorem d_MaskEdges_isPiece_6 : decode prog_1_method_21_code 6 = .ok (.getfield 61, 3) := by decide +kernel
theorem d_MaskEdges_isPiece_9 : decode prog_1_method_21_code 9 = .ok (.if_icmp .ge 7, 3) := by decide +kernel
theorem d_MaskEdges_isPiece_12 : decode prog_1_method_21_code 12 = .ok (.iconst 1, 1) := by decide +kernel
theorem d_MaskEdges_isPiece_13 : decode prog_1_method_21_code 13 = .ok (.goto 4, 3) := by decide +kernel
theorem d_MaskEdges_isPiece_16 : decode prog_1_method_21_code 16 = .ok (.iconst 0, 1) := by decide +kernel
theorem d_MaskEdges_isPiece_17 : decode prog_1_method_21_code 17 = .ok (.ireturn, 1) := by decide +kernel
theorem d_MaskEdges_addToTarget_0 : decode prog_1_method_22_code 0 = .ok (.iconst 0, 1) := by decide +kernel
theorem d_MaskEdges_addToTarget_1 : decode prog_1_method_22_code 1 = .ok (.istore_n 2, 1) := by decide +kernel
theorem d_MaskEdges_addToTarget_2 : decode prog_1_method_22_code 2 = .ok (.iload_n 2, 1) := by decide +kernel
theorem d_MaskEdges_addToTarget_3 : decode prog_1_method_22_code 3 = .ok (.bipush 48, 2) := by decide +kernel
theorem d_MaskEdges_addToTarget_5 : decode prog_1_method_22_code 5 = .ok (.if_icmp .ge 41, 3) := by decide +kernel
theorem d_MaskEdges_addToTarget_8 : decode prog_1_method_22_code 8 = .ok (.iconst 0, 1) := by decide +kernel
theorem d_MaskEdges_addToTarget_9 : decode prog_1_method_22_code 9 = .ok (.istore_n 3, 1) := by decide +kernel
theorem d_MaskEdges_addToTarget_10 : decode prog_1_method_22_code 10 = .ok (.iload_n 3, 1) := by decide +kernel
theorem d_MaskEdges_addToTarget_11 : decode prog_1_method_22_code 11 = .ok (.bipush 48, 2) := by decide +kernel
theorem d_MaskEdges_addToTarget_13 : decode prog_1_method_22_code 13 = .ok (.if_icmp .ge 27, 3) := by decide +kernel
theorem d_MaskEdges_addToTarget_16 : decode prog_1_method_22_code 16 = .ok (.aload_n 1, 1) := by decide +kernel
theorem d_MaskEdges_addToTarget_17 : decode prog_1_method_22_code 17 = .ok (.iload_n 3, 1) := by decide +kernel
theorem d_MaskEdges_addToTarget_18 : decode prog_1_method_22_code 18 = .ok (.iload_n 2, 1) := by decide +kernel
theorem d_MaskEdges_addToTarget_19 : decode prog_1_method_22_code 19 = .ok (.invokevirtual 191, 3) := by decide +kernel
theorem d_MaskEdges_addToTarget_22 : decode prog_1_method_22_code 22 = .ok (.ifCond .eq 12, 3) := by decide +kernel
theorem d_MaskEdges_addToTarget_25 : decode prog_1_method_22_code 25 = .ok (.aload_n 0, 1) := by decide +kernel
theorem d_MaskEdges_addToTarget_26 : decode prog_1_method_22_code 26 = .ok (.getfield 34, 3) := by decide +kernel
theorem d_MaskEdges_addToTarget_29 : decode prog_1_method_22_code 29 = .ok (.iload_n 3, 1) := by decide +kernel
theorem d_MaskEdges_addToTarget_30 : decode prog_1_method_22_code 30 = .ok (.iload_n 2, 1) := by decide +kernel
theorem d_MaskEdges_addToTarget_31 : decode prog_1_method_22_code 31 = .ok (.invokevirtual 194, 3) := by decide +kernel
theorem d_MaskEdges_addToTarget_34 : decode prog_1_method_22_code 34 = .ok (.iinc 3 1, 3) := by decide +kernel
theorem d_MaskEdges_addToTarget_37 : decode prog_1_method_22_code 37 = .ok (.goto (-27), 3) := by decide +kernel
theorem d_MaskEdges_addToTarget_40 : decode prog_1_method_22_code 40 = .ok (.iinc 2 1, 3) := by decide +kernel
theorem d_MaskEdges_addToTarget_43 : decode prog_1_method_22_code 43 = .ok (.goto (-41), 3) := by decide +kernel
theorem d_MaskEdges_addToTarget_46 : decode prog_1_method_22_code 46 = .ok (.return_, 1) := by decide +kernel
theorem d_MaskEdges_renewMask_0 : decode prog_1_method_23_code 0 = .ok (.aload_n 0, 1) := by decide +kernel
theorem d_MaskEdges_renewMask_1 : decode prog_1_method_23_code 1 = .ok (.getfield 41, 3) := by decide +kernel
theorem d_MaskEdges_renewMask_4 : decode prog_1_method_23_code 4 = .ok (.aload_n 0, 1) := by decide +kernel
theorem d_MaskEdges_renewMask_5 : decode prog_1_method_23_code 5 = .ok (.getfield 34, 3) := by decide +kernel
theorem d_MaskEdges_renewMask_8 : decode prog_1_method_23_code 8 = .ok (.invokevirtual 198, 3) := by decide +kernel
theorem d_MaskEdges_renewMask_11 : decode prog_1_method_23_code 11 = .ok (.iconst 0, 1) := by decide +kernel
theorem d_MaskEdges_renewMask_12 : decode prog_1_method_23_code 12 = .ok (.istore_n 1, 1) := by decide +kernel
theorem d_MaskEdges_renewMask_13 : decode prog_1_method_23_code 13 = .ok (.iload_n 1, 1) := by decide +kernel
theorem d_MaskEdges_renewMask_14 : decode prog_1_method_23_code 14 = .ok (.aload_n 0, 1) := by decide +kernel
theorem d_MaskEdges_renewMask_15 : decode prog_1_method_23_code 15 = .ok (.getfield 61, 3) := by decide +kernel
theorem d_MaskEdges_renewMask_18 : decode prog_1_method_23_code 18 = .ok (.if_icmp .ge 19, 3) := by decide +kernel
theorem d_MaskEdges_renewMask_21 : decode prog_1_method_23_code 21 = .ok (.aload_n 0, 1) := by decide +kernel
theorem d_MaskEdges_renewMask_22 : decode prog_1_method_23_code 22 = .ok (.aload_n 0, 1) := by decide +kernel
theorem d_MaskEdges_renewMask_23 : decode prog_1_method_23_code 23 = .ok (.getfield 17, 3) := by decide +kernel
theorem d_MaskEdges_renewMask_26 : decode prog_1_method_23_code 26 = .ok (.iload_n 1, 1) := by decide +kernel
theorem d_MaskEdges_renewMask_27 : decode prog_1_method_23_code 27 = .ok (.aaload, 1) := by decide +kernel
theorem d_MaskEdges_renewMask_28 : decode prog_1_method_23_code 28 = .ok (.invokevirtual 202, 3) := by decide +kernel
theorem d_MaskEdges_renewMask_31 : decode prog_1_method_23_code 31 = .ok (.iinc 1 1, 3) := by decide +kernel
theorem d_MaskEdges_renewMask_34 : decode prog_1_method_23_code 34 = .ok (.goto (-21), 3) := by decide +kernel
theorem d_MaskEdges_renewMask_37 : decode prog_1_method_23_code 37 = .ok (.aload_n 0, 1) := by decide +kernel
theorem d_MaskEdges_renewMask_38 : decode prog_1_method_23_code 38 = .ok (.getfield 41, 3) := by decide +kernel
theorem d_MaskEdges_renewMask_41 : decode prog_1_method_23_code 41 = .ok (.aload_n 0, 1) := by decide +kernel
theorem d_MaskEdges_renewMask_42 : decode prog_1_method_23_code 42 = .ok (.getfield 38, 3) := by decide +kernel
theorem d_MaskEdges_renewMask_45 : decode prog_1_method_23_code 45 = .ok (.invokevirtual 206, 3) := by decide +kernel
theorem d_MaskEdges_renewMask_48 : decode prog_1_method_23_code 48 = .ok (.return_, 1) := by decide +kernel
theorem d_MaskEdges_applyMove_0 : decode prog_1_method_24_code 0 = .ok (.aload_n 1, 1) := by decide +kernel
theorem d_MaskEdges_applyMove_1 : decode prog_1_method_24_code 1 = .ok (.getfield 133, 3) := by decide +kernel
theorem d_MaskEdges_applyMove_4 : decode prog_1_method_24_code 4 = .ok (.ifCond .le 42, 3) := by decide +kernel
theorem d_MaskEdges_applyMove_7 : decode prog_1_method_24_code 7 = .ok (.aload_n 0, 1) := by decide +kernel
theorem d_MaskEdges_applyMove_8 : decode prog_1_method_24_code 8 = .ok (.getfield 55, 3) := by decide +kernel
theorem d_MaskEdges_applyMove_11 : decode prog_1_method_24_code 11 = .ok (.aload_n 1, 1) := by decide +kernel
theorem d_MaskEdges_applyMove_12 : decode prog_1_method_24_code 12 = .ok (.aload_n 1, 1) := by decide +kernel
theorem d_MaskEdges_applyMove_13 : decode prog_1_method_24_code 13 = .ok (.getfield 209, 3) := by decide +kernel
theorem d_MaskEdges_applyMove_16 : decode prog_1_method_24_code 16 = .ok (.aload_n 1, 1) := by decide +kernel
theorem d_MaskEdges_applyMove_17 : decode prog_1_method_24_code 17 = .ok (.getfield 212, 3) := by decide +kernel
theorem d_MaskEdges_applyMove_20 : decode prog_1_method_24_code 20 = .ok (.aload_n 1, 1) := by decide +kernel
theorem d_MaskEdges_applyMove_21 : decode prog_1_method_24_code 21 = .ok (.getfield 215, 3) := by decide +kernel
theorem d_MaskEdges_applyMove_24 : decode prog_1_method_24_code 24 = .ok (.iconst 0, 1) := by decide +kernel
theorem d_MaskEdges_applyMove_25 : decode prog_1_method_24_code 25 = .ok (.aload_n 1, 1) := by decide +kernel
theorem d_MaskEdges_applyMove_26 : decode prog_1_method_24_code 26 = .ok (.getfield 133, 3) := by decide +kernel
theorem d_MaskEdges_applyMove_29 : decode prog_1_method_24_code 29 = .ok (.invokevirtual 218, 3) := by decide +kernel
theorem d_MaskEdges_applyMove_32 : decode prog_1_method_24_code 32 = .ok (.aload_n 0, 1) := by decide +kernel
theorem d_MaskEdges_applyMove_33 : decode prog_1_method_24_code 33 = .ok (.getfield 41, 3) := by decide +kernel
theorem d_MaskEdges_applyMove_36 : decode prog_1_method_24_code 36 = .ok (.aload_n 0, 1) := by decide +kernel
theorem d_MaskEdges_applyMove_37 : decode prog_1_method_24_code 37 = .ok (.getfield 55, 3) := by decide +kernel
theorem d_MaskEdges_applyMove_40 : decode prog_1_method_24_code 40 = .ok (.invokevirtual 222, 3) := by decide +kernel
theorem d_MaskEdges_applyMove_43 : decode prog_1_method_24_code 43 = .ok (.goto 48, 3) := by decide +kernel
theorem d_MaskEdges_applyMove_46 : decode prog_1_method_24_code 46 = .ok (.aload_n 1, 1) := by decide +kernel
theorem d_MaskEdges_applyMove_47 : decode prog_1_method_24_code 47 = .ok (.getfield 133, 3) := by decide +kernel
theorem d_MaskEdges_applyMove_50 : decode prog_1_method_24_code 50 = .ok (.ifCond .ge 41, 3) := by decide +kernel
theorem d_MaskEdges_applyMove_53 : decode prog_1_method_24_code 53 = .ok (.aload_n 0, 1) := by decide +kernel
theorem d_MaskEdges_applyMove_54 : decode prog_1_method_24_code 54 = .ok (.getfield 55, 3) := by decide +kernel
theorem d_MaskEdges_applyMove_57 : decode prog_1_method_24_code 57 = .ok (.aload_n 1, 1) := by decide +kernel
theorem d_MaskEdges_applyMove_58 : decode prog_1_method_24_code 58 = .ok (.aload_n 1, 1) := by decide +kernel
theorem d_MaskEdges_applyMove_59 : decode prog_1_method_24_code 59 = .ok (.getfield 209, 3) := by decide +kernel
theorem d_MaskEdges_applyMove_62 : decode prog_1_method_24_code 62 = .ok (.aload_n 1, 1) := by decide +kernel
theorem d_MaskEdges_applyMove_63 : decode prog_1_method_24_code 63 = .ok (.getfield 212, 3) := by decide +kernel
theorem d_MaskEdges_applyMove_66 : decode prog_1_method_24_code 66 = .ok (.aload_n 1, 1) := by decide +kernel
theorem d_MaskEdges_applyMove_67 : decode prog_1_method_24_code 67 = .ok (.getfield 215, 3) := by decide +kernel
theorem d_MaskEdges_applyMove_70 : decode prog_1_method_24_code 70 = .ok (.ineg, 1) := by decide +kernel
theorem d_MaskEdges_applyMove_71 : decode prog_1_method_24_code 71 = .ok (.iconst 0, 1) := by decide +kernel
theorem d_MaskEdges_applyMove_72 : decode prog_1_method_24_code 72 = .ok (.aload_n 1, 1) := by decide +kernel
theorem d_MaskEdges_applyMove_73 : decode prog_1_method_24_code 73 = .ok (.getfield 133, 3) := by decide +kernel
theorem d_MaskEdges_applyMove_76 : decode prog_1_method_24_code 76 = .ok (.ineg, 1) := by decide +kernel
theorem d_MaskEdges_applyMove_77 : decode prog_1_method_24_code 77 = .ok (.invokevirtual 218, 3) := by decide +kernel
theorem d_MaskEdges_applyMove_80 : decode prog_1_method_24_code 80 = .ok (.aload_n 0, 1) := by decide +kernel
theorem d_MaskEdges_applyMove_81 : decode prog_1_method_24_code 81 = .ok (.getfield 41, 3) := by decide +kernel
theorem d_MaskEdges_applyMove_84 : decode prog_1_method_24_code 84 = .ok (.aload_n 0, 1) := by decide +kernel
theorem d_MaskEdges_applyMove_85 : decode prog_1_method_24_code 85 = .ok (.getfield 55, 3) := by decide +kernel
theorem d_MaskEdges_applyMove_88 : decode prog_1_method_24_code 88 = .ok (.invokevirtual 226, 3) := by decide +kernel
theorem d_MaskEdges_applyMove_91 : decode prog_1_method_24_code 91 = .ok (.return_, 1) := by decide +kernel
theorem d_MaskEdges_piecesFor_0 : decode prog_1_method_25_code 0 = .ok (.iconst 0, 1) := by decide +kernel
theorem d_MaskEdges_piecesFor_1 : decode prog_1_method_25_code 1 = .ok (.istore_n 2, 1) := by decide +kernel
theorem d_MaskEdges_piecesFor_2 : decode prog_1_method_25_code 2 = .ok (.iconst 0, 1) := by decide +kernel
theorem d_MaskEdges_piecesFor_3 : decode prog_1_method_25_code 3 = .ok (.istore_n 3, 1) := by decide +kernel
theorem d_MaskEdges_piecesFor_4 : decode prog_1_method_25_code 4 = .ok (.iload_n 3, 1) := by decide +kernel
theorem d_MaskEdges_piecesFor_5 : decode prog_1_method_25_code 5 = .ok (.aload_n 0, 1) := by decide +kernel
theorem d_MaskEdges_piecesFor_6 : decode prog_1_method_25_code 6 = .ok (.getfield 65, 3) := by decide +kernel
theorem d_MaskEdges_piecesFor_9 : decode prog_1_method_25_code 9 = .ok (.if_icmp .ge 55, 3) := by decide +kernel
theorem d_MaskEdges_piecesFor_12 : decode prog_1_method_25_code 12 = .ok (.aload_n 0, 1) := by decide +kernel
theorem d_MaskEdges_piecesFor_13 : decode prog_1_method_25_code 13 = .ok (.getfield 11, 3) := by decide +kernel
theorem d_MaskEdges_piecesFor_16 : decode prog_1_method_25_code 16 = .ok (.iload_n 3, 1) := by decide +kernel
theorem d_MaskEdges_piecesFor_17 : decode prog_1_method_25_code 17 = .ok (.aaload, 1) := by decide +kernel
theorem d_MaskEdges_piecesFor_18 : decode prog_1_method_25_code 18 = .ok (.astore 4, 2) := by decide +kernel
theorem d_MaskEdges_piecesFor_20 : decode prog_1_method_25_code 20 = .ok (.iconst 0, 1) := by decide +kernel
theorem d_MaskEdges_piecesFor_21 : decode prog_1_method_25_code 21 = .ok (.istore 5, 2) := by decide +kernel
theorem d_MaskEdges_piecesFor_23 : decode prog_1_method_25_code 23 = .ok (.aload 4, 2) := by decide +kernel
theorem d_MaskEdges_piecesFor_25 : decode prog_1_method_25_code 25 = .ok (.getfield 74, 3) := by decide +kernel
theorem d_MaskEdges_piecesFor_28 : decode prog_1_method_25_code 28 = .ok (.ifCond .eq 30, 3) := by decide +kernel
theorem d_MaskEdges_piecesFor_31 : decode prog_1_method_25_code 31 = .ok (.iload 5, 2) := by decide +kernel
theorem d_MaskEdges_piecesFor_33 : decode prog_1_method_25_code 33 = .ok (.aload 4, 2) := by decide +kernel
theorem d_MaskEdges_piecesFor_35 : decode prog_1_method_25_code 35 = .ok (.getfield 229, 3) := by decide +kernel
theorem d_MaskEdges_piecesFor_38 : decode prog_1_method_25_code 38 = .ok (.if_icmp .ge 20, 3) := by decide +kernel
theorem d_MaskEdges_piecesFor_41 : decode prog_1_method_25_code 41 = .ok (.iload_n 2, 1) := by decide +kernel
theorem d_MaskEdges_piecesFor_42 : decode prog_1_method_25_code 42 = .ok (.aload 4, 2) := by decide +kernel
theorem d_MaskEdges_piecesFor_44 : decode prog_1_method_25_code 44 = .ok (.iload 5, 2) := by decide +kernel
theorem d_MaskEdges_piecesFor_46 : decode prog_1_method_25_code 46 = .ok (.iload_n 1, 1) := by decide +kernel
theorem d_MaskEdges_piecesFor_47 : decode prog_1_method_25_code 47 = .ok (.invokevirtual 232, 3) := by decide +kernel
theorem d_MaskEdges_piecesFor_50 : decode prog_1_method_25_code 50 = .ok (.iadd, 1) := by decide +kernel
theorem d_MaskEdges_piecesFor_51 : decode prog_1_method_25_code 51 = .ok (.istore_n 2, 1) := by decide +kernel
theorem d_MaskEdges_piecesFor_52 : decode prog_1_method_25_code 52 = .ok (.iinc 5 1, 3) := by decide +kernel
theorem d_MaskEdges_piecesFor_55 : decode prog_1_method_25_code 55 = .ok (.goto (-32), 3) := by decide +kernel
theorem d_MaskEdges_piecesFor_58 : decode prog_1_method_25_code 58 = .ok (.iinc 3 1, 3) := by decide +kernel
theorem d_MaskEdges_piecesFor_61 : decode prog_1_method_25_code 61 = .ok (.goto (-57), 3) := by decide +kernel
theorem d_MaskEdges_piecesFor_64 : decode prog_1_method_25_code 64 = .ok (.iload_n 2, 1) := by decide +kernel
theorem d_MaskEdges_piecesFor_65 : decode prog_1_method_25_code 65 = .ok (.ireturn, 1) := by decide +kernel
theorem d_MaskEdges_cutOutline_0 : decode prog_1_method_26_code 0 = .ok (.iconst 0, 1) := by decide +kernel
theorem d_MaskEdges_cutOutline_1 : decode prog_1_method_26_code 1 = .ok (.istore_n 3, 1) := by decide +kernel
theorem d_MaskEdges_cutOutline_2 : decode prog_1_method_26_code 2 = .ok (.aload_n 1, 1) := by decide +kernel
theorem d_MaskEdges_cutOutline_3 : decode prog_1_method_26_code 3 = .ok (.getfield 74, 3) := by decide +kernel
theorem d_MaskEdges_cutOutline_6 : decode prog_1_method_26_code 6 = .ok (.ifCond .eq 78, 3) := by decide +kernel
theorem d_MaskEdges_cutOutline_9 : decode prog_1_method_26_code 9 = .ok (.iload_n 3, 1) := by decide +kernel
theorem d_MaskEdges_cutOutline_10 : decode prog_1_method_26_code 10 = .ok (.aload_n 1, 1) := by decide +kernel
theorem d_MaskEdges_cutOutline_11 : decode prog_1_method_26_code 11 = .ok (.getfield 229, 3) := by decide +kernel
theorem d_MaskEdges_cutOutline_14 : decode prog_1_method_26_code 14 = .ok (.if_icmp .ge 70, 3) := by decide +kernel
theorem d_MaskEdges_cutOutline_17 : decode prog_1_method_26_code 17 = .ok (.aload_n 1, 1) := by decide +kernel
theorem d_MaskEdges_cutOutline_18 : decode prog_1_method_26_code 18 = .ok (.iload_n 3, 1) := by decide +kernel
theorem d_MaskEdges_cutOutline_19 : decode prog_1_method_26_code 19 = .ok (.iload_n 2, 1) := by decide +kernel
theorem d_MaskEdges_cutOutline_20 : decode prog_1_method_26_code 20 = .ok (.invokevirtual 232, 3) := by decide +kernel
theorem d_MaskEdges_cutOutline_23 : decode prog_1_method_26_code 23 = .ok (.istore 4, 2) := by decide +kernel
theorem d_MaskEdges_cutOutline_25 : decode prog_1_method_26_code 25 = .ok (.iconst 0, 1) := by decide +kernel
theorem d_MaskEdges_cutOutline_26 : decode prog_1_method_26_code 26 = .ok (.istore 5, 2) := by decide +kernel
theorem d_MaskEdges_cutOutline_28 : decode prog_1_method_26_code 28 = .ok (.iload 5, 2) := by decide +kernel
theorem d_MaskEdges_cutOutline_30 : decode prog_1_method_26_code 30 = .ok (.iload 4, 2) := by decide +kernel
theorem d_MaskEdges_cutOutline_32 : decode prog_1_method_26_code 32 = .ok (.if_icmp .ge 46, 3) := by decide +kernel
theorem d_MaskEdges_cutOutline_35 : decode prog_1_method_26_code 35 = .ok (.aload_n 0, 1) := by decide +kernel
theorem d_MaskEdges_cutOutline_36 : decode prog_1_method_26_code 36 = .ok (.getfield 61, 3) := by decide +kernel
theorem d_MaskEdges_cutOutline_39 : decode prog_1_method_26_code 39 = .ok (.bipush 120, 2) := by decide +kernel
theorem d_MaskEdges_cutOutline_41 : decode prog_1_method_26_code 41 = .ok (.if_icmp .ge 37, 3) := by decide +kernel
theorem d_MaskEdges_cutOutline_44 : decode prog_1_method_26_code 44 = .ok (.aload_n 0, 1) := by decide +kernel
theorem d_MaskEdges_cutOutline_45 : decode prog_1_method_26_code 45 = .ok (.getfield 17, 3) := by decide +kernel
theorem d_MaskEdges_cutOutline_48 : decode prog_1_method_26_code 48 = .ok (.aload_n 0, 1) := by decide +kernel
theorem d_MaskEdges_cutOutline_49 : decode prog_1_method_26_code 49 = .ok (.getfield 61, 3) := by decide +kernel
theorem d_MaskEdges_cutOutline_52 : decode prog_1_method_26_code 52 = .ok (.aaload, 1) := by decide +kernel
theorem d_MaskEdges_cutOutline_53 : decode prog_1_method_26_code 53 = .ok (.aload_n 1, 1) := by decide +kernel
theorem d_MaskEdges_cutOutline_54 : decode prog_1_method_26_code 54 = .ok (.iload_n 3, 1) := by decide +kernel
theorem d_MaskEdges_cutOutline_55 : decode prog_1_method_26_code 55 = .ok (.iload 5, 2) := by decide +kernel
theorem d_MaskEdges_cutOutline_57 : decode prog_1_method_26_code 57 = .ok (.iload 4, 2) := by decide +kernel
theorem d_MaskEdges_cutOutline_59 : decode prog_1_method_26_code 59 = .ok (.invokevirtual 235, 3) := by decide +kernel
theorem d_MaskEdges_cutOutline_62 : decode prog_1_method_26_code 62 = .ok (.aload_n 0, 1) := by decide +kernel
theorem d_MaskEdges_cutOutline_63 : decode prog_1_method_26_code 63 = .ok (.dup, 1) := by decide +kernel
theorem d_MaskEdges_cutOutline_64 : decode prog_1_method_26_code 64 = .ok (.getfield 61, 3) := by decide +kernel
theorem d_MaskEdges_cutOutline_67 : decode prog_1_method_26_code 67 = .ok (.iconst 1, 1) := by decide +kernel
theorem d_MaskEdges_cutOutline_68 : decode prog_1_method_26_code 68 = .ok (.iadd, 1) := by decide +kernel
theorem d_MaskEdges_cutOutline_69 : decode prog_1_method_26_code 69 = .ok (.putfield 61, 3) := by decide +kernel
theorem d_MaskEdges_cutOutline_72 : decode prog_1_method_26_code 72 = .ok (.iinc 5 1, 3) := by decide +kernel
theorem d_MaskEdges_cutOutline_75 : decode prog_1_method_26_code 75 = .ok (.goto (-47), 3) := by decide +kernel
theorem d_MaskEdges_cutOutline_78 : decode prog_1_method_26_code 78 = .ok (.iinc 3 1, 3) := by decide +kernel
theorem d_MaskEdges_cutOutline_81 : decode prog_1_method_26_code 81 = .ok (.goto (-79), 3) := by decide +kernel
theorem d_MaskEdges_cutOutline_84 : decode prog_1_method_26_code 84 = .ok (.return_, 1) := by decide +kernel
theorem d_MaskEdges_errorOf_0 : decode prog_1_method_27_code 0 = .ok (.aload_n 1, 1) := by decide +kernel
theorem d_MaskEdges_errorOf_1 : decode prog_1_method_27_code 1 = .ok (.invokevirtual 163, 3) := by decide +kernel
theorem d_MaskEdges_errorOf_4 : decode prog_1_method_27_code 4 = .ok (.ifCond .eq 5, 3) := by decide +kernel
theorem d_MaskEdges_errorOf_7 : decode prog_1_method_27_code 7 = .ok (.iconst 0, 1) := by decide +kernel
theorem d_MaskEdges_errorOf_8 : decode prog_1_method_27_code 8 = .ok (.ireturn, 1) := by decide +kernel
theorem d_MaskEdges_errorOf_9 : decode prog_1_method_27_code 9 = .ok (.aload_n 0, 1) := by decide +kernel
theorem d_MaskEdges_errorOf_10 : decode prog_1_method_27_code 10 = .ok (.getfield 47, 3) := by decide +kernel
theorem d_MaskEdges_errorOf_13 : decode prog_1_method_27_code 13 = .ok (.aload_n 0, 1) := by decide +kernel
theorem d_MaskEdges_errorOf_14 : decode prog_1_method_27_code 14 = .ok (.getfield 41, 3) := by decide +kernel
theorem d_MaskEdges_errorOf_17 : decode prog_1_method_27_code 17 = .ok (.aload_n 1, 1) := by decide +kernel
theorem d_MaskEdges_errorOf_18 : decode prog_1_method_27_code 18 = .ok (.getfield 239, 3) := by decide +kernel
theorem d_MaskEdges_errorOf_21 : decode prog_1_method_27_code 21 = .ok (.aload_n 1, 1) := by decide +kernel
theorem d_MaskEdges_errorOf_22 : decode prog_1_method_27_code 22 = .ok (.getfield 242, 3) := by decide +kernel
theorem d_MaskEdges_errorOf_25 : decode prog_1_method_27_code 25 = .ok (.iload_n 2, 1) := by decide +kernel
theorem d_MaskEdges_errorOf_26 : decode prog_1_method_27_code 26 = .ok (.invokevirtual 159, 3) := by decide +kernel
theorem d_MaskEdges_errorOf_29 : decode prog_1_method_27_code 29 = .ok (.istore_n 3, 1) := by decide +kernel
theorem d_MaskEdges_errorOf_30 : decode prog_1_method_27_code 30 = .ok (.iload_n 3, 1) := by decide +kernel
theorem d_MaskEdges_errorOf_31 : decode prog_1_method_27_code 31 = .ok (.ifCond .eq 10, 3) := by decide +kernel
theorem d_MaskEdges_errorOf_34 : decode prog_1_method_27_code 34 = .ok (.aload_n 1, 1) := by decide +kernel
theorem d_MaskEdges_errorOf_35 : decode prog_1_method_27_code 35 = .ok (.getfield 215, 3) := by decide +kernel
theorem d_MaskEdges_errorOf_38 : decode prog_1_method_27_code 38 = .ok (.goto 8, 3) := by decide +kernel
theorem d_MaskEdges_errorOf_41 : decode prog_1_method_27_code 41 = .ok (.aload_n 1, 1) := by decide +kernel
theorem d_MaskEdges_errorOf_42 : decode prog_1_method_27_code 42 = .ok (.getfield 215, 3) := by decide +kernel
theorem d_MaskEdges_errorOf_45 : decode prog_1_method_27_code 45 = .ok (.ineg, 1) := by decide +kernel
theorem d_MaskEdges_errorOf_46 : decode prog_1_method_27_code 46 = .ok (.istore 4, 2) := by decide +kernel
theorem d_MaskEdges_errorOf_48 : decode prog_1_method_27_code 48 = .ok (.aload_n 1, 1) := by decide +kernel
theorem d_MaskEdges_errorOf_49 : decode prog_1_method_27_code 49 = .ok (.getfield 245, 3) := by decide +kernel
theorem d_MaskEdges_errorOf_52 : decode prog_1_method_27_code 52 = .ok (.ifCond .eq 7, 3) := by decide +kernel
theorem d_MaskEdges_errorOf_55 : decode prog_1_method_27_code 55 = .ok (.iconst 0, 1) := by decide +kernel
theorem d_MaskEdges_errorOf_56 : decode prog_1_method_27_code 56 = .ok (.goto 5, 3) := by decide +kernel
theorem d_MaskEdges_errorOf_59 : decode prog_1_method_27_code 59 = .ok (.iload 4, 2) := by decide +kernel
theorem d_MaskEdges_errorOf_61 : decode prog_1_method_27_code 61 = .ok (.istore 5, 2) := by decide +kernel
theorem d_MaskEdges_errorOf_63 : decode prog_1_method_27_code 63 = .ok (.aload_n 1, 1) := by decide +kernel
theorem d_MaskEdges_errorOf_64 : decode prog_1_method_27_code 64 = .ok (.getfield 245, 3) := by decide +kernel
theorem d_MaskEdges_errorOf_67 : decode prog_1_method_27_code 67 = .ok (.ifCond .eq 8, 3) := by decide +kernel
theorem d_MaskEdges_errorOf_70 : decode prog_1_method_27_code 70 = .ok (.iload 4, 2) := by decide +kernel
theorem d_MaskEdges_errorOf_72 : decode prog_1_method_27_code 72 = .ok (.goto 4, 3) := by decide +kernel
theorem d_MaskEdges_errorOf_75 : decode prog_1_method_27_code 75 = .ok (.iconst 0, 1) := by decide +kernel
theorem d_MaskEdges_errorOf_76 : decode prog_1_method_27_code 76 = .ok (.istore 6, 2) := by decide +kernel
theorem d_MaskEdges_errorOf_78 : decode prog_1_method_27_code 78 = .ok (.iload_n 3, 1) := by decide +kernel
theorem d_MaskEdges_errorOf_79 : decode prog_1_method_27_code 79 = .ok (.ifCond .eq 13, 3) := by decide +kernel
theorem d_MaskEdges_errorOf_82 : decode prog_1_method_27_code 82 = .ok (.aload_n 1, 1) := by decide +kernel
theorem d_MaskEdges_errorOf_83 : decode prog_1_method_27_code 83 = .ok (.getfield 239, 3) := by decide +kernel
theorem d_MaskEdges_errorOf_86 : decode prog_1_method_27_code 86 = .ok (.iload 5, 2) := by decide +kernel
theorem d_MaskEdges_errorOf_88 : decode prog_1_method_27_code 88 = .ok (.iadd, 1) := by decide +kernel
theorem d_MaskEdges_errorOf_89 : decode prog_1_method_27_code 89 = .ok (.goto 7, 3) := by decide +kernel
theorem d_MaskEdges_errorOf_92 : decode prog_1_method_27_code 92 = .ok (.aload_n 1, 1) := by decide +kernel
theorem d_MaskEdges_errorOf_93 : decode prog_1_method_27_code 93 = .ok (.getfield 239, 3) := by decide +kernel
theorem d_MaskEdges_errorOf_96 : decode prog_1_method_27_code 96 = .ok (.istore 7, 2) := by decide +kernel
theorem d_MaskEdges_errorOf_98 : decode prog_1_method_27_code 98 = .ok (.iload_n 3, 1) := by decide +kernel
theorem d_MaskEdges_errorOf_99 : decode prog_1_method_27_code 99 = .ok (.ifCond .eq 13, 3) := by decide +kernel
theorem d_MaskEdges_errorOf_102 : decode prog_1_method_27_code 102 = .ok (.aload_n 1, 1) := by decide +kernel
theorem d_MaskEdges_errorOf_103 : decode prog_1_method_27_code 103 = .ok (.getfield 242, 3) := by decide +kernel
theorem d_MaskEdges_errorOf_106 : decode prog_1_method_27_code 106 = .ok (.iload 6, 2) := by decide +kernel
theorem d_MaskEdges_errorOf_108 : decode prog_1_method_27_code 108 = .ok (.iadd, 1) := by decide +kernel
theorem d_MaskEdges_errorOf_109 : decode prog_1_method_27_code 109 = .ok (.goto 7, 3) := by decide +kernel
theorem d_MaskEdges_errorOf_112 : decode prog_1_method_27_code 112 = .ok (.aload_n 1, 1) := by decide +kernel
theorem d_MaskEdges_errorOf_113 : decode prog_1_method_27_code 113 = .ok (.getfield 242, 3) := by decide +kernel
theorem d_MaskEdges_errorOf_116 : decode prog_1_method_27_code 116 = .ok (.istore 8, 2) := by decide +kernel
theorem d_MaskEdges_errorOf_118 : decode prog_1_method_27_code 118 = .ok (.iconst 0, 1) := by decide +kernel
theorem d_MaskEdges_errorOf_119 : decode prog_1_method_27_code 119 = .ok (.istore 9, 2) := by decide +kernel
theorem d_MaskEdges_errorOf_121 : decode prog_1_method_27_code 121 = .ok (.iload 9, 2) := by decide +kernel
theorem d_MaskEdges_errorOf_123 : decode prog_1_method_27_code 123 = .ok (.bipush 8, 2) := by decide +kernel
theorem d_MaskEdges_errorOf_125 : decode prog_1_method_27_code 125 = .ok (.if_icmp .ge 53, 3) := by decide +kernel
theorem d_MaskEdges_errorOf_128 : decode prog_1_method_27_code 128 = .ok (.iload 7, 2) := by decide +kernel
theorem d_MaskEdges_errorOf_130 : decode prog_1_method_27_code 130 = .ok (.iload 8, 2) := by decide +kernel
theorem d_MaskEdges_errorOf_132 : decode prog_1_method_27_code 132 = .ok (.invokestatic 101, 3) := by decide +kernel
theorem d_MaskEdges_errorOf_135 : decode prog_1_method_27_code 135 = .ok (.ifCond .eq 43, 3) := by decide +kernel
theorem d_MaskEdges_errorOf_138 : decode prog_1_method_27_code 138 = .ok (.aload_n 0, 1) := by decide +kernel
theorem d_MaskEdges_errorOf_139 : decode prog_1_method_27_code 139 = .ok (.getfield 47, 3) := by decide +kernel
theorem d_MaskEdges_errorOf_142 : decode prog_1_method_27_code 142 = .ok (.aload_n 0, 1) := by decide +kernel
theorem d_MaskEdges_errorOf_143 : decode prog_1_method_27_code 143 = .ok (.getfield 41, 3) := by decide +kernel
theorem d_MaskEdges_errorOf_146 : decode prog_1_method_27_code 146 = .ok (.iload 7, 2) := by decide +kernel
theorem d_MaskEdges_errorOf_148 : decode prog_1_method_27_code 148 = .ok (.iload 8, 2) := by decide +kernel
theorem d_MaskEdges_errorOf_150 : decode prog_1_method_27_code 150 = .ok (.iload_n 2, 1) := by decide +kernel
theorem d_MaskEdges_errorOf_151 : decode prog_1_method_27_code 151 = .ok (.invokevirtual 159, 3) := by decide +kernel
theorem d_MaskEdges_errorOf_154 : decode prog_1_method_27_code 154 = .ok (.iload_n 3, 1) := by decide +kernel
theorem d_MaskEdges_errorOf_155 : decode prog_1_method_27_code 155 = .ok (.if_icmp .ne 23, 3) := by decide +kernel
theorem d_MaskEdges_errorOf_158 : decode prog_1_method_27_code 158 = .ok (.iinc 9 1, 3) := by decide +kernel
theorem d_MaskEdges_errorOf_161 : decode prog_1_method_27_code 161 = .ok (.iload 7, 2) := by decide +kernel
theorem d_MaskEdges_errorOf_163 : decode prog_1_method_27_code 163 = .ok (.iload 5, 2) := by decide +kernel
theorem d_MaskEdges_errorOf_165 : decode prog_1_method_27_code 165 = .ok (.iadd, 1) := by decide +kernel
theorem d_MaskEdges_errorOf_166 : decode prog_1_method_27_code 166 = .ok (.istore 7, 2) := by decide +kernel
theorem d_MaskEdges_errorOf_168 : decode prog_1_method_27_code 168 = .ok (.iload 8, 2) := by decide +kernel
theorem d_MaskEdges_errorOf_170 : decode prog_1_method_27_code 170 = .ok (.iload 6, 2) := by decide +kernel
theorem d_MaskEdges_errorOf_172 : decode prog_1_method_27_code 172 = .ok (.iadd, 1) := by decide +kernel
theorem d_MaskEdges_errorOf_173 : decode prog_1_method_27_code 173 = .ok (.istore 8, 2) := by decide +kernel
theorem d_MaskEdges_errorOf_175 : decode prog_1_method_27_code 175 = .ok (.goto (-54), 3) := by decide +kernel
theorem d_MaskEdges_errorOf_178 : decode prog_1_method_27_code 178 = .ok (.iload_n 3, 1) := by decide +kernel
theorem d_MaskEdges_errorOf_179 : decode prog_1_method_27_code 179 = .ok (.ifCond .eq 8, 3) := by decide +kernel
theorem d_MaskEdges_errorOf_182 : decode prog_1_method_27_code 182 = .ok (.iload 9, 2) := by decide +kernel
theorem d_MaskEdges_errorOf_184 : decode prog_1_method_27_code 184 = .ok (.goto 6, 3) := by decide +kernel
theorem d_MaskEdges_errorOf_187 : decode prog_1_method_27_code 187 = .ok (.iload 9, 2) := by decide +kernel
theorem d_MaskEdges_errorOf_189 : decode prog_1_method_27_code 189 = .ok (.ineg, 1) := by decide +kernel
theorem d_MaskEdges_errorOf_190 : decode prog_1_method_27_code 190 = .ok (.ireturn, 1) := by decide +kernel
theorem d_MaskEdges_worstError_0 : decode prog_1_method_28_code 0 = .ok (.iconst 0, 1) := by decide +kernel
theorem d_MaskEdges_worstError_1 : decode prog_1_method_28_code 1 = .ok (.istore_n 1, 1) := by decide +kernel
theorem d_MaskEdges_worstError_2 : decode prog_1_method_28_code 2 = .ok (.iconst 0, 1) := by decide +kernel
theorem d_MaskEdges_worstError_3 : decode prog_1_method_28_code 3 = .ok (.istore_n 2, 1) := by decide +kernel
theorem d_MaskEdges_worstError_4 : decode prog_1_method_28_code 4 = .ok (.iload_n 2, 1) := by decide +kernel
theorem d_MaskEdges_worstError_5 : decode prog_1_method_28_code 5 = .ok (.aload_n 0, 1) := by decide +kernel
theorem d_MaskEdges_worstError_6 : decode prog_1_method_28_code 6 = .ok (.getfield 61, 3) := by decide +kernel
theorem d_MaskEdges_worstError_9 : decode prog_1_method_28_code 9 = .ok (.if_icmp .ge 29, 3) := by decide +kernel
theorem d_MaskEdges_worstError_12 : decode prog_1_method_28_code 12 = .ok (.iload_n 1, 1) := by decide +kernel
theorem d_MaskEdges_worstError_13 : decode prog_1_method_28_code 13 = .ok (.aload_n 0, 1) := by decide +kernel
theorem d_MaskEdges_worstError_14 : decode prog_1_method_28_code 14 = .ok (.aload_n 0, 1) := by decide +kernel
theorem d_MaskEdges_worstError_15 : decode prog_1_method_28_code 15 = .ok (.getfield 17, 3) := by decide +kernel
theorem d_MaskEdges_worstError_18 : decode prog_1_method_28_code 18 = .ok (.iload_n 2, 1) := by decide +kernel
theorem d_MaskEdges_worstError_19 : decode prog_1_method_28_code 19 = .ok (.aaload, 1) := by decide +kernel
theorem d_MaskEdges_worstError_20 : decode prog_1_method_28_code 20 = .ok (.bipush 100, 2) := by decide +kernel
theorem d_MaskEdges_worstError_22 : decode prog_1_method_28_code 22 = .ok (.invokevirtual 112, 3) := by decide +kernel
theorem d_MaskEdges_worstError_25 : decode prog_1_method_28_code 25 = .ok (.invokestatic 248, 3) := by decide +kernel
theorem d_MaskEdges_worstError_28 : decode prog_1_method_28_code 28 = .ok (.invokestatic 188, 3) := by decide +kernel
theorem d_MaskEdges_worstError_31 : decode prog_1_method_28_code 31 = .ok (.istore_n 1, 1) := by decide +kernel
theorem d_MaskEdges_worstError_32 : decode prog_1_method_28_code 32 = .ok (.iinc 2 1, 3) := by decide +kernel
theorem d_MaskEdges_worstError_35 : decode prog_1_method_28_code 35 = .ok (.goto (-31), 3) := by decide +kernel
theorem d_MaskEdges_worstError_38 : decode prog_1_method_28_code 38 = .ok (.iload_n 1, 1) := by decide +kernel
theorem d_MaskEdges_worstError_39 : decode prog_1_method_28_code 39 = .ok (.ireturn, 1) := by decide +kernel
theorem d_MaskEdges_moveAgainstErrors_0 : decode prog_1_method_29_code 0 = .ok (.iconst 0, 1) := by decide +kernel
theorem d_MaskEdges_moveAgainstErrors_1 : decode prog_1_method_29_code 1 = .ok (.istore_n 3, 1) := by decide +kernel
theorem d_MaskEdges_moveAgainstErrors_2 : decode prog_1_method_29_code 2 = .ok (.iconst 0, 1) := by decide +kernel
theorem d_MaskEdges_moveAgainstErrors_3 : decode prog_1_method_29_code 3 = .ok (.istore 4, 2) := by decide +kernel
theorem d_MaskEdges_moveAgainstErrors_5 : decode prog_1_method_29_code 5 = .ok (.iload 4, 2) := by decide +kernel
theorem d_MaskEdges_moveAgainstErrors_7 : decode prog_1_method_29_code 7 = .ok (.aload_n 0, 1) := by decide +kernel
theorem d_MaskEdges_moveAgainstErrors_8 : decode prog_1_method_29_code 8 = .ok (.getfield 61, 3) := by decide +kernel
theorem d_MaskEdges_moveAgainstErrors_11 : decode prog_1_method_29_code 11 = .ok (.if_icmp .ge 63, 3) := by decide +kernel
theorem d_MaskEdges_moveAgainstErrors_14 : decode prog_1_method_29_code 14 = .ok (.aload_n 0, 1) := by decide +kernel
theorem d_MaskEdges_moveAgainstErrors_15 : decode prog_1_method_29_code 15 = .ok (.getfield 17, 3) := by decide +kernel
theorem d_MaskEdges_moveAgainstErrors_18 : decode prog_1_method_29_code 18 = .ok (.iload 4, 2) := by decide +kernel
theorem d_MaskEdges_moveAgainstErrors_20 : decode prog_1_method_29_code 20 = .ok (.aaload, 1) := by decide +kernel
theorem d_MaskEdges_moveAgainstErrors_21 : decode prog_1_method_29_code 21 = .ok (.astore 5, 2) := by decide +kernel
theorem d_MaskEdges_moveAgainstErrors_23 : decode prog_1_method_29_code 23 = .ok (.aload_n 0, 1) := by decide +kernel
theorem d_MaskEdges_moveAgainstErrors_24 : decode prog_1_method_29_code 24 = .ok (.getfield 21, 3) := by decide +kernel
theorem d_MaskEdges_moveAgainstErrors_27 : decode prog_1_method_29_code 27 = .ok (.iload 4, 2) := by decide +kernel
theorem d_MaskEdges_moveAgainstErrors_29 : decode prog_1_method_29_code 29 = .ok (.aload 5, 2) := by decide +kernel
theorem d_MaskEdges_moveAgainstErrors_31 : decode prog_1_method_29_code 31 = .ok (.getfield 133, 3) := by decide +kernel
theorem d_MaskEdges_moveAgainstErrors_34 : decode prog_1_method_29_code 34 = .ok (.iastore, 1) := by decide +kernel
theorem d_MaskEdges_moveAgainstErrors_35 : decode prog_1_method_29_code 35 = .ok (.aload 5, 2) := by decide +kernel
theorem d_MaskEdges_moveAgainstErrors_37 : decode prog_1_method_29_code 37 = .ok (.getfield 133, 3) := by decide +kernel
theorem d_MaskEdges_moveAgainstErrors_40 : decode prog_1_method_29_code 40 = .ok (.aload_n 0, 1) := by decide +kernel
theorem d_MaskEdges_moveAgainstErrors_41 : decode prog_1_method_29_code 41 = .ok (.aload 5, 2) := by decide +kernel
theorem d_MaskEdges_moveAgainstErrors_43 : decode prog_1_method_29_code 43 = .ok (.bipush 100, 2) := by decide +kernel
theorem d_MaskEdges_moveAgainstErrors_45 : decode prog_1_method_29_code 45 = .ok (.invokevirtual 112, 3) := by decide +kernel
theorem d_MaskEdges_moveAgainstErrors_48 : decode prog_1_method_29_code 48 = .ok (.iload_n 1, 1) := by decide +kernel
theorem d_MaskEdges_moveAgainstErrors_49 : decode prog_1_method_29_code 49 = .ok (.invokestatic 251, 3) := by decide +kernel
theorem d_MaskEdges_moveAgainstErrors_52 : decode prog_1_method_29_code 52 = .ok (.isub, 1) := by decide +kernel
theorem d_MaskEdges_moveAgainstErrors_53 : decode prog_1_method_29_code 53 = .ok (.istore 6, 2) := by decide +kernel
theorem d_MaskEdges_moveAgainstErrors_55 : decode prog_1_method_29_code 55 = .ok (.aload 5, 2) := by decide +kernel
theorem d_MaskEdges_moveAgainstErrors_57 : decode prog_1_method_29_code 57 = .ok (.iload 6, 2) := by decide +kernel
theorem d_MaskEdges_moveAgainstErrors_59 : decode prog_1_method_29_code 59 = .ok (.iload_n 2, 1) := by decide +kernel
theorem d_MaskEdges_moveAgainstErrors_60 : decode prog_1_method_29_code 60 = .ok (.invokevirtual 177, 3) := by decide +kernel
theorem d_MaskEdges_moveAgainstErrors_63 : decode prog_1_method_29_code 63 = .ok (.ifCond .eq 5, 3) := by decide +kernel
theorem d_MaskEdges_moveAgainstErrors_66 : decode prog_1_method_29_code 66 = .ok (.iconst 1, 1) := by decide +kernel
theorem d_MaskEdges_moveAgainstErrors_67 : decode prog_1_method_29_code 67 = .ok (.istore_n 3, 1) := by decide +kernel
theorem d_MaskEdges_moveAgainstErrors_68 : decode prog_1_method_29_code 68 = .ok (.iinc 4 1, 3) := by decide +kernel
theorem d_MaskEdges_moveAgainstErrors_71 : decode prog_1_method_29_code 71 = .ok (.goto (-66), 3) := by decide +kernel
theorem d_MaskEdges_moveAgainstErrors_74 : decode prog_1_method_29_code 74 = .ok (.iload_n 3, 1) := by decide +kernel
theorem d_MaskEdges_moveAgainstErrors_75 : decode prog_1_method_29_code 75 = .ok (.ireturn, 1) := by decide +kernel
theorem d_MaskEdges_takeMovesBack_0 : decode prog_1_method_30_code 0 = .ok (.iconst 0, 1) := by decide +kernel
theorem d_MaskEdges_takeMovesBack_1 : decode prog_1_method_30_code 1 = .ok (.istore_n 1, 1) := by decide +kernel
theorem d_MaskEdges_takeMovesBack_2 : decode prog_1_method_30_code 2 = .ok (.iload_n 1, 1) := by decide +kernel
theorem d_MaskEdges_takeMovesBack_3 : decode prog_1_method_30_code 3 = .ok (.aload_n 0, 1) := by decide +kernel
theorem d_MaskEdges_takeMovesBack_4 : decode prog_1_method_30_code 4 = .ok (.getfield 61, 3) := by decide +kernel
theorem d_MaskEdges_takeMovesBack_7 : decode prog_1_method_30_code 7 = .ok (.if_icmp .ge 24, 3) := by decide +kernel
theorem d_MaskEdges_takeMovesBack_10 : decode prog_1_method_30_code 10 = .ok (.aload_n 0, 1) := by decide +kernel
theorem d_MaskEdges_takeMovesBack_11 : decode prog_1_method_30_code 11 = .ok (.getfield 17, 3) := by decide +kernel
theorem d_MaskEdges_takeMovesBack_14 : decode prog_1_method_30_code 14 = .ok (.iload_n 1, 1) := by decide +kernel
theorem d_MaskEdges_takeMovesBack_15 : decode prog_1_method_30_code 15 = .ok (.aaload, 1) := by decide +kernel
theorem d_MaskEdges_takeMovesBack_16 : decode prog_1_method_30_code 16 = .ok (.aload_n 0, 1) := by decide +kernel
theorem d_MaskEdges_takeMovesBack_17 : decode prog_1_method_30_code 17 = .ok (.getfield 21, 3) := by decide +kernel
theorem d_MaskEdges_takeMovesBack_20 : decode prog_1_method_30_code 20 = .ok (.iload_n 1, 1) := by decide +kernel
theorem d_MaskEdges_takeMovesBack_21 : decode prog_1_method_30_code 21 = .ok (.iaload, 1) := by decide +kernel
theorem d_MaskEdges_takeMovesBack_22 : decode prog_1_method_30_code 22 = .ok (.putfield 133, 3) := by decide +kernel
theorem d_MaskEdges_takeMovesBack_25 : decode prog_1_method_30_code 25 = .ok (.iinc 1 1, 3) := by decide +kernel
theorem d_MaskEdges_takeMovesBack_28 : decode prog_1_method_30_code 28 = .ok (.goto (-26), 3) := by decide +kernel
theorem d_MaskEdges_takeMovesBack_31 : decode prog_1_method_30_code 31 = .ok (.aload_n 0, 1) := by decide +kernel
theorem d_MaskEdges_takeMovesBack_32 : decode prog_1_method_30_code 32 = .ok (.invokevirtual 82, 3) := by decide +kernel
theorem d_MaskEdges_takeMovesBack_35 : decode prog_1_method_30_code 35 = .ok (.return_, 1) := by decide +kernel
theorem d_MaskEdges_placeBar_0 : decode prog_1_method_31_code 0 = .ok (.aload_n 0, 1) := by decide +kernel
theorem d_MaskEdges_placeBar_1 : decode prog_1_method_31_code 1 = .ok (.getfield 55, 3) := by decide +kernel
theorem d_MaskEdges_placeBar_4 : decode prog_1_method_31_code 4 = .ok (.aload_n 1, 1) := by decide +kernel
theorem d_MaskEdges_placeBar_5 : decode prog_1_method_31_code 5 = .ok (.aload_n 1, 1) := by decide +kernel
theorem d_MaskEdges_placeBar_6 : decode prog_1_method_31_code 6 = .ok (.getfield 254, 3) := by decide +kernel
theorem d_MaskEdges_placeBar_9 : decode prog_1_method_31_code 9 = .ok (.iconst 1, 1) := by decide +kernel
theorem d_MaskEdges_placeBar_10 : decode prog_1_method_31_code 10 = .ok (.iadd, 1) := by decide +kernel
theorem d_MaskEdges_placeBar_11 : decode prog_1_method_31_code 11 = .ok (.aload_n 1, 1) := by decide +kernel
theorem d_MaskEdges_placeBar_12 : decode prog_1_method_31_code 12 = .ok (.getfield 257, 3) := by decide +kernel
theorem d_MaskEdges_placeBar_15 : decode prog_1_method_31_code 15 = .ok (.iconst 1, 1) := by decide +kernel
theorem d_MaskEdges_placeBar_16 : decode prog_1_method_31_code 16 = .ok (.isub, 1) := by decide +kernel
theorem d_MaskEdges_placeBar_17 : decode prog_1_method_31_code 17 = .ok (.aload_n 1, 1) := by decide +kernel
theorem d_MaskEdges_placeBar_18 : decode prog_1_method_31_code 18 = .ok (.getfield 215, 3) := by decide +kernel
theorem d_MaskEdges_placeBar_21 : decode prog_1_method_31_code 21 = .ok (.iload_n 2, 1) := by decide +kernel
theorem d_MaskEdges_placeBar_22 : decode prog_1_method_31_code 22 = .ok (.iload_n 3, 1) := by decide +kernel
theorem d_MaskEdges_placeBar_23 : decode prog_1_method_31_code 23 = .ok (.invokevirtual 218, 3) := by decide +kernel
theorem d_MaskEdges_placeBar_26 : decode prog_1_method_31_code 26 = .ok (.aload_n 0, 1) := by decide +kernel
theorem d_MaskEdges_placeBar_27 : decode prog_1_method_31_code 27 = .ok (.getfield 136, 3) := by decide +kernel
theorem d_MaskEdges_placeBar_30 : decode prog_1_method_31_code 30 = .ok (.bipush 24, 2) := by decide +kernel
theorem d_MaskEdges_placeBar_32 : decode prog_1_method_31_code 32 = .ok (.if_icmp .ge 41, 3) := by decide +kernel
theorem d_MaskEdges_placeBar_35 : decode prog_1_method_31_code 35 = .ok (.aload_n 0, 1) := by decide +kernel
theorem d_MaskEdges_placeBar_36 : decode prog_1_method_31_code 36 = .ok (.getfield 55, 3) := by decide +kernel
theorem d_MaskEdges_placeBar_39 : decode prog_1_method_31_code 39 = .ok (.invokevirtual 260, 3) := by decide +kernel
theorem d_MaskEdges_placeBar_42 : decode prog_1_method_31_code 42 = .ok (.ifCond .eq 31, 3) := by decide +kernel
theorem d_MaskEdges_placeBar_45 : decode prog_1_method_31_code 45 = .ok (.aload_n 0, 1) := by decide +kernel
theorem d_MaskEdges_placeBar_46 : decode prog_1_method_31_code 46 = .ok (.getfield 34, 3) := by decide +kernel
theorem d_MaskEdges_placeBar_49 : decode prog_1_method_31_code 49 = .ok (.aload_n 0, 1) := by decide +kernel
theorem d_MaskEdges_placeBar_50 : decode prog_1_method_31_code 50 = .ok (.getfield 55, 3) := by decide +kernel
theorem d_MaskEdges_placeBar_53 : decode prog_1_method_31_code 53 = .ok (.invokevirtual 263, 3) := by decide +kernel
theorem d_MaskEdges_placeBar_56 : decode prog_1_method_31_code 56 = .ok (.ifCond .ne 17, 3) := by decide +kernel
theorem d_MaskEdges_placeBar_59 : decode prog_1_method_31_code 59 = .ok (.aload_n 0, 1) := by decide +kernel
theorem d_MaskEdges_placeBar_60 : decode prog_1_method_31_code 60 = .ok (.getfield 38, 3) := by decide +kernel
theorem d_MaskEdges_placeBar_63 : decode prog_1_method_31_code 63 = .ok (.aload_n 0, 1) := by decide +kernel
theorem d_MaskEdges_placeBar_64 : decode prog_1_method_31_code 64 = .ok (.getfield 55, 3) := by decide +kernel
theorem d_MaskEdges_placeBar_67 : decode prog_1_method_31_code 67 = .ok (.invokevirtual 263, 3) := by decide +kernel
theorem d_MaskEdges_placeBar_70 : decode prog_1_method_31_code 70 = .ok (.ifCond .eq 4, 3) := by decide +kernel
theorem d_MaskEdges_placeBar_73 : decode prog_1_method_31_code 73 = .ok (.return_, 1) := by decide +kernel
theorem d_MaskEdges_placeBar_74 : decode prog_1_method_31_code 74 = .ok (.aload_n 0, 1) := by decide +kernel
theorem d_MaskEdges_placeBar_75 : decode prog_1_method_31_code 75 = .ok (.getfield 27, 3) := by decide +kernel
theorem d_MaskEdges_placeBar_78 : decode prog_1_method_31_code 78 = .ok (.aload_n 0, 1) := by decide +kernel
theorem d_MaskEdges_placeBar_79 : decode prog_1_method_31_code 79 = .ok (.getfield 136, 3) := by decide +kernel
theorem d_MaskEdges_placeBar_82 : decode prog_1_method_31_code 82 = .ok (.aaload, 1) := by decide +kernel
theorem d_MaskEdges_placeBar_83 : decode prog_1_method_31_code 83 = .ok (.aload_n 0, 1) := by decide +kernel
theorem d_MaskEdges_placeBar_84 : decode prog_1_method_31_code 84 = .ok (.getfield 55, 3) := by decide +kernel
theorem d_MaskEdges_placeBar_87 : decode prog_1_method_31_code 87 = .ok (.invokevirtual 267, 3) := by decide +kernel
theorem d_MaskEdges_placeBar_90 : decode prog_1_method_31_code 90 = .ok (.aload_n 0, 1) := by decide +kernel
theorem d_MaskEdges_placeBar_91 : decode prog_1_method_31_code 91 = .ok (.dup, 1) := by decide +kernel
theorem d_MaskEdges_placeBar_92 : decode prog_1_method_31_code 92 = .ok (.getfield 136, 3) := by decide +kernel
theorem d_MaskEdges_placeBar_95 : decode prog_1_method_31_code 95 = .ok (.iconst 1, 1) := by decide +kernel
theorem d_MaskEdges_placeBar_96 : decode prog_1_method_31_code 96 = .ok (.iadd, 1) := by decide +kernel
theorem d_MaskEdges_placeBar_97 : decode prog_1_method_31_code 97 = .ok (.putfield 136, 3) := by decide +kernel
theorem d_MaskEdges_placeBar_100 : decode prog_1_method_31_code 100 = .ok (.aload_n 0, 1) := by decide +kernel
theorem d_MaskEdges_placeBar_101 : decode prog_1_method_31_code 101 = .ok (.getfield 38, 3) := by decide +kernel
theorem d_MaskEdges_placeBar_104 : decode prog_1_method_31_code 104 = .ok (.aload_n 0, 1) := by decide +kernel
theorem d_MaskEdges_placeBar_105 : decode prog_1_method_31_code 105 = .ok (.getfield 55, 3) := by decide +kernel
theorem d_MaskEdges_placeBar_108 : decode prog_1_method_31_code 108 = .ok (.invokevirtual 222, 3) := by decide +kernel
theorem d_MaskEdges_placeBar_111 : decode prog_1_method_31_code 111 = .ok (.return_, 1) := by decide +kernel
theorem d_MaskEdges_sameTargetAround_0 : decode prog_1_method_32_code 0 = .ok (.bipush (-4), 2) := by decide +kernel
theorem d_MaskEdges_sameTargetAround_2 : decode prog_1_method_32_code 2 = .ok (.istore_n 3, 1) := by decide +kernel
theorem d_MaskEdges_sameTargetAround_3 : decode prog_1_method_32_code 3 = .ok (.iload_n 3, 1) := by decide +kernel
theorem d_MaskEdges_sameTargetAround_4 : decode prog_1_method_32_code 4 = .ok (.iconst 4, 1) := by decide +kernel
theorem d_MaskEdges_sameTargetAround_5 : decode prog_1_method_32_code 5 = .ok (.if_icmp .gt 74, 3) := by decide +kernel
theorem d_MaskEdges_sameTargetAround_8 : decode prog_1_method_32_code 8 = .ok (.bipush (-4), 2) := by decide +kernel
theorem d_MaskEdges_sameTargetAround_10 : decode prog_1_method_32_code 10 = .ok (.istore 4, 2) := by decide +kernel
theorem d_MaskEdges_sameTargetAround_12 : decode prog_1_method_32_code 12 = .ok (.iload 4, 2) := by decide +kernel
theorem d_MaskEdges_sameTargetAround_14 : decode prog_1_method_32_code 14 = .ok (.iconst 4, 1) := by decide +kernel
theorem d_MaskEdges_sameTargetAround_15 : decode prog_1_method_32_code 15 = .ok (.if_icmp .gt 58, 3) := by decide +kernel
theorem d_MaskEdges_sameTargetAround_18 : decode prog_1_method_32_code 18 = .ok (.aload_n 0, 1) := by decide +kernel
theorem d_MaskEdges_sameTargetAround_19 : decode prog_1_method_32_code 19 = .ok (.getfield 34, 3) := by decide +kernel
theorem d_MaskEdges_sameTargetAround_22 : decode prog_1_method_32_code 22 = .ok (.aload_n 1, 1) := by decide +kernel
theorem d_MaskEdges_sameTargetAround_23 : decode prog_1_method_32_code 23 = .ok (.getfield 239, 3) := by decide +kernel
theorem d_MaskEdges_sameTargetAround_26 : decode prog_1_method_32_code 26 = .ok (.iload 4, 2) := by decide +kernel
theorem d_MaskEdges_sameTargetAround_28 : decode prog_1_method_32_code 28 = .ok (.iadd, 1) := by decide +kernel
theorem d_MaskEdges_sameTargetAround_29 : decode prog_1_method_32_code 29 = .ok (.aload_n 1, 1) := by decide +kernel
theorem d_MaskEdges_sameTargetAround_30 : decode prog_1_method_32_code 30 = .ok (.getfield 242, 3) := by decide +kernel
theorem d_MaskEdges_sameTargetAround_33 : decode prog_1_method_32_code 33 = .ok (.iload_n 3, 1) := by decide +kernel
theorem d_MaskEdges_sameTargetAround_34 : decode prog_1_method_32_code 34 = .ok (.iadd, 1) := by decide +kernel
theorem d_MaskEdges_sameTargetAround_35 : decode prog_1_method_32_code 35 = .ok (.invokevirtual 180, 3) := by decide +kernel
theorem d_MaskEdges_sameTargetAround_38 : decode prog_1_method_32_code 38 = .ok (.istore 5, 2) := by decide +kernel
theorem d_MaskEdges_sameTargetAround_40 : decode prog_1_method_32_code 40 = .ok (.iload 5, 2) := by decide +kernel
theorem d_MaskEdges_sameTargetAround_42 : decode prog_1_method_32_code 42 = .ok (.aload_n 0, 1) := by decide +kernel
theorem d_MaskEdges_sameTargetAround_43 : decode prog_1_method_32_code 43 = .ok (.getfield 34, 3) := by decide +kernel
theorem d_MaskEdges_sameTargetAround_46 : decode prog_1_method_32_code 46 = .ok (.aload_n 2, 1) := by decide +kernel
theorem d_MaskEdges_sameTargetAround_47 : decode prog_1_method_32_code 47 = .ok (.getfield 239, 3) := by decide +kernel
theorem d_MaskEdges_sameTargetAround_50 : decode prog_1_method_32_code 50 = .ok (.iload 4, 2) := by decide +kernel
theorem d_MaskEdges_sameTargetAround_52 : decode prog_1_method_32_code 52 = .ok (.iadd, 1) := by decide +kernel
theorem d_MaskEdges_sameTargetAround_53 : decode prog_1_method_32_code 53 = .ok (.aload_n 2, 1) := by decide +kernel
theorem d_MaskEdges_sameTargetAround_54 : decode prog_1_method_32_code 54 = .ok (.getfield 242, 3) := by decide +kernel
theorem d_MaskEdges_sameTargetAround_57 : decode prog_1_method_32_code 57 = .ok (.iload_n 3, 1) := by decide +kernel
theorem d_MaskEdges_sameTargetAround_58 : decode prog_1_method_32_code 58 = .ok (.iadd, 1) := by decide +kernel
theorem d_MaskEdges_sameTargetAround_59 : decode prog_1_method_32_code 59 = .ok (.invokevirtual 180, 3) := by decide +kernel
theorem d_MaskEdges_sameTargetAround_62 : decode prog_1_method_32_code 62 = .ok (.if_icmp .eq 5, 3) := by decide +kernel
theorem d_MaskEdges_sameTargetAround_65 : decode prog_1_method_32_code 65 = .ok (.iconst 0, 1) := by decide +kernel
theorem d_MaskEdges_sameTargetAround_66 : decode prog_1_method_32_code 66 = .ok (.ireturn, 1) := by decide +kernel
theorem d_MaskEdges_sameTargetAround_67 : decode prog_1_method_32_code 67 = .ok (.iinc 4 1, 3) := by decide +kernel
theorem d_MaskEdges_sameTargetAround_70 : decode prog_1_method_32_code 70 = .ok (.goto (-58), 3) := by decide +kernel
theorem d_MaskEdges_sameTargetAround_73 : decode prog_1_method_32_code 73 = .ok (.iinc 3 1, 3) := by decide +kernel
theorem d_MaskEdges_sameTargetAround_76 : decode prog_1_method_32_code 76 = .ok (.goto (-73), 3) := by decide +kernel
theorem d_MaskEdges_sameTargetAround_79 : decode prog_1_method_32_code 79 = .ok (.iconst 1, 1) := by decide +kernel
theorem d_MaskEdges_sameTargetAround_80 : decode prog_1_method_32_code 80 = .ok (.ireturn, 1) := by decide +kernel
end
section
def f_MaskEdges_within (v0 : Int32) (v1 : Int32) (v2 : Int32) : Option (Int32) :=
  if v0 < v1 then
  some (0 : Int32)
else
  if v2 < v0 then
    some (0 : Int32)
  else
    some (1 : Int32)
set_option maxHeartbeats 4000000 in
set_option maxRecDepth 100000 in
theorem c_MaskEdges_within (l : Launch) (X : xG) {H : Heap} (v0 : Int32) (v1 : Int32) (v2 : Int32) {res : Int32} (hf : f_MaskEdges_within v0 v1 v2 = some res) : xM l y_MaskEdges_within (Cond.code y_MaskEdges_within prog_1_method_17_code 3 (some .boolean) :: xT) ({ frames := 0, cells := 0, slots := 0, locals := 0 } : Room) (xK X) [.int v0, .int v1, .int v2] H xNo (some (.int res)) (fun H1 => H1 = H) := by
  refine Met.ofW (cc := prog_1_method_17_code) (maxL := 3) (ret := (some .boolean)) (by decide) rfl ?_
  intro p e s m args below meth c s₁ B hml hv
  obtain ⟨ha, hH, hKK⟩ := hv
  subst hH
  have hx := B.exec
  have hb := B.bytes
  have hr := B.returns
  have ht : ∀ w ∈ xT, w.before args s = true := fun w h => atoms_spec (ws := (Cond.code y_MaskEdges_within prog_1_method_17_code 3 (some .boolean) :: xT)) B.pre w (List.mem_cons_of_mem _ h)
  have hown : s.vm.findClass "MaskEdges" = some m.cls := findClass_of_methodNamed B.named
  have hlocks := B.notSynchronized
  have hK := hKK.1
  rw [show entryFrame m args 3 = entryFrame m ([.int v0, .int v1, .int v2] : List Value).toArray 3 from by rw [ha]]
  clear ha
  have hl := lv_entry ([.int v0, .int v1, .int v2]) (n := 3) (Nat.le_of_ble_eq_true rfl)
  rw [lg_entry_eq]
  generalize (lg_sl ([.int v0, .int v1, .int v2]) ++ List.replicate (3 - (lg_sl ([.int v0, .int v1, .int v2])).length) Slot.unset).toArray = ls at hl ⊢
  replace hl : lv_has ls 3 [(0, .int v0), (1, .int v1), (2, .int v2)] := hl
  refine x_Q (fun Q hQ => ?_)
  unfold f_MaskEdges_within at hf
  refine lv_iload_n hx hb d_MaskEdges_within_0 rfl (lv_at hl 0 rfl) ?_
  refine lv_iload_n hx hb d_MaskEdges_within_1 rfl (lv_at hl 1 rfl) ?_
  refine lv_icmp_lt (tgt := 14) hx hb d_MaskEdges_within_2 (by decide) (fun hc => ?_) (fun hc => ?_)
  · replace hf := x_t hc hf
    refine lv_iconst (v := (0 : Int32)) hx hb d_MaskEdges_within_14 (by decide) ?_
    replace hf := x_s hf
    subst hf
    subst hQ
    exact W.zret (v := (0 : Int32)) hx hb hr (xz_n (by decide)) (fun t ht hW => ⟨⟨rfl, ht⟩, x_F0 ht⟩) x_l0 d_MaskEdges_within_15
  · replace hf := x_f hc hf
    refine lv_iload_n hx hb d_MaskEdges_within_5 rfl (lv_at hl 0 rfl) ?_
    refine lv_iload_n hx hb d_MaskEdges_within_6 rfl (lv_at hl 2 rfl) ?_
    refine lv_icmp_gt (tgt := 14) hx hb d_MaskEdges_within_7 (by decide) (fun hc => ?_) (fun hc => ?_)
    · replace hf := x_t hc hf
      refine lv_iconst (v := (0 : Int32)) hx hb d_MaskEdges_within_14 (by decide) ?_
      replace hf := x_s hf
      subst hf
      subst hQ
      exact W.zret (v := (0 : Int32)) hx hb hr (xz_n (by decide)) (fun t ht hW => ⟨⟨rfl, ht⟩, x_F0 ht⟩) x_l0 d_MaskEdges_within_15
    · replace hf := x_f hc hf
      refine lv_iconst (v := (1 : Int32)) hx hb d_MaskEdges_within_10 (by decide) ?_
      refine lv_goto (tgt := 15) hx hb d_MaskEdges_within_11 (by decide) ?_
      replace hf := x_s hf
      subst hf
      subst hQ
      exact W.zret (v := (1 : Int32)) hx hb hr (xz_n (by decide)) (fun t ht hW => ⟨⟨rfl, ht⟩, x_F0 ht⟩) x_l0 d_MaskEdges_within_15
def f_MaskEdges_onGrid (v0 : Int32) (v1 : Int32) : Option (Int32) :=
  if v0 < 0 then
  some (0 : Int32)
else
  if (48 : Int32) ≤ v0 then
    some (0 : Int32)
  else
    if v1 < 0 then
      some (0 : Int32)
    else
      if (48 : Int32) ≤ v1 then
        some (0 : Int32)
      else
        some (1 : Int32)
set_option maxHeartbeats 4000000 in
set_option maxRecDepth 100000 in
theorem c_MaskEdges_onGrid (l : Launch) (X : xG) {H : Heap} (v0 : Int32) (v1 : Int32) {res : Int32} (hf : f_MaskEdges_onGrid v0 v1 = some res) : xM l y_MaskEdges_onGrid (Cond.code y_MaskEdges_onGrid prog_1_method_18_code 2 (some .boolean) :: xT) ({ frames := 0, cells := 0, slots := 0, locals := 0 } : Room) (xK X) [.int v0, .int v1] H xNo (some (.int res)) (fun H1 => H1 = H) := by
  refine Met.ofW (cc := prog_1_method_18_code) (maxL := 2) (ret := (some .boolean)) (by decide) rfl ?_
  intro p e s m args below meth c s₁ B hml hv
  obtain ⟨ha, hH, hKK⟩ := hv
  subst hH
  have hx := B.exec
  have hb := B.bytes
  have hr := B.returns
  have ht : ∀ w ∈ xT, w.before args s = true := fun w h => atoms_spec (ws := (Cond.code y_MaskEdges_onGrid prog_1_method_18_code 2 (some .boolean) :: xT)) B.pre w (List.mem_cons_of_mem _ h)
  have hown : s.vm.findClass "MaskEdges" = some m.cls := findClass_of_methodNamed B.named
  have hlocks := B.notSynchronized
  have hK := hKK.1
  rw [show entryFrame m args 2 = entryFrame m ([.int v0, .int v1] : List Value).toArray 2 from by rw [ha]]
  clear ha
  have hl := lv_entry ([.int v0, .int v1]) (n := 2) (Nat.le_of_ble_eq_true rfl)
  rw [lg_entry_eq]
  generalize (lg_sl ([.int v0, .int v1]) ++ List.replicate (2 - (lg_sl ([.int v0, .int v1])).length) Slot.unset).toArray = ls at hl ⊢
  replace hl : lv_has ls 2 [(0, .int v0), (1, .int v1)] := hl
  refine x_Q (fun Q hQ => ?_)
  unfold f_MaskEdges_onGrid at hf
  refine lv_iload_n hx hb d_MaskEdges_onGrid_0 rfl (lv_at hl 0 rfl) ?_
  refine lv_if_lt (tgt := 24) hx hb d_MaskEdges_onGrid_1 (by decide) (fun hc => ?_) (fun hc => ?_)
  · replace hf := x_t hc hf
    refine lv_iconst (v := (0 : Int32)) hx hb d_MaskEdges_onGrid_24 (by decide) ?_
    replace hf := x_s hf
    subst hf
    subst hQ
    exact W.zret (v := (0 : Int32)) hx hb hr (xz_n (by decide)) (fun t ht hW => ⟨⟨rfl, ht⟩, x_F0 ht⟩) x_l0 d_MaskEdges_onGrid_25
  · replace hf := x_f hc hf
    refine lv_iload_n hx hb d_MaskEdges_onGrid_4 rfl (lv_at hl 0 rfl) ?_
    refine lv_bipush (v := (48 : Int32)) hx hb d_MaskEdges_onGrid_5 (by decide) ?_
    refine lv_icmp_ge (tgt := 24) hx hb d_MaskEdges_onGrid_7 (by decide) (fun hc => ?_) (fun hc => ?_)
    · replace hf := x_t hc hf
      refine lv_iconst (v := (0 : Int32)) hx hb d_MaskEdges_onGrid_24 (by decide) ?_
      replace hf := x_s hf
      subst hf
      subst hQ
      exact W.zret (v := (0 : Int32)) hx hb hr (xz_n (by decide)) (fun t ht hW => ⟨⟨rfl, ht⟩, x_F0 ht⟩) x_l0 d_MaskEdges_onGrid_25
    · replace hf := x_f hc hf
      refine lv_iload_n hx hb d_MaskEdges_onGrid_10 rfl (lv_at hl 1 rfl) ?_
      refine lv_if_lt (tgt := 24) hx hb d_MaskEdges_onGrid_11 (by decide) (fun hc => ?_) (fun hc => ?_)
      · replace hf := x_t hc hf
        refine lv_iconst (v := (0 : Int32)) hx hb d_MaskEdges_onGrid_24 (by decide) ?_
        replace hf := x_s hf
        subst hf
        subst hQ
        exact W.zret (v := (0 : Int32)) hx hb hr (xz_n (by decide)) (fun t ht hW => ⟨⟨rfl, ht⟩, x_F0 ht⟩) x_l0 d_MaskEdges_onGrid_25
      · replace hf := x_f hc hf
        refine lv_iload_n hx hb d_MaskEdges_onGrid_14 rfl (lv_at hl 1 rfl) ?_
        refine lv_bipush (v := (48 : Int32)) hx hb d_MaskEdges_onGrid_15 (by decide) ?_
        refine lv_icmp_ge (tgt := 24) hx hb d_MaskEdges_onGrid_17 (by decide) (fun hc => ?_) (fun hc => ?_)
        · replace hf := x_t hc hf
          refine lv_iconst (v := (0 : Int32)) hx hb d_MaskEdges_onGrid_24 (by decide) ?_
          replace hf := x_s hf
          subst hf
          subst hQ
          exact W.zret (v := (0 : Int32)) hx hb hr (xz_n (by decide)) (fun t ht hW => ⟨⟨rfl, ht⟩, x_F0 ht⟩) x_l0 d_MaskEdges_onGrid_25
        · replace hf := x_f hc hf
          refine lv_iconst (v := (1 : Int32)) hx hb d_MaskEdges_onGrid_20 (by decide) ?_
          refine lv_goto (tgt := 25) hx hb d_MaskEdges_onGrid_21 (by decide) ?_
          replace hf := x_s hf
          subst hf
          subst hQ
          exact W.zret (v := (1 : Int32)) hx hb hr (xz_n (by decide)) (fun t ht hW => ⟨⟨rfl, ht⟩, x_F0 ht⟩) x_l0 d_MaskEdges_onGrid_25
def f_MaskEdges_clamp (v0 : Int32) (v1 : Int32) : Option (Int32) :=
  some (if (-v1) < (if v0 < v1 then v0 else v1) then (if v0 < v1 then v0 else v1) else (-v1))
set_option maxHeartbeats 4000000 in
set_option maxRecDepth 100000 in
theorem c_MaskEdges_clamp (l : Launch) (X : xG) {H : Heap} (v0 : Int32) (v1 : Int32) {res : Int32} (hf : f_MaskEdges_clamp v0 v1 = some res) : xM l y_MaskEdges_clamp (Cond.code y_MaskEdges_clamp prog_1_method_19_code 2 (some .int) :: xT) ({ frames := 1, cells := 0, slots := 0, locals := 21 } : Room) (xK X) [.int v0, .int v1] H xNo (some (.int res)) (fun H1 => H1 = H) := by
  refine Met.ofW (cc := prog_1_method_19_code) (maxL := 2) (ret := (some .int)) (by decide) rfl ?_
  intro p e s m args below meth c s₁ B hml hv
  obtain ⟨ha, hH, hKK⟩ := hv
  subst hH
  have hx := B.exec
  have hb := B.bytes
  have hr := B.returns
  have ht : ∀ w ∈ xT, w.before args s = true := fun w h => atoms_spec (ws := (Cond.code y_MaskEdges_clamp prog_1_method_19_code 2 (some .int) :: xT)) B.pre w (List.mem_cons_of_mem _ h)
  have hown : s.vm.findClass "MaskEdges" = some m.cls := findClass_of_methodNamed B.named
  have hlocks := B.notSynchronized
  have hK := hKK.1
  rw [show entryFrame m args 2 = entryFrame m ([.int v0, .int v1] : List Value).toArray 2 from by rw [ha]]
  clear ha
  have hl := lv_entry ([.int v0, .int v1]) (n := 2) (Nat.le_of_ble_eq_true rfl)
  rw [lg_entry_eq]
  generalize (lg_sl ([.int v0, .int v1]) ++ List.replicate (2 - (lg_sl ([.int v0, .int v1])).length) Slot.unset).toArray = ls at hl ⊢
  replace hl : lv_has ls 2 [(0, .int v0), (1, .int v1)] := hl
  refine x_Q (fun Q hQ => ?_)
  unfold f_MaskEdges_clamp at hf
  refine lv_iload_n hx hb d_MaskEdges_clamp_0 rfl (lv_at hl 1 rfl) ?_
  refine lv_ineg hx hb d_MaskEdges_clamp_1 ?_
  refine lv_iload_n hx hb d_MaskEdges_clamp_2 rfl (lv_at hl 1 rfl) ?_
  refine lv_iload_n hx hb d_MaskEdges_clamp_3 rfl (lv_at hl 0 rfl) ?_
  refine va_mmin hx hb (hml.trans hl.1.symm) hown (ht _ xw_366) (ht _ xw_215) (ht _ xw_44) (ht _ xw_math_min) (Nat.le_of_ble_eq_true rfl) (Nat.le_of_ble_eq_true rfl) (Nat.zero_le _) (Nat.zero_le _) d_MaskEdges_clamp_4 ?_
  refine va_mmax hx hb (hml.trans hl.1.symm) hown (ht _ xw_359) (ht _ xw_218) (ht _ xw_44) (ht _ xw_math_max) (Nat.le_of_ble_eq_true rfl) (Nat.le_of_ble_eq_true rfl) (Nat.zero_le _) (Nat.zero_le _) d_MaskEdges_clamp_7 ?_
  replace hf := x_s hf
  subst hf
  subst hQ
  exact W.iret (v := (if (-v1) < (if v0 < v1 then v0 else v1) then (if v0 < v1 then v0 else v1) else (-v1))) hx hb hr (fun t ht hW => ⟨⟨rfl, ht⟩, x_F0 ht⟩) x_l0 d_MaskEdges_clamp_10
def f_MaskEdges_columnBits_22 (v2 : Int32) (s0 : Int32) : Option (Int64) :=
  if s0 ≤ v2 then
  some (0 : Int64)
else
  some (((1 : Int64) <<< (s0.toInt64 &&& 63)) - ((1 : Int64) <<< (v2.toInt64 &&& 63)))
def f_MaskEdges_columnBits_9 (v1 : Int32) (s0 : Int32) : Option (Int64) :=
  if (48 : Int32) ≤ v1 then
  f_MaskEdges_columnBits_22 s0 (48 : Int32)
else
  f_MaskEdges_columnBits_22 s0 v1
def f_MaskEdges_columnBits (v0 : Int32) (v1 : Int32) : Option (Int64) :=
  if v0 ≤ 0 then
  f_MaskEdges_columnBits_9 v1 (0 : Int32)
else
  f_MaskEdges_columnBits_9 v1 v0
set_option maxHeartbeats 4000000 in
set_option maxRecDepth 100000 in
theorem c_MaskEdges_columnBits (l : Launch) (X : xG) {H : Heap} (v0 : Int32) (v1 : Int32) {res : Int64} (hf : f_MaskEdges_columnBits v0 v1 = some res) : xM l y_MaskEdges_columnBits (Cond.code y_MaskEdges_columnBits prog_1_method_20_code 4 (some .long) :: xT) ({ frames := 0, cells := 0, slots := 0, locals := 0 } : Room) (xK X) [.int v0, .int v1] H xNo (some (.long res)) (fun H1 => H1 = H) := by
  refine Met.ofW (cc := prog_1_method_20_code) (maxL := 4) (ret := (some .long)) (by decide) rfl ?_
  intro p e s m args below meth c s₁ B hml hv
  obtain ⟨ha, hH, hKK⟩ := hv
  subst hH
  have hx := B.exec
  have hb := B.bytes
  have hr := B.returns
  have ht : ∀ w ∈ xT, w.before args s = true := fun w h => atoms_spec (ws := (Cond.code y_MaskEdges_columnBits prog_1_method_20_code 4 (some .long) :: xT)) B.pre w (List.mem_cons_of_mem _ h)
  have hown : s.vm.findClass "MaskEdges" = some m.cls := findClass_of_methodNamed B.named
  have hlocks := B.notSynchronized
  have hK := hKK.1
  rw [show entryFrame m args 4 = entryFrame m ([.int v0, .int v1] : List Value).toArray 4 from by rw [ha]]
  clear ha
  have hl := lv_entry ([.int v0, .int v1]) (n := 4) (Nat.le_of_ble_eq_true rfl)
  rw [lg_entry_eq]
  generalize (lg_sl ([.int v0, .int v1]) ++ List.replicate (4 - (lg_sl ([.int v0, .int v1])).length) Slot.unset).toArray = ls at hl ⊢
  replace hl : lv_has ls 4 [(0, .int v0), (1, .int v1)] := hl
  refine x_Q (fun Q hQ => ?_)
  have hL22 : ∀ (v2 : Int32) (s0 : Int32), ∀ (ls : Array Slot), lv_has ls 4 [(2, .int v2)] → f_MaskEdges_columnBits_22 v2 s0 = some res → W p l e (headSpec (Cond.code y_MaskEdges_columnBits prog_1_method_20_code 4 (some .long) :: xT) ({ frames := 0, cells := 0, slots := 0, locals := 0 } : Room)).room s m args below meth c s.heap [] 0 0 Q (F0 m 22 ls [.int s0]) := by
    intro v2 s0 ls hl hf
    unfold f_MaskEdges_columnBits_22 at hf
    refine lv_istore_n (lv' := [(3, .int s0), (2, .int v2)]) hx hb d_MaskEdges_columnBits_22 rfl hl (by decide) rfl (fun ls hl => ?_)
    refine lv_iload_n hx hb d_MaskEdges_columnBits_23 rfl (lv_at hl 1 rfl) ?_
    refine lv_iload_n hx hb d_MaskEdges_columnBits_24 rfl (lv_at hl 0 rfl) ?_
    refine lv_icmp_ge (tgt := 38) hx hb d_MaskEdges_columnBits_25 (by decide) (fun hc => ?_) (fun hc => ?_)
    · replace hf := x_t hc hf
      refine lv_lconst (v := (0 : Int64)) hx hb d_MaskEdges_columnBits_38 (by decide) ?_
      replace hf := x_s hf
      subst hf
      subst hQ
      exact W.lret (v := (0 : Int64)) hx hb hr (fun t ht hW => ⟨⟨rfl, ht⟩, x_F0 ht⟩) x_l0 d_MaskEdges_columnBits_39
    · replace hf := x_f hc hf
      refine lv_lconst (v := (1 : Int64)) hx hb d_MaskEdges_columnBits_28 (by decide) ?_
      refine lv_iload_n hx hb d_MaskEdges_columnBits_29 rfl (lv_at hl 0 rfl) ?_
      refine lv_lshl hx hb d_MaskEdges_columnBits_30 rfl ?_
      refine lv_lconst (v := (1 : Int64)) hx hb d_MaskEdges_columnBits_31 (by decide) ?_
      refine lv_iload_n hx hb d_MaskEdges_columnBits_32 rfl (lv_at hl 1 rfl) ?_
      refine lv_lshl hx hb d_MaskEdges_columnBits_33 rfl ?_
      refine lv_lsub hx hb d_MaskEdges_columnBits_34 ?_
      refine lv_goto (tgt := 39) hx hb d_MaskEdges_columnBits_35 (by decide) ?_
      replace hf := x_s hf
      subst hf
      subst hQ
      exact W.lret (v := (((1 : Int64) <<< (s0.toInt64 &&& 63)) - ((1 : Int64) <<< (v2.toInt64 &&& 63)))) hx hb hr (fun t ht hW => ⟨⟨rfl, ht⟩, x_F0 ht⟩) x_l0 d_MaskEdges_columnBits_39
  have hL9 : ∀ (v1 : Int32) (s0 : Int32), ∀ (ls : Array Slot), lv_has ls 4 [(1, .int v1)] → f_MaskEdges_columnBits_9 v1 s0 = some res → W p l e (headSpec (Cond.code y_MaskEdges_columnBits prog_1_method_20_code 4 (some .long) :: xT) ({ frames := 0, cells := 0, slots := 0, locals := 0 } : Room)).room s m args below meth c s.heap [] 0 0 Q (F0 m 9 ls [.int s0]) := by
    intro v1 s0 ls hl hf
    unfold f_MaskEdges_columnBits_9 at hf
    refine lv_istore_n (lv' := [(2, .int s0), (1, .int v1)]) hx hb d_MaskEdges_columnBits_9 rfl hl (by decide) rfl (fun ls hl => ?_)
    refine lv_iload_n hx hb d_MaskEdges_columnBits_10 rfl (lv_at hl 1 rfl) ?_
    refine lv_bipush (v := (48 : Int32)) hx hb d_MaskEdges_columnBits_11 (by decide) ?_
    refine lv_icmp_ge (tgt := 20) hx hb d_MaskEdges_columnBits_13 (by decide) (fun hc => ?_) (fun hc => ?_)
    · replace hf := x_t hc hf
      refine lv_bipush (v := (48 : Int32)) hx hb d_MaskEdges_columnBits_20 (by decide) ?_
      exact hL22 s0 (48 : Int32)  ls (lv_sub hl [0] rfl) hf
    · replace hf := x_f hc hf
      refine lv_iload_n hx hb d_MaskEdges_columnBits_16 rfl (lv_at hl 1 rfl) ?_
      refine lv_goto (tgt := 22) hx hb d_MaskEdges_columnBits_17 (by decide) ?_
      exact hL22 s0 v1  ls (lv_sub hl [0] rfl) hf
  unfold f_MaskEdges_columnBits at hf
  refine lv_iload_n hx hb d_MaskEdges_columnBits_0 rfl (lv_at hl 0 rfl) ?_
  refine lv_if_le (tgt := 8) hx hb d_MaskEdges_columnBits_1 (by decide) (fun hc => ?_) (fun hc => ?_)
  · replace hf := x_t hc hf
    refine lv_iconst (v := (0 : Int32)) hx hb d_MaskEdges_columnBits_8 (by decide) ?_
    exact hL9 v1 (0 : Int32)  ls (lv_sub hl [1] rfl) hf
  · replace hf := x_f hc hf
    refine lv_iload_n hx hb d_MaskEdges_columnBits_4 rfl (lv_at hl 0 rfl) ?_
    refine lv_goto (tgt := 9) hx hb d_MaskEdges_columnBits_5 (by decide) ?_
    exact hL9 v1 v0  ls (lv_sub hl [1] rfl) hf
def f_Long_bitCount (v0 : Int64) : Option (Int32) :=
  some (((((((((v0 - ((v0.toUInt64 >>> ((1 : Int32).toInt64.toUInt64 &&& Int64.toUInt64 63)).toInt64 &&& (6148914691236517205 : Int64))) &&& (3689348814741910323 : Int64)) + (((v0 - ((v0.toUInt64 >>> ((1 : Int32).toInt64.toUInt64 &&& Int64.toUInt64 63)).toInt64 &&& (6148914691236517205 : Int64))).toUInt64 >>> ((2 : Int32).toInt64.toUInt64 &&& Int64.toUInt64 63)).toInt64 &&& (3689348814741910323 : Int64))) + ((((v0 - ((v0.toUInt64 >>> ((1 : Int32).toInt64.toUInt64 &&& Int64.toUInt64 63)).toInt64 &&& (6148914691236517205 : Int64))) &&& (3689348814741910323 : Int64)) + (((v0 - ((v0.toUInt64 >>> ((1 : Int32).toInt64.toUInt64 &&& Int64.toUInt64 63)).toInt64 &&& (6148914691236517205 : Int64))).toUInt64 >>> ((2 : Int32).toInt64.toUInt64 &&& Int64.toUInt64 63)).toInt64 &&& (3689348814741910323 : Int64))).toUInt64 >>> ((4 : Int32).toInt64.toUInt64 &&& Int64.toUInt64 63)).toInt64) &&& (1085102592571150095 : Int64)) + ((((((v0 - ((v0.toUInt64 >>> ((1 : Int32).toInt64.toUInt64 &&& Int64.toUInt64 63)).toInt64 &&& (6148914691236517205 : Int64))) &&& (3689348814741910323 : Int64)) + (((v0 - ((v0.toUInt64 >>> ((1 : Int32).toInt64.toUInt64 &&& Int64.toUInt64 63)).toInt64 &&& (6148914691236517205 : Int64))).toUInt64 >>> ((2 : Int32).toInt64.toUInt64 &&& Int64.toUInt64 63)).toInt64 &&& (3689348814741910323 : Int64))) + ((((v0 - ((v0.toUInt64 >>> ((1 : Int32).toInt64.toUInt64 &&& Int64.toUInt64 63)).toInt64 &&& (6148914691236517205 : Int64))) &&& (3689348814741910323 : Int64)) + (((v0 - ((v0.toUInt64 >>> ((1 : Int32).toInt64.toUInt64 &&& Int64.toUInt64 63)).toInt64 &&& (6148914691236517205 : Int64))).toUInt64 >>> ((2 : Int32).toInt64.toUInt64 &&& Int64.toUInt64 63)).toInt64 &&& (3689348814741910323 : Int64))).toUInt64 >>> ((4 : Int32).toInt64.toUInt64 &&& Int64.toUInt64 63)).toInt64) &&& (1085102592571150095 : Int64)).toUInt64 >>> ((8 : Int32).toInt64.toUInt64 &&& Int64.toUInt64 63)).toInt64) + (((((((v0 - ((v0.toUInt64 >>> ((1 : Int32).toInt64.toUInt64 &&& Int64.toUInt64 63)).toInt64 &&& (6148914691236517205 : Int64))) &&& (3689348814741910323 : Int64)) + (((v0 - ((v0.toUInt64 >>> ((1 : Int32).toInt64.toUInt64 &&& Int64.toUInt64 63)).toInt64 &&& (6148914691236517205 : Int64))).toUInt64 >>> ((2 : Int32).toInt64.toUInt64 &&& Int64.toUInt64 63)).toInt64 &&& (3689348814741910323 : Int64))) + ((((v0 - ((v0.toUInt64 >>> ((1 : Int32).toInt64.toUInt64 &&& Int64.toUInt64 63)).toInt64 &&& (6148914691236517205 : Int64))) &&& (3689348814741910323 : Int64)) + (((v0 - ((v0.toUInt64 >>> ((1 : Int32).toInt64.toUInt64 &&& Int64.toUInt64 63)).toInt64 &&& (6148914691236517205 : Int64))).toUInt64 >>> ((2 : Int32).toInt64.toUInt64 &&& Int64.toUInt64 63)).toInt64 &&& (3689348814741910323 : Int64))).toUInt64 >>> ((4 : Int32).toInt64.toUInt64 &&& Int64.toUInt64 63)).toInt64) &&& (1085102592571150095 : Int64)) + ((((((v0 - ((v0.toUInt64 >>> ((1 : Int32).toInt64.toUInt64 &&& Int64.toUInt64 63)).toInt64 &&& (6148914691236517205 : Int64))) &&& (3689348814741910323 : Int64)) + (((v0 - ((v0.toUInt64 >>> ((1 : Int32).toInt64.toUInt64 &&& Int64.toUInt64 63)).toInt64 &&& (6148914691236517205 : Int64))).toUInt64 >>> ((2 : Int32).toInt64.toUInt64 &&& Int64.toUInt64 63)).toInt64 &&& (3689348814741910323 : Int64))) + ((((v0 - ((v0.toUInt64 >>> ((1 : Int32).toInt64.toUInt64 &&& Int64.toUInt64 63)).toInt64 &&& (6148914691236517205 : Int64))) &&& (3689348814741910323 : Int64)) + (((v0 - ((v0.toUInt64 >>> ((1 : Int32).toInt64.toUInt64 &&& Int64.toUInt64 63)).toInt64 &&& (6148914691236517205 : Int64))).toUInt64 >>> ((2 : Int32).toInt64.toUInt64 &&& Int64.toUInt64 63)).toInt64 &&& (3689348814741910323 : Int64))).toUInt64 >>> ((4 : Int32).toInt64.toUInt64 &&& Int64.toUInt64 63)).toInt64) &&& (1085102592571150095 : Int64)).toUInt64 >>> ((8 : Int32).toInt64.toUInt64 &&& Int64.toUInt64 63)).toInt64).toUInt64 >>> ((16 : Int32).toInt64.toUInt64 &&& Int64.toUInt64 63)).toInt64) + ((((((((v0 - ((v0.toUInt64 >>> ((1 : Int32).toInt64.toUInt64 &&& Int64.toUInt64 63)).toInt64 &&& (6148914691236517205 : Int64))) &&& (3689348814741910323 : Int64)) + (((v0 - ((v0.toUInt64 >>> ((1 : Int32).toInt64.toUInt64 &&& Int64.toUInt64 63)).toInt64 &&& (6148914691236517205 : Int64))).toUInt64 >>> ((2 : Int32).toInt64.toUInt64 &&& Int64.toUInt64 63)).toInt64 &&& (3689348814741910323 : Int64))) + ((((v0 - ((v0.toUInt64 >>> ((1 : Int32).toInt64.toUInt64 &&& Int64.toUInt64 63)).toInt64 &&& (6148914691236517205 : Int64))) &&& (3689348814741910323 : Int64)) + (((v0 - ((v0.toUInt64 >>> ((1 : Int32).toInt64.toUInt64 &&& Int64.toUInt64 63)).toInt64 &&& (6148914691236517205 : Int64))).toUInt64 >>> ((2 : Int32).toInt64.toUInt64 &&& Int64.toUInt64 63)).toInt64 &&& (3689348814741910323 : Int64))).toUInt64 >>> ((4 : Int32).toInt64.toUInt64 &&& Int64.toUInt64 63)).toInt64) &&& (1085102592571150095 : Int64)) + ((((((v0 - ((v0.toUInt64 >>> ((1 : Int32).toInt64.toUInt64 &&& Int64.toUInt64 63)).toInt64 &&& (6148914691236517205 : Int64))) &&& (3689348814741910323 : Int64)) + (((v0 - ((v0.toUInt64 >>> ((1 : Int32).toInt64.toUInt64 &&& Int64.toUInt64 63)).toInt64 &&& (6148914691236517205 : Int64))).toUInt64 >>> ((2 : Int32).toInt64.toUInt64 &&& Int64.toUInt64 63)).toInt64 &&& (3689348814741910323 : Int64))) + ((((v0 - ((v0.toUInt64 >>> ((1 : Int32).toInt64.toUInt64 &&& Int64.toUInt64 63)).toInt64 &&& (6148914691236517205 : Int64))) &&& (3689348814741910323 : Int64)) + (((v0 - ((v0.toUInt64 >>> ((1 : Int32).toInt64.toUInt64 &&& Int64.toUInt64 63)).toInt64 &&& (6148914691236517205 : Int64))).toUInt64 >>> ((2 : Int32).toInt64.toUInt64 &&& Int64.toUInt64 63)).toInt64 &&& (3689348814741910323 : Int64))).toUInt64 >>> ((4 : Int32).toInt64.toUInt64 &&& Int64.toUInt64 63)).toInt64) &&& (1085102592571150095 : Int64)).toUInt64 >>> ((8 : Int32).toInt64.toUInt64 &&& Int64.toUInt64 63)).toInt64) + (((((((v0 - ((v0.toUInt64 >>> ((1 : Int32).toInt64.toUInt64 &&& Int64.toUInt64 63)).toInt64 &&& (6148914691236517205 : Int64))) &&& (3689348814741910323 : Int64)) + (((v0 - ((v0.toUInt64 >>> ((1 : Int32).toInt64.toUInt64 &&& Int64.toUInt64 63)).toInt64 &&& (6148914691236517205 : Int64))).toUInt64 >>> ((2 : Int32).toInt64.toUInt64 &&& Int64.toUInt64 63)).toInt64 &&& (3689348814741910323 : Int64))) + ((((v0 - ((v0.toUInt64 >>> ((1 : Int32).toInt64.toUInt64 &&& Int64.toUInt64 63)).toInt64 &&& (6148914691236517205 : Int64))) &&& (3689348814741910323 : Int64)) + (((v0 - ((v0.toUInt64 >>> ((1 : Int32).toInt64.toUInt64 &&& Int64.toUInt64 63)).toInt64 &&& (6148914691236517205 : Int64))).toUInt64 >>> ((2 : Int32).toInt64.toUInt64 &&& Int64.toUInt64 63)).toInt64 &&& (3689348814741910323 : Int64))).toUInt64 >>> ((4 : Int32).toInt64.toUInt64 &&& Int64.toUInt64 63)).toInt64) &&& (1085102592571150095 : Int64)) + ((((((v0 - ((v0.toUInt64 >>> ((1 : Int32).toInt64.toUInt64 &&& Int64.toUInt64 63)).toInt64 &&& (6148914691236517205 : Int64))) &&& (3689348814741910323 : Int64)) + (((v0 - ((v0.toUInt64 >>> ((1 : Int32).toInt64.toUInt64 &&& Int64.toUInt64 63)).toInt64 &&& (6148914691236517205 : Int64))).toUInt64 >>> ((2 : Int32).toInt64.toUInt64 &&& Int64.toUInt64 63)).toInt64 &&& (3689348814741910323 : Int64))) + ((((v0 - ((v0.toUInt64 >>> ((1 : Int32).toInt64.toUInt64 &&& Int64.toUInt64 63)).toInt64 &&& (6148914691236517205 : Int64))) &&& (3689348814741910323 : Int64)) + (((v0 - ((v0.toUInt64 >>> ((1 : Int32).toInt64.toUInt64 &&& Int64.toUInt64 63)).toInt64 &&& (6148914691236517205 : Int64))).toUInt64 >>> ((2 : Int32).toInt64.toUInt64 &&& Int64.toUInt64 63)).toInt64 &&& (3689348814741910323 : Int64))).toUInt64 >>> ((4 : Int32).toInt64.toUInt64 &&& Int64.toUInt64 63)).toInt64) &&& (1085102592571150095 : Int64)).toUInt64 >>> ((8 : Int32).toInt64.toUInt64 &&& Int64.toUInt64 63)).toInt64).toUInt64 >>> ((16 : Int32).toInt64.toUInt64 &&& Int64.toUInt64 63)).toInt64).toUInt64 >>> ((32 : Int32).toInt64.toUInt64 &&& Int64.toUInt64 63)).toInt64).toInt32 &&& (127 : Int32))
set_option maxHeartbeats 4000000 in
set_option maxRecDepth 100000 in
theorem c_Long_bitCount (l : Launch) (X : xG) {H : Heap} (v0 : Int64) {res : Int32} (hf : f_Long_bitCount v0 = some res) : xM l y_Long_bitCount (Cond.code y_Long_bitCount prog_9_method_50_code 2 (some .int) :: xT) ({ frames := 0, cells := 0, slots := 0, locals := 0 } : Room) (xK X) [.long v0] H xNo (some (.int res)) (fun H1 => H1 = H) := by
  refine Met.ofW (cc := prog_9_method_50_code) (maxL := 2) (ret := (some .int)) (by decide) rfl ?_
  intro p e s m args below meth c s₁ B hml hv
  obtain ⟨ha, hH, hKK⟩ := hv
  subst hH
  have hx := B.exec
  have hb := B.bytes
  have hr := B.returns
  have ht : ∀ w ∈ xT, w.before args s = true := fun w h => atoms_spec (ws := (Cond.code y_Long_bitCount prog_9_method_50_code 2 (some .int) :: xT)) B.pre w (List.mem_cons_of_mem _ h)
  have hown : s.vm.findClass "java/lang/Long" = some m.cls := findClass_of_methodNamed B.named
  have hlocks := B.notSynchronized
  have hK := hKK.1
  rw [show entryFrame m args 2 = entryFrame m ([.long v0] : List Value).toArray 2 from by rw [ha]]
  clear ha
  have hl := lv_entry ([.long v0]) (n := 2) (Nat.le_of_ble_eq_true rfl)
  rw [lg_entry_eq]
  generalize (lg_sl ([.long v0]) ++ List.replicate (2 - (lg_sl ([.long v0])).length) Slot.unset).toArray = ls at hl ⊢
  replace hl : lv_has ls 2 [(0, .long v0)] := hl
  refine x_Q (fun Q hQ => ?_)
  unfold f_Long_bitCount at hf
  refine lv_lload_n hx hb d_Long_bitCount_0 rfl (lv_at hl 0 rfl) ?_
  refine lv_lload_n hx hb d_Long_bitCount_1 rfl (lv_at hl 0 rfl) ?_
  refine lv_iconst (v := (1 : Int32)) hx hb d_Long_bitCount_2 (by decide) ?_
  refine lv_lushr hx hb d_Long_bitCount_3 rfl ?_
  refine lv_ldc2 (v := (6148914691236517205 : Int64)) hx hb hown (ht _ xw_328) d_Long_bitCount_4 ?_
  refine lv_land hx hb d_Long_bitCount_7 ?_
  refine lv_lsub hx hb d_Long_bitCount_8 ?_
  refine lv_lstore_n (lv' := [(0, .long (v0 - ((v0.toUInt64 >>> ((1 : Int32).toInt64.toUInt64 &&& Int64.toUInt64 63)).toInt64 &&& (6148914691236517205 : Int64))))]) hx hb d_Long_bitCount_9 rfl hl (by decide) rfl (fun ls hl => ?_)
  refine lv_lload_n hx hb d_Long_bitCount_10 rfl (lv_at hl 0 rfl) ?_
  refine lv_ldc2 (v := (3689348814741910323 : Int64)) hx hb hown (ht _ xw_329) d_Long_bitCount_11 ?_
  refine lv_land hx hb d_Long_bitCount_14 ?_
  refine lv_lload_n hx hb d_Long_bitCount_15 rfl (lv_at hl 0 rfl) ?_
  refine lv_iconst (v := (2 : Int32)) hx hb d_Long_bitCount_16 (by decide) ?_
  refine lv_lushr hx hb d_Long_bitCount_17 rfl ?_
  refine lv_ldc2 (v := (3689348814741910323 : Int64)) hx hb hown (ht _ xw_329) d_Long_bitCount_18 ?_
  refine lv_land hx hb d_Long_bitCount_21 ?_
  refine lv_ladd hx hb d_Long_bitCount_22 ?_
  refine lv_lstore_n (lv' := [(0, .long (((v0 - ((v0.toUInt64 >>> ((1 : Int32).toInt64.toUInt64 &&& Int64.toUInt64 63)).toInt64 &&& (6148914691236517205 : Int64))) &&& (3689348814741910323 : Int64)) + (((v0 - ((v0.toUInt64 >>> ((1 : Int32).toInt64.toUInt64 &&& Int64.toUInt64 63)).toInt64 &&& (6148914691236517205 : Int64))).toUInt64 >>> ((2 : Int32).toInt64.toUInt64 &&& Int64.toUInt64 63)).toInt64 &&& (3689348814741910323 : Int64))))]) hx hb d_Long_bitCount_23 rfl hl (by decide) rfl (fun ls hl => ?_)
  refine lv_lload_n hx hb d_Long_bitCount_24 rfl (lv_at hl 0 rfl) ?_
  refine lv_lload_n hx hb d_Long_bitCount_25 rfl (lv_at hl 0 rfl) ?_
  refine lv_iconst (v := (4 : Int32)) hx hb d_Long_bitCount_26 (by decide) ?_
  refine lv_lushr hx hb d_Long_bitCount_27 rfl ?_
  refine lv_ladd hx hb d_Long_bitCount_28 ?_
  refine lv_ldc2 (v := (1085102592571150095 : Int64)) hx hb hown (ht _ xw_330) d_Long_bitCount_29 ?_
  refine lv_land hx hb d_Long_bitCount_32 ?_
  refine lv_lstore_n (lv' := [(0, .long (((((v0 - ((v0.toUInt64 >>> ((1 : Int32).toInt64.toUInt64 &&& Int64.toUInt64 63)).toInt64 &&& (6148914691236517205 : Int64))) &&& (3689348814741910323 : Int64)) + (((v0 - ((v0.toUInt64 >>> ((1 : Int32).toInt64.toUInt64 &&& Int64.toUInt64 63)).toInt64 &&& (6148914691236517205 : Int64))).toUInt64 >>> ((2 : Int32).toInt64.toUInt64 &&& Int64.toUInt64 63)).toInt64 &&& (3689348814741910323 : Int64))) + ((((v0 - ((v0.toUInt64 >>> ((1 : Int32).toInt64.toUInt64 &&& Int64.toUInt64 63)).toInt64 &&& (6148914691236517205 : Int64))) &&& (3689348814741910323 : Int64)) + (((v0 - ((v0.toUInt64 >>> ((1 : Int32).toInt64.toUInt64 &&& Int64.toUInt64 63)).toInt64 &&& (6148914691236517205 : Int64))).toUInt64 >>> ((2 : Int32).toInt64.toUInt64 &&& Int64.toUInt64 63)).toInt64 &&& (3689348814741910323 : Int64))).toUInt64 >>> ((4 : Int32).toInt64.toUInt64 &&& Int64.toUInt64 63)).toInt64) &&& (1085102592571150095 : Int64)))]) hx hb d_Long_bitCount_33 rfl hl (by decide) rfl (fun ls hl => ?_)
  refine lv_lload_n hx hb d_Long_bitCount_34 rfl (lv_at hl 0 rfl) ?_
  refine lv_lload_n hx hb d_Long_bitCount_35 rfl (lv_at hl 0 rfl) ?_
  refine lv_bipush (v := (8 : Int32)) hx hb d_Long_bitCount_36 (by decide) ?_
  refine lv_lushr hx hb d_Long_bitCount_38 rfl ?_
  refine lv_ladd hx hb d_Long_bitCount_39 ?_
  refine lv_lstore_n (lv' := [(0, .long ((((((v0 - ((v0.toUInt64 >>> ((1 : Int32).toInt64.toUInt64 &&& Int64.toUInt64 63)).toInt64 &&& (6148914691236517205 : Int64))) &&& (3689348814741910323 : Int64)) + (((v0 - ((v0.toUInt64 >>> ((1 : Int32).toInt64.toUInt64 &&& Int64.toUInt64 63)).toInt64 &&& (6148914691236517205 : Int64))).toUInt64 >>> ((2 : Int32).toInt64.toUInt64 &&& Int64.toUInt64 63)).toInt64 &&& (3689348814741910323 : Int64))) + ((((v0 - ((v0.toUInt64 >>> ((1 : Int32).toInt64.toUInt64 &&& Int64.toUInt64 63)).toInt64 &&& (6148914691236517205 : Int64))) &&& (3689348814741910323 : Int64)) + (((v0 - ((v0.toUInt64 >>> ((1 : Int32).toInt64.toUInt64 &&& Int64.toUInt64 63)).toInt64 &&& (6148914691236517205 : Int64))).toUInt64 >>> ((2 : Int32).toInt64.toUInt64 &&& Int64.toUInt64 63)).toInt64 &&& (3689348814741910323 : Int64))).toUInt64 >>> ((4 : Int32).toInt64.toUInt64 &&& Int64.toUInt64 63)).toInt64) &&& (1085102592571150095 : Int64)) + ((((((v0 - ((v0.toUInt64 >>> ((1 : Int32).toInt64.toUInt64 &&& Int64.toUInt64 63)).toInt64 &&& (6148914691236517205 : Int64))) &&& (3689348814741910323 : Int64)) + (((v0 - ((v0.toUInt64 >>> ((1 : Int32).toInt64.toUInt64 &&& Int64.toUInt64 63)).toInt64 &&& (6148914691236517205 : Int64))).toUInt64 >>> ((2 : Int32).toInt64.toUInt64 &&& Int64.toUInt64 63)).toInt64 &&& (3689348814741910323 : Int64))) + ((((v0 - ((v0.toUInt64 >>> ((1 : Int32).toInt64.toUInt64 &&& Int64.toUInt64 63)).toInt64 &&& (6148914691236517205 : Int64))) &&& (3689348814741910323 : Int64)) + (((v0 - ((v0.toUInt64 >>> ((1 : Int32).toInt64.toUInt64 &&& Int64.toUInt64 63)).toInt64 &&& (6148914691236517205 : Int64))).toUInt64 >>> ((2 : Int32).toInt64.toUInt64 &&& Int64.toUInt64 63)).toInt64 &&& (3689348814741910323 : Int64))).toUInt64 >>> ((4 : Int32).toInt64.toUInt64 &&& Int64.toUInt64 63)).toInt64) &&& (1085102592571150095 : Int64)).toUInt64 >>> ((8 : Int32).toInt64.toUInt64 &&& Int64.toUInt64 63)).toInt64))]) hx hb d_Long_bitCount_40 rfl hl (by decide) rfl (fun ls hl => ?_)
  refine lv_lload_n hx hb d_Long_bitCount_41 rfl (lv_at hl 0 rfl) ?_
  refine lv_lload_n hx hb d_Long_bitCount_42 rfl (lv_at hl 0 rfl) ?_
  refine lv_bipush (v := (16 : Int32)) hx hb d_Long_bitCount_43 (by decide) ?_
  refine lv_lushr hx hb d_Long_bitCount_45 rfl ?_
  refine lv_ladd hx hb d_Long_bitCount_46 ?_
  refine lv_lstore_n (lv' := [(0, .long (((((((v0 - ((v0.toUInt64 >>> ((1 : Int32).toInt64.toUInt64 &&& Int64.toUInt64 63)).toInt64 &&& (6148914691236517205 : Int64))) &&& (3689348814741910323 : Int64)) + (((v0 - ((v0.toUInt64 >>> ((1 : Int32).toInt64.toUInt64 &&& Int64.toUInt64 63)).toInt64 &&& (6148914691236517205 : Int64))).toUInt64 >>> ((2 : Int32).toInt64.toUInt64 &&& Int64.toUInt64 63)).toInt64 &&& (3689348814741910323 : Int64))) + ((((v0 - ((v0.toUInt64 >>> ((1 : Int32).toInt64.toUInt64 &&& Int64.toUInt64 63)).toInt64 &&& (6148914691236517205 : Int64))) &&& (3689348814741910323 : Int64)) + (((v0 - ((v0.toUInt64 >>> ((1 : Int32).toInt64.toUInt64 &&& Int64.toUInt64 63)).toInt64 &&& (6148914691236517205 : Int64))).toUInt64 >>> ((2 : Int32).toInt64.toUInt64 &&& Int64.toUInt64 63)).toInt64 &&& (3689348814741910323 : Int64))).toUInt64 >>> ((4 : Int32).toInt64.toUInt64 &&& Int64.toUInt64 63)).toInt64) &&& (1085102592571150095 : Int64)) + ((((((v0 - ((v0.toUInt64 >>> ((1 : Int32).toInt64.toUInt64 &&& Int64.toUInt64 63)).toInt64 &&& (6148914691236517205 : Int64))) &&& (3689348814741910323 : Int64)) + (((v0 - ((v0.toUInt64 >>> ((1 : Int32).toInt64.toUInt64 &&& Int64.toUInt64 63)).toInt64 &&& (6148914691236517205 : Int64))).toUInt64 >>> ((2 : Int32).toInt64.toUInt64 &&& Int64.toUInt64 63)).toInt64 &&& (3689348814741910323 : Int64))) + ((((v0 - ((v0.toUInt64 >>> ((1 : Int32).toInt64.toUInt64 &&& Int64.toUInt64 63)).toInt64 &&& (6148914691236517205 : Int64))) &&& (3689348814741910323 : Int64)) + (((v0 - ((v0.toUInt64 >>> ((1 : Int32).toInt64.toUInt64 &&& Int64.toUInt64 63)).toInt64 &&& (6148914691236517205 : Int64))).toUInt64 >>> ((2 : Int32).toInt64.toUInt64 &&& Int64.toUInt64 63)).toInt64 &&& (3689348814741910323 : Int64))).toUInt64 >>> ((4 : Int32).toInt64.toUInt64 &&& Int64.toUInt64 63)).toInt64) &&& (1085102592571150095 : Int64)).toUInt64 >>> ((8 : Int32).toInt64.toUInt64 &&& Int64.toUInt64 63)).toInt64) + (((((((v0 - ((v0.toUInt64 >>> ((1 : Int32).toInt64.toUInt64 &&& Int64.toUInt64 63)).toInt64 &&& (6148914691236517205 : Int64))) &&& (3689348814741910323 : Int64)) + (((v0 - ((v0.toUInt64 >>> ((1 : Int32).toInt64.toUInt64 &&& Int64.toUInt64 63)).toInt64 &&& (6148914691236517205 : Int64))).toUInt64 >>> ((2 : Int32).toInt64.toUInt64 &&& Int64.toUInt64 63)).toInt64 &&& (3689348814741910323 : Int64))) + ((((v0 - ((v0.toUInt64 >>> ((1 : Int32).toInt64.toUInt64 &&& Int64.toUInt64 63)).toInt64 &&& (6148914691236517205 : Int64))) &&& (3689348814741910323 : Int64)) + (((v0 - ((v0.toUInt64 >>> ((1 : Int32).toInt64.toUInt64 &&& Int64.toUInt64 63)).toInt64 &&& (6148914691236517205 : Int64))).toUInt64 >>> ((2 : Int32).toInt64.toUInt64 &&& Int64.toUInt64 63)).toInt64 &&& (3689348814741910323 : Int64))).toUInt64 >>> ((4 : Int32).toInt64.toUInt64 &&& Int64.toUInt64 63)).toInt64) &&& (1085102592571150095 : Int64)) + ((((((v0 - ((v0.toUInt64 >>> ((1 : Int32).toInt64.toUInt64 &&& Int64.toUInt64 63)).toInt64 &&& (6148914691236517205 : Int64))) &&& (3689348814741910323 : Int64)) + (((v0 - ((v0.toUInt64 >>> ((1 : Int32).toInt64.toUInt64 &&& Int64.toUInt64 63)).toInt64 &&& (6148914691236517205 : Int64))).toUInt64 >>> ((2 : Int32).toInt64.toUInt64 &&& Int64.toUInt64 63)).toInt64 &&& (3689348814741910323 : Int64))) + ((((v0 - ((v0.toUInt64 >>> ((1 : Int32).toInt64.toUInt64 &&& Int64.toUInt64 63)).toInt64 &&& (6148914691236517205 : Int64))) &&& (3689348814741910323 : Int64)) + (((v0 - ((v0.toUInt64 >>> ((1 : Int32).toInt64.toUInt64 &&& Int64.toUInt64 63)).toInt64 &&& (6148914691236517205 : Int64))).toUInt64 >>> ((2 : Int32).toInt64.toUInt64 &&& Int64.toUInt64 63)).toInt64 &&& (3689348814741910323 : Int64))).toUInt64 >>> ((4 : Int32).toInt64.toUInt64 &&& Int64.toUInt64 63)).toInt64) &&& (1085102592571150095 : Int64)).toUInt64 >>> ((8 : Int32).toInt64.toUInt64 &&& Int64.toUInt64 63)).toInt64).toUInt64 >>> ((16 : Int32).toInt64.toUInt64 &&& Int64.toUInt64 63)).toInt64))]) hx hb d_Long_bitCount_47 rfl hl (by decide) rfl (fun ls hl => ?_)
  refine lv_lload_n hx hb d_Long_bitCount_48 rfl (lv_at hl 0 rfl) ?_
  refine lv_lload_n hx hb d_Long_bitCount_49 rfl (lv_at hl 0 rfl) ?_
  refine lv_bipush (v := (32 : Int32)) hx hb d_Long_bitCount_50 (by decide) ?_
  refine lv_lushr hx hb d_Long_bitCount_52 rfl ?_
  refine lv_ladd hx hb d_Long_bitCount_53 ?_
  refine lv_lstore_n (lv' := [(0, .long ((((((((v0 - ((v0.toUInt64 >>> ((1 : Int32).toInt64.toUInt64 &&& Int64.toUInt64 63)).toInt64 &&& (6148914691236517205 : Int64))) &&& (3689348814741910323 : Int64)) + (((v0 - ((v0.toUInt64 >>> ((1 : Int32).toInt64.toUInt64 &&& Int64.toUInt64 63)).toInt64 &&& (6148914691236517205 : Int64))).toUInt64 >>> ((2 : Int32).toInt64.toUInt64 &&& Int64.toUInt64 63)).toInt64 &&& (3689348814741910323 : Int64))) + ((((v0 - ((v0.toUInt64 >>> ((1 : Int32).toInt64.toUInt64 &&& Int64.toUInt64 63)).toInt64 &&& (6148914691236517205 : Int64))) &&& (3689348814741910323 : Int64)) + (((v0 - ((v0.toUInt64 >>> ((1 : Int32).toInt64.toUInt64 &&& Int64.toUInt64 63)).toInt64 &&& (6148914691236517205 : Int64))).toUInt64 >>> ((2 : Int32).toInt64.toUInt64 &&& Int64.toUInt64 63)).toInt64 &&& (3689348814741910323 : Int64))).toUInt64 >>> ((4 : Int32).toInt64.toUInt64 &&& Int64.toUInt64 63)).toInt64) &&& (1085102592571150095 : Int64)) + ((((((v0 - ((v0.toUInt64 >>> ((1 : Int32).toInt64.toUInt64 &&& Int64.toUInt64 63)).toInt64 &&& (6148914691236517205 : Int64))) &&& (3689348814741910323 : Int64)) + (((v0 - ((v0.toUInt64 >>> ((1 : Int32).toInt64.toUInt64 &&& Int64.toUInt64 63)).toInt64 &&& (6148914691236517205 : Int64))).toUInt64 >>> ((2 : Int32).toInt64.toUInt64 &&& Int64.toUInt64 63)).toInt64 &&& (3689348814741910323 : Int64))) + ((((v0 - ((v0.toUInt64 >>> ((1 : Int32).toInt64.toUInt64 &&& Int64.toUInt64 63)).toInt64 &&& (6148914691236517205 : Int64))) &&& (3689348814741910323 : Int64)) + (((v0 - ((v0.toUInt64 >>> ((1 : Int32).toInt64.toUInt64 &&& Int64.toUInt64 63)).toInt64 &&& (6148914691236517205 : Int64))).toUInt64 >>> ((2 : Int32).toInt64.toUInt64 &&& Int64.toUInt64 63)).toInt64 &&& (3689348814741910323 : Int64))).toUInt64 >>> ((4 : Int32).toInt64.toUInt64 &&& Int64.toUInt64 63)).toInt64) &&& (1085102592571150095 : Int64)).toUInt64 >>> ((8 : Int32).toInt64.toUInt64 &&& Int64.toUInt64 63)).toInt64) + (((((((v0 - ((v0.toUInt64 >>> ((1 : Int32).toInt64.toUInt64 &&& Int64.toUInt64 63)).toInt64 &&& (6148914691236517205 : Int64))) &&& (3689348814741910323 : Int64)) + (((v0 - ((v0.toUInt64 >>> ((1 : Int32).toInt64.toUInt64 &&& Int64.toUInt64 63)).toInt64 &&& (6148914691236517205 : Int64))).toUInt64 >>> ((2 : Int32).toInt64.toUInt64 &&& Int64.toUInt64 63)).toInt64 &&& (3689348814741910323 : Int64))) + ((((v0 - ((v0.toUInt64 >>> ((1 : Int32).toInt64.toUInt64 &&& Int64.toUInt64 63)).toInt64 &&& (6148914691236517205 : Int64))) &&& (3689348814741910323 : Int64)) + (((v0 - ((v0.toUInt64 >>> ((1 : Int32).toInt64.toUInt64 &&& Int64.toUInt64 63)).toInt64 &&& (6148914691236517205 : Int64))).toUInt64 >>> ((2 : Int32).toInt64.toUInt64 &&& Int64.toUInt64 63)).toInt64 &&& (3689348814741910323 : Int64))).toUInt64 >>> ((4 : Int32).toInt64.toUInt64 &&& Int64.toUInt64 63)).toInt64) &&& (1085102592571150095 : Int64)) + ((((((v0 - ((v0.toUInt64 >>> ((1 : Int32).toInt64.toUInt64 &&& Int64.toUInt64 63)).toInt64 &&& (6148914691236517205 : Int64))) &&& (3689348814741910323 : Int64)) + (((v0 - ((v0.toUInt64 >>> ((1 : Int32).toInt64.toUInt64 &&& Int64.toUInt64 63)).toInt64 &&& (6148914691236517205 : Int64))).toUInt64 >>> ((2 : Int32).toInt64.toUInt64 &&& Int64.toUInt64 63)).toInt64 &&& (3689348814741910323 : Int64))) + ((((v0 - ((v0.toUInt64 >>> ((1 : Int32).toInt64.toUInt64 &&& Int64.toUInt64 63)).toInt64 &&& (6148914691236517205 : Int64))) &&& (3689348814741910323 : Int64)) + (((v0 - ((v0.toUInt64 >>> ((1 : Int32).toInt64.toUInt64 &&& Int64.toUInt64 63)).toInt64 &&& (6148914691236517205 : Int64))).toUInt64 >>> ((2 : Int32).toInt64.toUInt64 &&& Int64.toUInt64 63)).toInt64 &&& (3689348814741910323 : Int64))).toUInt64 >>> ((4 : Int32).toInt64.toUInt64 &&& Int64.toUInt64 63)).toInt64) &&& (1085102592571150095 : Int64)).toUInt64 >>> ((8 : Int32).toInt64.toUInt64 &&& Int64.toUInt64 63)).toInt64).toUInt64 >>> ((16 : Int32).toInt64.toUInt64 &&& Int64.toUInt64 63)).toInt64) + ((((((((v0 - ((v0.toUInt64 >>> ((1 : Int32).toInt64.toUInt64 &&& Int64.toUInt64 63)).toInt64 &&& (6148914691236517205 : Int64))) &&& (3689348814741910323 : Int64)) + (((v0 - ((v0.toUInt64 >>> ((1 : Int32).toInt64.toUInt64 &&& Int64.toUInt64 63)).toInt64 &&& (6148914691236517205 : Int64))).toUInt64 >>> ((2 : Int32).toInt64.toUInt64 &&& Int64.toUInt64 63)).toInt64 &&& (3689348814741910323 : Int64))) + ((((v0 - ((v0.toUInt64 >>> ((1 : Int32).toInt64.toUInt64 &&& Int64.toUInt64 63)).toInt64 &&& (6148914691236517205 : Int64))) &&& (3689348814741910323 : Int64)) + (((v0 - ((v0.toUInt64 >>> ((1 : Int32).toInt64.toUInt64 &&& Int64.toUInt64 63)).toInt64 &&& (6148914691236517205 : Int64))).toUInt64 >>> ((2 : Int32).toInt64.toUInt64 &&& Int64.toUInt64 63)).toInt64 &&& (3689348814741910323 : Int64))).toUInt64 >>> ((4 : Int32).toInt64.toUInt64 &&& Int64.toUInt64 63)).toInt64) &&& (1085102592571150095 : Int64)) + ((((((v0 - ((v0.toUInt64 >>> ((1 : Int32).toInt64.toUInt64 &&& Int64.toUInt64 63)).toInt64 &&& (6148914691236517205 : Int64))) &&& (3689348814741910323 : Int64)) + (((v0 - ((v0.toUInt64 >>> ((1 : Int32).toInt64.toUInt64 &&& Int64.toUInt64 63)).toInt64 &&& (6148914691236517205 : Int64))).toUInt64 >>> ((2 : Int32).toInt64.toUInt64 &&& Int64.toUInt64 63)).toInt64 &&& (3689348814741910323 : Int64))) + ((((v0 - ((v0.toUInt64 >>> ((1 : Int32).toInt64.toUInt64 &&& Int64.toUInt64 63)).toInt64 &&& (6148914691236517205 : Int64))) &&& (3689348814741910323 : Int64)) + (((v0 - ((v0.toUInt64 >>> ((1 : Int32).toInt64.toUInt64 &&& Int64.toUInt64 63)).toInt64 &&& (6148914691236517205 : Int64))).toUInt64 >>> ((2 : Int32).toInt64.toUInt64 &&& Int64.toUInt64 63)).toInt64 &&& (3689348814741910323 : Int64))).toUInt64 >>> ((4 : Int32).toInt64.toUInt64 &&& Int64.toUInt64 63)).toInt64) &&& (1085102592571150095 : Int64)).toUInt64 >>> ((8 : Int32).toInt64.toUInt64 &&& Int64.toUInt64 63)).toInt64) + (((((((v0 - ((v0.toUInt64 >>> ((1 : Int32).toInt64.toUInt64 &&& Int64.toUInt64 63)).toInt64 &&& (6148914691236517205 : Int64))) &&& (3689348814741910323 : Int64)) + (((v0 - ((v0.toUInt64 >>> ((1 : Int32).toInt64.toUInt64 &&& Int64.toUInt64 63)).toInt64 &&& (6148914691236517205 : Int64))).toUInt64 >>> ((2 : Int32).toInt64.toUInt64 &&& Int64.toUInt64 63)).toInt64 &&& (3689348814741910323 : Int64))) + ((((v0 - ((v0.toUInt64 >>> ((1 : Int32).toInt64.toUInt64 &&& Int64.toUInt64 63)).toInt64 &&& (6148914691236517205 : Int64))) &&& (3689348814741910323 : Int64)) + (((v0 - ((v0.toUInt64 >>> ((1 : Int32).toInt64.toUInt64 &&& Int64.toUInt64 63)).toInt64 &&& (6148914691236517205 : Int64))).toUInt64 >>> ((2 : Int32).toInt64.toUInt64 &&& Int64.toUInt64 63)).toInt64 &&& (3689348814741910323 : Int64))).toUInt64 >>> ((4 : Int32).toInt64.toUInt64 &&& Int64.toUInt64 63)).toInt64) &&& (1085102592571150095 : Int64)) + ((((((v0 - ((v0.toUInt64 >>> ((1 : Int32).toInt64.toUInt64 &&& Int64.toUInt64 63)).toInt64 &&& (6148914691236517205 : Int64))) &&& (3689348814741910323 : Int64)) + (((v0 - ((v0.toUInt64 >>> ((1 : Int32).toInt64.toUInt64 &&& Int64.toUInt64 63)).toInt64 &&& (6148914691236517205 : Int64))).toUInt64 >>> ((2 : Int32).toInt64.toUInt64 &&& Int64.toUInt64 63)).toInt64 &&& (3689348814741910323 : Int64))) + ((((v0 - ((v0.toUInt64 >>> ((1 : Int32).toInt64.toUInt64 &&& Int64.toUInt64 63)).toInt64 &&& (6148914691236517205 : Int64))) &&& (3689348814741910323 : Int64)) + (((v0 - ((v0.toUInt64 >>> ((1 : Int32).toInt64.toUInt64 &&& Int64.toUInt64 63)).toInt64 &&& (6148914691236517205 : Int64))).toUInt64 >>> ((2 : Int32).toInt64.toUInt64 &&& Int64.toUInt64 63)).toInt64 &&& (3689348814741910323 : Int64))).toUInt64 >>> ((4 : Int32).toInt64.toUInt64 &&& Int64.toUInt64 63)).toInt64) &&& (1085102592571150095 : Int64)).toUInt64 >>> ((8 : Int32).toInt64.toUInt64 &&& Int64.toUInt64 63)).toInt64).toUInt64 >>> ((16 : Int32).toInt64.toUInt64 &&& Int64.toUInt64 63)).toInt64).toUInt64 >>> ((32 : Int32).toInt64.toUInt64 &&& Int64.toUInt64 63)).toInt64))]) hx hb d_Long_bitCount_54 rfl hl (by decide) rfl (fun ls hl => ?_)
  refine lv_lload_n hx hb d_Long_bitCount_55 rfl (lv_at hl 0 rfl) ?_
  refine lv_l2i hx hb d_Long_bitCount_56 rfl ?_
  refine lv_bipush (v := (127 : Int32)) hx hb d_Long_bitCount_57 (by decide) ?_
  refine lv_iand hx hb d_Long_bitCount_59 ?_
  replace hf := x_s hf
  subst hf
  subst hQ
  exact W.iret (v := (((((((((v0 - ((v0.toUInt64 >>> ((1 : Int32).toInt64.toUInt64 &&& Int64.toUInt64 63)).toInt64 &&& (6148914691236517205 : Int64))) &&& (3689348814741910323 : Int64)) + (((v0 - ((v0.toUInt64 >>> ((1 : Int32).toInt64.toUInt64 &&& Int64.toUInt64 63)).toInt64 &&& (6148914691236517205 : Int64))).toUInt64 >>> ((2 : Int32).toInt64.toUInt64 &&& Int64.toUInt64 63)).toInt64 &&& (3689348814741910323 : Int64))) + ((((v0 - ((v0.toUInt64 >>> ((1 : Int32).toInt64.toUInt64 &&& Int64.toUInt64 63)).toInt64 &&& (6148914691236517205 : Int64))) &&& (3689348814741910323 : Int64)) + (((v0 - ((v0.toUInt64 >>> ((1 : Int32).toInt64.toUInt64 &&& Int64.toUInt64 63)).toInt64 &&& (6148914691236517205 : Int64))).toUInt64 >>> ((2 : Int32).toInt64.toUInt64 &&& Int64.toUInt64 63)).toInt64 &&& (3689348814741910323 : Int64))).toUInt64 >>> ((4 : Int32).toInt64.toUInt64 &&& Int64.toUInt64 63)).toInt64) &&& (1085102592571150095 : Int64)) + ((((((v0 - ((v0.toUInt64 >>> ((1 : Int32).toInt64.toUInt64 &&& Int64.toUInt64 63)).toInt64 &&& (6148914691236517205 : Int64))) &&& (3689348814741910323 : Int64)) + (((v0 - ((v0.toUInt64 >>> ((1 : Int32).toInt64.toUInt64 &&& Int64.toUInt64 63)).toInt64 &&& (6148914691236517205 : Int64))).toUInt64 >>> ((2 : Int32).toInt64.toUInt64 &&& Int64.toUInt64 63)).toInt64 &&& (3689348814741910323 : Int64))) + ((((v0 - ((v0.toUInt64 >>> ((1 : Int32).toInt64.toUInt64 &&& Int64.toUInt64 63)).toInt64 &&& (6148914691236517205 : Int64))) &&& (3689348814741910323 : Int64)) + (((v0 - ((v0.toUInt64 >>> ((1 : Int32).toInt64.toUInt64 &&& Int64.toUInt64 63)).toInt64 &&& (6148914691236517205 : Int64))).toUInt64 >>> ((2 : Int32).toInt64.toUInt64 &&& Int64.toUInt64 63)).toInt64 &&& (3689348814741910323 : Int64))).toUInt64 >>> ((4 : Int32).toInt64.toUInt64 &&& Int64.toUInt64 63)).toInt64) &&& (1085102592571150095 : Int64)).toUInt64 >>> ((8 : Int32).toInt64.toUInt64 &&& Int64.toUInt64 63)).toInt64) + (((((((v0 - ((v0.toUInt64 >>> ((1 : Int32).toInt64.toUInt64 &&& Int64.toUInt64 63)).toInt64 &&& (6148914691236517205 : Int64))) &&& (3689348814741910323 : Int64)) + (((v0 - ((v0.toUInt64 >>> ((1 : Int32).toInt64.toUInt64 &&& Int64.toUInt64 63)).toInt64 &&& (6148914691236517205 : Int64))).toUInt64 >>> ((2 : Int32).toInt64.toUInt64 &&& Int64.toUInt64 63)).toInt64 &&& (3689348814741910323 : Int64))) + ((((v0 - ((v0.toUInt64 >>> ((1 : Int32).toInt64.toUInt64 &&& Int64.toUInt64 63)).toInt64 &&& (6148914691236517205 : Int64))) &&& (3689348814741910323 : Int64)) + (((v0 - ((v0.toUInt64 >>> ((1 : Int32).toInt64.toUInt64 &&& Int64.toUInt64 63)).toInt64 &&& (6148914691236517205 : Int64))).toUInt64 >>> ((2 : Int32).toInt64.toUInt64 &&& Int64.toUInt64 63)).toInt64 &&& (3689348814741910323 : Int64))).toUInt64 >>> ((4 : Int32).toInt64.toUInt64 &&& Int64.toUInt64 63)).toInt64) &&& (1085102592571150095 : Int64)) + ((((((v0 - ((v0.toUInt64 >>> ((1 : Int32).toInt64.toUInt64 &&& Int64.toUInt64 63)).toInt64 &&& (6148914691236517205 : Int64))) &&& (3689348814741910323 : Int64)) + (((v0 - ((v0.toUInt64 >>> ((1 : Int32).toInt64.toUInt64 &&& Int64.toUInt64 63)).toInt64 &&& (6148914691236517205 : Int64))).toUInt64 >>> ((2 : Int32).toInt64.toUInt64 &&& Int64.toUInt64 63)).toInt64 &&& (3689348814741910323 : Int64))) + ((((v0 - ((v0.toUInt64 >>> ((1 : Int32).toInt64.toUInt64 &&& Int64.toUInt64 63)).toInt64 &&& (6148914691236517205 : Int64))) &&& (3689348814741910323 : Int64)) + (((v0 - ((v0.toUInt64 >>> ((1 : Int32).toInt64.toUInt64 &&& Int64.toUInt64 63)).toInt64 &&& (6148914691236517205 : Int64))).toUInt64 >>> ((2 : Int32).toInt64.toUInt64 &&& Int64.toUInt64 63)).toInt64 &&& (3689348814741910323 : Int64))).toUInt64 >>> ((4 : Int32).toInt64.toUInt64 &&& Int64.toUInt64 63)).toInt64) &&& (1085102592571150095 : Int64)).toUInt64 >>> ((8 : Int32).toInt64.toUInt64 &&& Int64.toUInt64 63)).toInt64).toUInt64 >>> ((16 : Int32).toInt64.toUInt64 &&& Int64.toUInt64 63)).toInt64) + ((((((((v0 - ((v0.toUInt64 >>> ((1 : Int32).toInt64.toUInt64 &&& Int64.toUInt64 63)).toInt64 &&& (6148914691236517205 : Int64))) &&& (3689348814741910323 : Int64)) + (((v0 - ((v0.toUInt64 >>> ((1 : Int32).toInt64.toUInt64 &&& Int64.toUInt64 63)).toInt64 &&& (6148914691236517205 : Int64))).toUInt64 >>> ((2 : Int32).toInt64.toUInt64 &&& Int64.toUInt64 63)).toInt64 &&& (3689348814741910323 : Int64))) + ((((v0 - ((v0.toUInt64 >>> ((1 : Int32).toInt64.toUInt64 &&& Int64.toUInt64 63)).toInt64 &&& (6148914691236517205 : Int64))) &&& (3689348814741910323 : Int64)) + (((v0 - ((v0.toUInt64 >>> ((1 : Int32).toInt64.toUInt64 &&& Int64.toUInt64 63)).toInt64 &&& (6148914691236517205 : Int64))).toUInt64 >>> ((2 : Int32).toInt64.toUInt64 &&& Int64.toUInt64 63)).toInt64 &&& (3689348814741910323 : Int64))).toUInt64 >>> ((4 : Int32).toInt64.toUInt64 &&& Int64.toUInt64 63)).toInt64) &&& (1085102592571150095 : Int64)) + ((((((v0 - ((v0.toUInt64 >>> ((1 : Int32).toInt64.toUInt64 &&& Int64.toUInt64 63)).toInt64 &&& (6148914691236517205 : Int64))) &&& (3689348814741910323 : Int64)) + (((v0 - ((v0.toUInt64 >>> ((1 : Int32).toInt64.toUInt64 &&& Int64.toUInt64 63)).toInt64 &&& (6148914691236517205 : Int64))).toUInt64 >>> ((2 : Int32).toInt64.toUInt64 &&& Int64.toUInt64 63)).toInt64 &&& (3689348814741910323 : Int64))) + ((((v0 - ((v0.toUInt64 >>> ((1 : Int32).toInt64.toUInt64 &&& Int64.toUInt64 63)).toInt64 &&& (6148914691236517205 : Int64))) &&& (3689348814741910323 : Int64)) + (((v0 - ((v0.toUInt64 >>> ((1 : Int32).toInt64.toUInt64 &&& Int64.toUInt64 63)).toInt64 &&& (6148914691236517205 : Int64))).toUInt64 >>> ((2 : Int32).toInt64.toUInt64 &&& Int64.toUInt64 63)).toInt64 &&& (3689348814741910323 : Int64))).toUInt64 >>> ((4 : Int32).toInt64.toUInt64 &&& Int64.toUInt64 63)).toInt64) &&& (1085102592571150095 : Int64)).toUInt64 >>> ((8 : Int32).toInt64.toUInt64 &&& Int64.toUInt64 63)).toInt64) + (((((((v0 - ((v0.toUInt64 >>> ((1 : Int32).toInt64.toUInt64 &&& Int64.toUInt64 63)).toInt64 &&& (6148914691236517205 : Int64))) &&& (3689348814741910323 : Int64)) + (((v0 - ((v0.toUInt64 >>> ((1 : Int32).toInt64.toUInt64 &&& Int64.toUInt64 63)).toInt64 &&& (6148914691236517205 : Int64))).toUInt64 >>> ((2 : Int32).toInt64.toUInt64 &&& Int64.toUInt64 63)).toInt64 &&& (3689348814741910323 : Int64))) + ((((v0 - ((v0.toUInt64 >>> ((1 : Int32).toInt64.toUInt64 &&& Int64.toUInt64 63)).toInt64 &&& (6148914691236517205 : Int64))) &&& (3689348814741910323 : Int64)) + (((v0 - ((v0.toUInt64 >>> ((1 : Int32).toInt64.toUInt64 &&& Int64.toUInt64 63)).toInt64 &&& (6148914691236517205 : Int64))).toUInt64 >>> ((2 : Int32).toInt64.toUInt64 &&& Int64.toUInt64 63)).toInt64 &&& (3689348814741910323 : Int64))).toUInt64 >>> ((4 : Int32).toInt64.toUInt64 &&& Int64.toUInt64 63)).toInt64) &&& (1085102592571150095 : Int64)) + ((((((v0 - ((v0.toUInt64 >>> ((1 : Int32).toInt64.toUInt64 &&& Int64.toUInt64 63)).toInt64 &&& (6148914691236517205 : Int64))) &&& (3689348814741910323 : Int64)) + (((v0 - ((v0.toUInt64 >>> ((1 : Int32).toInt64.toUInt64 &&& Int64.toUInt64 63)).toInt64 &&& (6148914691236517205 : Int64))).toUInt64 >>> ((2 : Int32).toInt64.toUInt64 &&& Int64.toUInt64 63)).toInt64 &&& (3689348814741910323 : Int64))) + ((((v0 - ((v0.toUInt64 >>> ((1 : Int32).toInt64.toUInt64 &&& Int64.toUInt64 63)).toInt64 &&& (6148914691236517205 : Int64))) &&& (3689348814741910323 : Int64)) + (((v0 - ((v0.toUInt64 >>> ((1 : Int32).toInt64.toUInt64 &&& Int64.toUInt64 63)).toInt64 &&& (6148914691236517205 : Int64))).toUInt64 >>> ((2 : Int32).toInt64.toUInt64 &&& Int64.toUInt64 63)).toInt64 &&& (3689348814741910323 : Int64))).toUInt64 >>> ((4 : Int32).toInt64.toUInt64 &&& Int64.toUInt64 63)).toInt64) &&& (1085102592571150095 : Int64)).toUInt64 >>> ((8 : Int32).toInt64.toUInt64 &&& Int64.toUInt64 63)).toInt64).toUInt64 >>> ((16 : Int32).toInt64.toUInt64 &&& Int64.toUInt64 63)).toInt64).toUInt64 >>> ((32 : Int32).toInt64.toUInt64 &&& Int64.toUInt64 63)).toInt64).toInt32 &&& (127 : Int32))) hx hb hr (fun t ht hW => ⟨⟨rfl, ht⟩, x_F0 ht⟩) x_l0 d_Long_bitCount_60
end
section
def f_Box_layBeside_105 (o1 : t_Piece) (s0 : Int32) (o0 : t_Box) : Option (t_Box) :=
  some (Box_u_bottom o0 s0)
def f_Box_layBeside_88 (o1 : t_Piece) (v3 : Int32) (v10 : Int32) (s0 : Int32) (o0 : t_Box) : Option (t_Box) :=
  if (Piece_alongX o1) = 0 then
  (f_Box_layBeside_105 o1) v3 (Box_u_top o0 s0)
else
  (f_Box_layBeside_105 o1) v10 (Box_u_top o0 s0)
def f_Box_layBeside_71 (o1 : t_Piece) (v2 : Int32) (v3 : Int32) (v9 : Int32) (v10 : Int32) (s0 : Int32) (o0 : t_Box) : Option (t_Box) :=
  if (Piece_alongX o1) = 0 then
  (f_Box_layBeside_88 o1) v3 v10 v2 (Box_u_right o0 s0)
else
  (f_Box_layBeside_88 o1) v3 v10 v9 (Box_u_right o0 s0)
def f_Box_layBeside_54 (o1 : t_Piece) (v2 : Int32) (v3 : Int32) (v9 : Int32) (v10 : Int32) (s0 : Int32) (o0 : t_Box) : Option (t_Box) :=
  if (Piece_alongX o1) = 0 then
  (f_Box_layBeside_71 o1) v2 v3 v9 v10 v10 (Box_u_left o0 s0)
else
  (f_Box_layBeside_71 o1) v2 v3 v9 v10 v3 (Box_u_left o0 s0)
def f_Box_layBeside (o1 : t_Piece) (v2 : Int32) (v3 : Int32) (v4 : Int32) (v5 : Int32) (v6 : Int32) (o0 : t_Box) : Option (t_Box) :=
  if (Piece_alongX o1) = 0 then
  (f_Box_layBeside_54 o1) v2 v3 (if (((Piece_line o1) + (v4 * v5)) + (v4 * v6)) < ((Piece_line o1) + (v4 * v5)) then (((Piece_line o1) + (v4 * v5)) + (v4 * v6)) else ((Piece_line o1) + (v4 * v5))) (if ((Piece_line o1) + (v4 * v5)) < (((Piece_line o1) + (v4 * v5)) + (v4 * v6)) then (((Piece_line o1) + (v4 * v5)) + (v4 * v6)) else ((Piece_line o1) + (v4 * v5))) (if (((Piece_line o1) + (v4 * v5)) + (v4 * v6)) < ((Piece_line o1) + (v4 * v5)) then (((Piece_line o1) + (v4 * v5)) + (v4 * v6)) else ((Piece_line o1) + (v4 * v5))) o0
else
  (f_Box_layBeside_54 o1) v2 v3 (if (((Piece_line o1) + (v4 * v5)) + (v4 * v6)) < ((Piece_line o1) + (v4 * v5)) then (((Piece_line o1) + (v4 * v5)) + (v4 * v6)) else ((Piece_line o1) + (v4 * v5))) (if ((Piece_line o1) + (v4 * v5)) < (((Piece_line o1) + (v4 * v5)) + (v4 * v6)) then (((Piece_line o1) + (v4 * v5)) + (v4 * v6)) else ((Piece_line o1) + (v4 * v5))) v2 o0
set_option maxHeartbeats 4000000 in
set_option maxRecDepth 100000 in
theorem c_Box_layBeside (l : Launch) (X : xG) {H : Heap} (h0 : Nat) (o0 : t_Box) (h1 : Nat) (o1 : t_Piece) (v2 : Int32) (v3 : Int32) (v4 : Int32) (v5 : Int32) (v6 : Int32) {res : t_Box} (hP0 : va_P X.1 vwCl (w_Box X h0 o0) H) (hP1 : va_P X.1 vwCl (w_Piece X h1 o1) H) (hnd : [h0].Nodup) (hno1 : ∀ q ∈ [h1], ¬ xAl [h0] q) (hf : f_Box_layBeside o1 v2 v3 v4 v5 v6 o0 = some res) : xM l y_Box_layBeside (Cond.code y_Box_layBeside prog_2_method_2_code 11 none :: xT) ({ frames := 1, cells := 0, slots := 0, locals := 21 } : Room) (xK X) [.ref h0, .ref h1, .int v2, .int v3, .int v4, .int v5, .int v6] H (xAl [h0]) none (fun H1 => va_P X.1 vwCl (w_Box X h0 res) H1) := by
  refine Met.ofW (cc := prog_2_method_2_code) (maxL := 11) (ret := none) (by decide) rfl ?_
  intro p e s m args below meth c s₁ B hml hv
  obtain ⟨ha, hH, hKK⟩ := hv
  subst hH
  have hx := B.exec
  have hb := B.bytes
  have hr := B.returns
  have ht : ∀ w ∈ xT, w.before args s = true := fun w h => atoms_spec (ws := (Cond.code y_Box_layBeside prog_2_method_2_code 11 none :: xT)) B.pre w (List.mem_cons_of_mem _ h)
  have hown : s.vm.findClass "MaskEdges$Box" = some m.cls := findClass_of_methodNamed B.named
  have hlocks := B.notSynchronized
  have hK := hKK.1
  rw [show entryFrame m args 11 = entryFrame m ([.ref h0, .ref h1, .int v2, .int v3, .int v4, .int v5, .int v6] : List Value).toArray 11 from by rw [ha]]
  clear ha
  have hP := hP0
  have hD : va_D (xAl [h0]) (w_Box X h0 o0) := xDl rfl hnd
  have hS : va_S (xAl [h0]) s.heap s.heap [] := va_S.rf
  have hl := lv_entry ([.ref h0, .ref h1, .int v2, .int v3, .int v4, .int v5, .int v6]) (n := 11) (Nat.le_of_ble_eq_true rfl)
  rw [lg_entry_eq]
  generalize (lg_sl ([.ref h0, .ref h1, .int v2, .int v3, .int v4, .int v5, .int v6]) ++ List.replicate (11 - (lg_sl ([.ref h0, .ref h1, .int v2, .int v3, .int v4, .int v5, .int v6])).length) Slot.unset).toArray = ls at hl ⊢
  replace hl : lv_has ls 11 [(0, .ref h0), (1, .ref h1), (2, .int v2), (3, .int v3), (4, .int v4), (5, .int v5), (6, .int v6)] := hl
  refine x_Q (fun Q hQ => ?_)
  have hL105 : ∀ (s0 : Int32) (o0 : t_Box), ∀ (H : Heap) (locs : List Loc), va_P X.1 vwCl (w_Box X h0 o0) H → va_S (xAl [h0]) s.heap H locs → ∀ (ls : Array Slot), lv_has ls 11 [] → f_Box_layBeside_105 o1 s0 o0 = some res → W p l e (headSpec (Cond.code y_Box_layBeside prog_2_method_2_code 11 none :: xT) ({ frames := 1, cells := 0, slots := 0, locals := 21 } : Room)).room s m args below meth c H locs 0 0 Q (F0 m 105 ls [.int s0, .ref h0]) := by
    intro s0 o0 H locs hP hS ls hl hf
    unfold f_Box_layBeside_105 at hf
    have hD : va_D (xAl [h0]) (w_Box X h0 o0) := xDl rfl hnd
    refine va_put (D := X.1) (ci := 0) (v := .int s0) (ty := .int) (C := "MaskEdges$Box") (T := F_Box) (N := 4) hx hb ht in_Box ty_Box tyk_Box nm_Box hown hK hP hD hS 0 rfl rfl 3 (by decide) (ht _ xw_93) (fun _ h9 => h9) rfl (by decide +kernel) rfl rfl (Nat.le_of_ble_eq_true rfl) d_Box_layBeside_105 (fun H locs hP hD hS => ?_)
    replace hP : va_P X.1 vwCl (w_Box X h0 (Box_u_bottom o0 s0)) H := hP
    replace hD : va_D _ (w_Box X h0 (Box_u_bottom o0 s0)) := hD
    replace hf := x_s hf
    subst hf
    subst hQ
    exact W.vret hx hb hr (fun t ht hW => ⟨⟨rfl, by rw [ht]; exact hP⟩, hS.F ht⟩) hS.2.2 d_Box_layBeside_108
  have hL88 : ∀ (v3 : Int32) (v10 : Int32) (s0 : Int32) (o0 : t_Box), ∀ (H : Heap) (locs : List Loc), va_P X.1 vwCl (w_Box X h0 o0) H → va_S (xAl [h0]) s.heap H locs → ∀ (ls : Array Slot), lv_has ls 11 [(0, .ref h0), (1, .ref h1), (3, .int v3), (10, .int v10)] → f_Box_layBeside_88 o1 v3 v10 s0 o0 = some res → W p l e (headSpec (Cond.code y_Box_layBeside prog_2_method_2_code 11 none :: xT) ({ frames := 1, cells := 0, slots := 0, locals := 21 } : Room)).room s m args below meth c H locs 0 0 Q (F0 m 88 ls [.int s0, .ref h0]) := by
    intro v3 v10 s0 o0 H locs hP hS ls hl hf
    unfold f_Box_layBeside_88 at hf
    have hD : va_D (xAl [h0]) (w_Box X h0 o0) := xDl rfl hnd
    refine va_put (D := X.1) (ci := 0) (v := .int s0) (ty := .int) (C := "MaskEdges$Box") (T := F_Box) (N := 4) hx hb ht in_Box ty_Box tyk_Box nm_Box hown hK hP hD hS 0 rfl rfl 1 (by decide) (ht _ xw_87) (fun _ h9 => h9) rfl (by decide +kernel) rfl rfl (Nat.le_of_ble_eq_true rfl) d_Box_layBeside_88 (fun H locs hP hD hS => ?_)
    replace hP : va_P X.1 vwCl (w_Box X h0 (Box_u_top o0 s0)) H := hP
    replace hD : va_D _ (w_Box X h0 (Box_u_top o0 s0)) := hD
    refine lv_aload_n hx hb d_Box_layBeside_91 rfl (lv_at hl 0 rfl) ?_
    refine lv_aload_n hx hb d_Box_layBeside_92 rfl (lv_at hl 1 rfl) ?_
    refine va_get (D := X.1) (ci := 4) (v := .int (Piece_alongX o1)) (C := "MaskEdges$Piece") (T := F_Piece) (N := 12) hx hb ht in_Piece hown hK (xkept hP1 hno1 hS) 0 rfl rfl 0 (by decide) (ht _ xw_121) (fun _ h9 => h9) rfl d_Box_layBeside_93 ?_
    refine lv_if_eq (tgt := 104) hx hb d_Box_layBeside_96 (by decide) (fun hc => ?_) (fun hc => ?_)
    · replace hf := x_t hc hf
      refine lv_iload_n hx hb d_Box_layBeside_104 rfl (lv_at hl 2 rfl) ?_
      exact hL105 v3 (Box_u_top o0 s0) _ _ hP hS ls (lv_sub hl [] rfl) hf
    · replace hf := x_f hc hf
      refine lv_iload hx hb d_Box_layBeside_99 (lv_at hl 3 rfl) ?_
      refine lv_goto (tgt := 105) hx hb d_Box_layBeside_101 (by decide) ?_
      exact hL105 v10 (Box_u_top o0 s0) _ _ hP hS ls (lv_sub hl [] rfl) hf
  have hL71 : ∀ (v2 : Int32) (v3 : Int32) (v9 : Int32) (v10 : Int32) (s0 : Int32) (o0 : t_Box), ∀ (H : Heap) (locs : List Loc), va_P X.1 vwCl (w_Box X h0 o0) H → va_S (xAl [h0]) s.heap H locs → ∀ (ls : Array Slot), lv_has ls 11 [(0, .ref h0), (1, .ref h1), (2, .int v2), (3, .int v3), (9, .int v9), (10, .int v10)] → f_Box_layBeside_71 o1 v2 v3 v9 v10 s0 o0 = some res → W p l e (headSpec (Cond.code y_Box_layBeside prog_2_method_2_code 11 none :: xT) ({ frames := 1, cells := 0, slots := 0, locals := 21 } : Room)).room s m args below meth c H locs 0 0 Q (F0 m 71 ls [.int s0, .ref h0]) := by
    intro v2 v3 v9 v10 s0 o0 H locs hP hS ls hl hf
    unfold f_Box_layBeside_71 at hf
    have hD : va_D (xAl [h0]) (w_Box X h0 o0) := xDl rfl hnd
    refine va_put (D := X.1) (ci := 0) (v := .int s0) (ty := .int) (C := "MaskEdges$Box") (T := F_Box) (N := 4) hx hb ht in_Box ty_Box tyk_Box nm_Box hown hK hP hD hS 0 rfl rfl 2 (by decide) (ht _ xw_90) (fun _ h9 => h9) rfl (by decide +kernel) rfl rfl (Nat.le_of_ble_eq_true rfl) d_Box_layBeside_71 (fun H locs hP hD hS => ?_)
    replace hP : va_P X.1 vwCl (w_Box X h0 (Box_u_right o0 s0)) H := hP
    replace hD : va_D _ (w_Box X h0 (Box_u_right o0 s0)) := hD
    refine lv_aload_n hx hb d_Box_layBeside_74 rfl (lv_at hl 0 rfl) ?_
    refine lv_aload_n hx hb d_Box_layBeside_75 rfl (lv_at hl 1 rfl) ?_
    refine va_get (D := X.1) (ci := 4) (v := .int (Piece_alongX o1)) (C := "MaskEdges$Piece") (T := F_Piece) (N := 12) hx hb ht in_Piece hown hK (xkept hP1 hno1 hS) 0 rfl rfl 0 (by decide) (ht _ xw_121) (fun _ h9 => h9) rfl d_Box_layBeside_76 ?_
    refine lv_if_eq (tgt := 87) hx hb d_Box_layBeside_79 (by decide) (fun hc => ?_) (fun hc => ?_)
    · replace hf := x_t hc hf
      refine lv_iload_n hx hb d_Box_layBeside_87 rfl (lv_at hl 2 rfl) ?_
      exact hL88 v3 v10 v2 (Box_u_right o0 s0) _ _ hP hS ls (lv_sub hl [0, 1, 3, 5] rfl) hf
    · replace hf := x_f hc hf
      refine lv_iload hx hb d_Box_layBeside_82 (lv_at hl 4 rfl) ?_
      refine lv_goto (tgt := 88) hx hb d_Box_layBeside_84 (by decide) ?_
      exact hL88 v3 v10 v9 (Box_u_right o0 s0) _ _ hP hS ls (lv_sub hl [0, 1, 3, 5] rfl) hf
  have hL54 : ∀ (v2 : Int32) (v3 : Int32) (v9 : Int32) (v10 : Int32) (s0 : Int32) (o0 : t_Box), ∀ (H : Heap) (locs : List Loc), va_P X.1 vwCl (w_Box X h0 o0) H → va_S (xAl [h0]) s.heap H locs → ∀ (ls : Array Slot), lv_has ls 11 [(0, .ref h0), (1, .ref h1), (2, .int v2), (3, .int v3), (9, .int v9), (10, .int v10)] → f_Box_layBeside_54 o1 v2 v3 v9 v10 s0 o0 = some res → W p l e (headSpec (Cond.code y_Box_layBeside prog_2_method_2_code 11 none :: xT) ({ frames := 1, cells := 0, slots := 0, locals := 21 } : Room)).room s m args below meth c H locs 0 0 Q (F0 m 54 ls [.int s0, .ref h0]) := by
    intro v2 v3 v9 v10 s0 o0 H locs hP hS ls hl hf
    unfold f_Box_layBeside_54 at hf
    have hD : va_D (xAl [h0]) (w_Box X h0 o0) := xDl rfl hnd
    refine va_put (D := X.1) (ci := 0) (v := .int s0) (ty := .int) (C := "MaskEdges$Box") (T := F_Box) (N := 4) hx hb ht in_Box ty_Box tyk_Box nm_Box hown hK hP hD hS 0 rfl rfl 0 (by decide) (ht _ xw_84) (fun _ h9 => h9) rfl (by decide +kernel) rfl rfl (Nat.le_of_ble_eq_true rfl) d_Box_layBeside_54 (fun H locs hP hD hS => ?_)
    replace hP : va_P X.1 vwCl (w_Box X h0 (Box_u_left o0 s0)) H := hP
    replace hD : va_D _ (w_Box X h0 (Box_u_left o0 s0)) := hD
    refine lv_aload_n hx hb d_Box_layBeside_57 rfl (lv_at hl 0 rfl) ?_
    refine lv_aload_n hx hb d_Box_layBeside_58 rfl (lv_at hl 1 rfl) ?_
    refine va_get (D := X.1) (ci := 4) (v := .int (Piece_alongX o1)) (C := "MaskEdges$Piece") (T := F_Piece) (N := 12) hx hb ht in_Piece hown hK (xkept hP1 hno1 hS) 0 rfl rfl 0 (by decide) (ht _ xw_121) (fun _ h9 => h9) rfl d_Box_layBeside_59 ?_
    refine lv_if_eq (tgt := 69) hx hb d_Box_layBeside_62 (by decide) (fun hc => ?_) (fun hc => ?_)
    · replace hf := x_t hc hf
      refine lv_iload hx hb d_Box_layBeside_69 (lv_at hl 5 rfl) ?_
      exact hL71 v2 v3 v9 v10 v10 (Box_u_left o0 s0) _ _ hP hS ls (lv_sub hl [0, 1, 2, 3, 4, 5] rfl) hf
    · replace hf := x_f hc hf
      refine lv_iload_n hx hb d_Box_layBeside_65 rfl (lv_at hl 3 rfl) ?_
      refine lv_goto (tgt := 71) hx hb d_Box_layBeside_66 (by decide) ?_
      exact hL71 v2 v3 v9 v10 v3 (Box_u_left o0 s0) _ _ hP hS ls (lv_sub hl [0, 1, 2, 3, 4, 5] rfl) hf
  unfold f_Box_layBeside at hf
  refine lv_aload_n hx hb d_Box_layBeside_0 rfl (lv_at hl 1 rfl) ?_
  refine va_get (D := X.1) (ci := 4) (v := .int (Piece_line o1)) (C := "MaskEdges$Piece") (T := F_Piece) (N := 12) hx hb ht in_Piece hown hK (xkept hP1 hno1 hS) 0 rfl rfl 1 (by decide) (ht _ xw_123) (fun _ h9 => h9) rfl d_Box_layBeside_1 ?_
  refine lv_iload hx hb d_Box_layBeside_4 (lv_at hl 4 rfl) ?_
  refine lv_iload hx hb d_Box_layBeside_6 (lv_at hl 5 rfl) ?_
  refine lv_imul hx hb d_Box_layBeside_8 ?_
  refine lv_iadd hx hb d_Box_layBeside_9 ?_
  refine lv_istore (lv' := [(7, .int ((Piece_line o1) + (v4 * v5))), (0, .ref h0), (1, .ref h1), (2, .int v2), (3, .int v3), (4, .int v4), (5, .int v5), (6, .int v6)]) hx hb d_Box_layBeside_10 hl (by decide) rfl (fun ls hl => ?_)
  refine lv_iload hx hb d_Box_layBeside_12 (lv_at hl 0 rfl) ?_
  refine lv_iload hx hb d_Box_layBeside_14 (lv_at hl 5 rfl) ?_
  refine lv_iload hx hb d_Box_layBeside_16 (lv_at hl 7 rfl) ?_
  refine lv_imul hx hb d_Box_layBeside_18 ?_
  refine lv_iadd hx hb d_Box_layBeside_19 ?_
  refine lv_istore (lv' := [(8, .int (((Piece_line o1) + (v4 * v5)) + (v4 * v6))), (7, .int ((Piece_line o1) + (v4 * v5))), (0, .ref h0), (1, .ref h1), (2, .int v2), (3, .int v3), (4, .int v4), (5, .int v5), (6, .int v6)]) hx hb d_Box_layBeside_20 hl (by decide) rfl (fun ls hl => ?_)
  refine lv_iload hx hb d_Box_layBeside_22 (lv_at hl 1 rfl) ?_
  refine lv_iload hx hb d_Box_layBeside_24 (lv_at hl 0 rfl) ?_
  refine va_mmin hx hb (hml.trans hl.1.symm) hown (ht _ xw_240) (ht _ xw_215) (ht _ xw_44) (ht _ xw_math_min) (Nat.le_of_ble_eq_true rfl) (Nat.le_of_ble_eq_true rfl) (Nat.zero_le _) (Nat.zero_le _) d_Box_layBeside_26 ?_
  refine lv_istore (lv' := [(9, .int (if (((Piece_line o1) + (v4 * v5)) + (v4 * v6)) < ((Piece_line o1) + (v4 * v5)) then (((Piece_line o1) + (v4 * v5)) + (v4 * v6)) else ((Piece_line o1) + (v4 * v5)))), (8, .int (((Piece_line o1) + (v4 * v5)) + (v4 * v6))), (7, .int ((Piece_line o1) + (v4 * v5))), (0, .ref h0), (1, .ref h1), (2, .int v2), (3, .int v3), (4, .int v4), (5, .int v5), (6, .int v6)]) hx hb d_Box_layBeside_29 hl (by decide) rfl (fun ls hl => ?_)
  refine lv_iload hx hb d_Box_layBeside_31 (lv_at hl 2 rfl) ?_
  refine lv_iload hx hb d_Box_layBeside_33 (lv_at hl 1 rfl) ?_
  refine va_mmax hx hb (hml.trans hl.1.symm) hown (ht _ xw_241) (ht _ xw_218) (ht _ xw_44) (ht _ xw_math_max) (Nat.le_of_ble_eq_true rfl) (Nat.le_of_ble_eq_true rfl) (Nat.zero_le _) (Nat.zero_le _) d_Box_layBeside_35 ?_
  refine lv_istore (lv' := [(10, .int (if ((Piece_line o1) + (v4 * v5)) < (((Piece_line o1) + (v4 * v5)) + (v4 * v6)) then (((Piece_line o1) + (v4 * v5)) + (v4 * v6)) else ((Piece_line o1) + (v4 * v5)))), (9, .int (if (((Piece_line o1) + (v4 * v5)) + (v4 * v6)) < ((Piece_line o1) + (v4 * v5)) then (((Piece_line o1) + (v4 * v5)) + (v4 * v6)) else ((Piece_line o1) + (v4 * v5)))), (8, .int (((Piece_line o1) + (v4 * v5)) + (v4 * v6))), (7, .int ((Piece_line o1) + (v4 * v5))), (0, .ref h0), (1, .ref h1), (2, .int v2), (3, .int v3), (4, .int v4), (5, .int v5), (6, .int v6)]) hx hb d_Box_layBeside_38 hl (by decide) rfl (fun ls hl => ?_)
  refine lv_aload_n hx hb d_Box_layBeside_40 rfl (lv_at hl 4 rfl) ?_
  refine lv_aload_n hx hb d_Box_layBeside_41 rfl (lv_at hl 5 rfl) ?_
  refine va_get (D := X.1) (ci := 4) (v := .int (Piece_alongX o1)) (C := "MaskEdges$Piece") (T := F_Piece) (N := 12) hx hb ht in_Piece hown hK (xkept hP1 hno1 hS) 0 rfl rfl 0 (by decide) (ht _ xw_121) (fun _ h9 => h9) rfl d_Box_layBeside_42 ?_
  refine lv_if_eq (tgt := 52) hx hb d_Box_layBeside_45 (by decide) (fun hc => ?_) (fun hc => ?_)
  · replace hf := x_t hc hf
    refine lv_iload hx hb d_Box_layBeside_52 (lv_at hl 1 rfl) ?_
    exact hL54 v2 v3 (if (((Piece_line o1) + (v4 * v5)) + (v4 * v6)) < ((Piece_line o1) + (v4 * v5)) then (((Piece_line o1) + (v4 * v5)) + (v4 * v6)) else ((Piece_line o1) + (v4 * v5))) (if ((Piece_line o1) + (v4 * v5)) < (((Piece_line o1) + (v4 * v5)) + (v4 * v6)) then (((Piece_line o1) + (v4 * v5)) + (v4 * v6)) else ((Piece_line o1) + (v4 * v5))) (if (((Piece_line o1) + (v4 * v5)) + (v4 * v6)) < ((Piece_line o1) + (v4 * v5)) then (((Piece_line o1) + (v4 * v5)) + (v4 * v6)) else ((Piece_line o1) + (v4 * v5))) o0 _ _ hP hS ls (lv_sub hl [4, 5, 6, 7, 1, 0] rfl) hf
  · replace hf := x_f hc hf
    refine lv_iload_n hx hb d_Box_layBeside_48 rfl (lv_at hl 6 rfl) ?_
    refine lv_goto (tgt := 54) hx hb d_Box_layBeside_49 (by decide) ?_
    exact hL54 v2 v3 (if (((Piece_line o1) + (v4 * v5)) + (v4 * v6)) < ((Piece_line o1) + (v4 * v5)) then (((Piece_line o1) + (v4 * v5)) + (v4 * v6)) else ((Piece_line o1) + (v4 * v5))) (if ((Piece_line o1) + (v4 * v5)) < (((Piece_line o1) + (v4 * v5)) + (v4 * v6)) then (((Piece_line o1) + (v4 * v5)) + (v4 * v6)) else ((Piece_line o1) + (v4 * v5))) v2 o0 _ _ hP hS ls (lv_sub hl [4, 5, 6, 7, 1, 0] rfl) hf
def f_Box_copyFrom (o1 : t_Box) (o0 : t_Box) : Option (t_Box) :=
  some (Box_u_bottom (Box_u_right (Box_u_top (Box_u_left o0 (Box_left o1)) (Box_top o1)) (Box_right o1)) (Box_bottom o1))
set_option maxHeartbeats 4000000 in
set_option maxRecDepth 100000 in
theorem c_Box_copyFrom (l : Launch) (X : xG) {H : Heap} (h0 : Nat) (o0 : t_Box) (h1 : Nat) (o1 : t_Box) {res : t_Box} (hP0 : va_P X.1 vwCl (w_Box X h0 o0) H) (hP1 : va_P X.1 vwCl (w_Box X h1 o1) H) (hnd : [h0].Nodup) (hno1 : ∀ q ∈ [h1], ¬ xAl [h0] q) (hf : f_Box_copyFrom o1 o0 = some res) : xM l y_Box_copyFrom (Cond.code y_Box_copyFrom prog_2_method_3_code 2 none :: xT) ({ frames := 0, cells := 0, slots := 0, locals := 0 } : Room) (xK X) [.ref h0, .ref h1] H (xAl [h0]) none (fun H1 => va_P X.1 vwCl (w_Box X h0 res) H1) := by
  refine Met.ofW (cc := prog_2_method_3_code) (maxL := 2) (ret := none) (by decide) rfl ?_
  intro p e s m args below meth c s₁ B hml hv
  obtain ⟨ha, hH, hKK⟩ := hv
  subst hH
  have hx := B.exec
  have hb := B.bytes
  have hr := B.returns
  have ht : ∀ w ∈ xT, w.before args s = true := fun w h => atoms_spec (ws := (Cond.code y_Box_copyFrom prog_2_method_3_code 2 none :: xT)) B.pre w (List.mem_cons_of_mem _ h)
  have hown : s.vm.findClass "MaskEdges$Box" = some m.cls := findClass_of_methodNamed B.named
  have hlocks := B.notSynchronized
  have hK := hKK.1
  rw [show entryFrame m args 2 = entryFrame m ([.ref h0, .ref h1] : List Value).toArray 2 from by rw [ha]]
  clear ha
  have hP := hP0
  have hD : va_D (xAl [h0]) (w_Box X h0 o0) := xDl rfl hnd
  have hS : va_S (xAl [h0]) s.heap s.heap [] := va_S.rf
  have hl := lv_entry ([.ref h0, .ref h1]) (n := 2) (Nat.le_of_ble_eq_true rfl)
  rw [lg_entry_eq]
  generalize (lg_sl ([.ref h0, .ref h1]) ++ List.replicate (2 - (lg_sl ([.ref h0, .ref h1])).length) Slot.unset).toArray = ls at hl ⊢
  replace hl : lv_has ls 2 [(0, .ref h0), (1, .ref h1)] := hl
  refine x_Q (fun Q hQ => ?_)
  unfold f_Box_copyFrom at hf
  refine lv_aload_n hx hb d_Box_copyFrom_0 rfl (lv_at hl 0 rfl) ?_
  refine lv_aload_n hx hb d_Box_copyFrom_1 rfl (lv_at hl 1 rfl) ?_
  refine va_get (D := X.1) (ci := 0) (v := .int (Box_left o1)) (C := "MaskEdges$Box") (T := F_Box) (N := 4) hx hb ht in_Box hown hK (xkept hP1 hno1 hS) 0 rfl rfl 0 (by decide) (ht _ xw_84) (fun _ h9 => h9) rfl d_Box_copyFrom_2 ?_
  refine va_put (D := X.1) (ci := 0) (v := .int (Box_left o1)) (ty := .int) (C := "MaskEdges$Box") (T := F_Box) (N := 4) hx hb ht in_Box ty_Box tyk_Box nm_Box hown hK hP hD hS 0 rfl rfl 0 (by decide) (ht _ xw_84) (fun _ h9 => h9) rfl (by decide +kernel) rfl rfl (Nat.le_of_ble_eq_true rfl) d_Box_copyFrom_5 (fun H locs hP hD hS => ?_)
  replace hP : va_P X.1 vwCl (w_Box X h0 (Box_u_left o0 (Box_left o1))) H := hP
  replace hD : va_D _ (w_Box X h0 (Box_u_left o0 (Box_left o1))) := hD
  refine lv_aload_n hx hb d_Box_copyFrom_8 rfl (lv_at hl 0 rfl) ?_
  refine lv_aload_n hx hb d_Box_copyFrom_9 rfl (lv_at hl 1 rfl) ?_
  refine va_get (D := X.1) (ci := 0) (v := .int (Box_top o1)) (C := "MaskEdges$Box") (T := F_Box) (N := 4) hx hb ht in_Box hown hK (xkept hP1 hno1 hS) 0 rfl rfl 1 (by decide) (ht _ xw_87) (fun _ h9 => h9) rfl d_Box_copyFrom_10 ?_
  refine va_put (D := X.1) (ci := 0) (v := .int (Box_top o1)) (ty := .int) (C := "MaskEdges$Box") (T := F_Box) (N := 4) hx hb ht in_Box ty_Box tyk_Box nm_Box hown hK hP hD hS 0 rfl rfl 1 (by decide) (ht _ xw_87) (fun _ h9 => h9) rfl (by decide +kernel) rfl rfl (Nat.le_of_ble_eq_true rfl) d_Box_copyFrom_13 (fun H locs hP hD hS => ?_)
  replace hP : va_P X.1 vwCl (w_Box X h0 (Box_u_top (Box_u_left o0 (Box_left o1)) (Box_top o1))) H := hP
  replace hD : va_D _ (w_Box X h0 (Box_u_top (Box_u_left o0 (Box_left o1)) (Box_top o1))) := hD
  refine lv_aload_n hx hb d_Box_copyFrom_16 rfl (lv_at hl 0 rfl) ?_
  refine lv_aload_n hx hb d_Box_copyFrom_17 rfl (lv_at hl 1 rfl) ?_
  refine va_get (D := X.1) (ci := 0) (v := .int (Box_right o1)) (C := "MaskEdges$Box") (T := F_Box) (N := 4) hx hb ht in_Box hown hK (xkept hP1 hno1 hS) 0 rfl rfl 2 (by decide) (ht _ xw_90) (fun _ h9 => h9) rfl d_Box_copyFrom_18 ?_
  refine va_put (D := X.1) (ci := 0) (v := .int (Box_right o1)) (ty := .int) (C := "MaskEdges$Box") (T := F_Box) (N := 4) hx hb ht in_Box ty_Box tyk_Box nm_Box hown hK hP hD hS 0 rfl rfl 2 (by decide) (ht _ xw_90) (fun _ h9 => h9) rfl (by decide +kernel) rfl rfl (Nat.le_of_ble_eq_true rfl) d_Box_copyFrom_21 (fun H locs hP hD hS => ?_)
  replace hP : va_P X.1 vwCl (w_Box X h0 (Box_u_right (Box_u_top (Box_u_left o0 (Box_left o1)) (Box_top o1)) (Box_right o1))) H := hP
  replace hD : va_D _ (w_Box X h0 (Box_u_right (Box_u_top (Box_u_left o0 (Box_left o1)) (Box_top o1)) (Box_right o1))) := hD
  refine lv_aload_n hx hb d_Box_copyFrom_24 rfl (lv_at hl 0 rfl) ?_
  refine lv_aload_n hx hb d_Box_copyFrom_25 rfl (lv_at hl 1 rfl) ?_
  refine va_get (D := X.1) (ci := 0) (v := .int (Box_bottom o1)) (C := "MaskEdges$Box") (T := F_Box) (N := 4) hx hb ht in_Box hown hK (xkept hP1 hno1 hS) 0 rfl rfl 3 (by decide) (ht _ xw_93) (fun _ h9 => h9) rfl d_Box_copyFrom_26 ?_
  refine va_put (D := X.1) (ci := 0) (v := .int (Box_bottom o1)) (ty := .int) (C := "MaskEdges$Box") (T := F_Box) (N := 4) hx hb ht in_Box ty_Box tyk_Box nm_Box hown hK hP hD hS 0 rfl rfl 3 (by decide) (ht _ xw_93) (fun _ h9 => h9) rfl (by decide +kernel) rfl rfl (Nat.le_of_ble_eq_true rfl) d_Box_copyFrom_29 (fun H locs hP hD hS => ?_)
  replace hP : va_P X.1 vwCl (w_Box X h0 (Box_u_bottom (Box_u_right (Box_u_top (Box_u_left o0 (Box_left o1)) (Box_top o1)) (Box_right o1)) (Box_bottom o1))) H := hP
  replace hD : va_D _ (w_Box X h0 (Box_u_bottom (Box_u_right (Box_u_top (Box_u_left o0 (Box_left o1)) (Box_top o1)) (Box_right o1)) (Box_bottom o1))) := hD
  replace hf := x_s hf
  subst hf
  subst hQ
  exact W.vret hx hb hr (fun t ht hW => ⟨⟨rfl, by rw [ht]; exact hP⟩, hS.F ht⟩) hS.2.2 d_Box_copyFrom_32
def f_Box_isOnGrid (o0 : t_Box) : Option (Int32) :=
  if (Box_left o0) < 0 then
  some (0 : Int32)
else
  if (Box_top o0) < 0 then
    some (0 : Int32)
  else
    if (48 : Int32) < (Box_right o0) then
      some (0 : Int32)
    else
      if (48 : Int32) < (Box_bottom o0) then
        some (0 : Int32)
      else
        some (1 : Int32)
set_option maxHeartbeats 4000000 in
set_option maxRecDepth 100000 in
theorem c_Box_isOnGrid (l : Launch) (X : xG) {H : Heap} (h0 : Nat) (o0 : t_Box) {res : Int32} (hP0 : va_P X.1 vwCl (w_Box X h0 o0) H) (hf : f_Box_isOnGrid o0 = some res) : xM l y_Box_isOnGrid (Cond.code y_Box_isOnGrid prog_2_method_4_code 1 (some .boolean) :: xT) ({ frames := 0, cells := 0, slots := 0, locals := 0 } : Room) (xK X) [.ref h0] H xNo (some (.int res)) (fun H1 => H1 = H) := by
  refine Met.ofW (cc := prog_2_method_4_code) (maxL := 1) (ret := (some .boolean)) (by decide) rfl ?_
  intro p e s m args below meth c s₁ B hml hv
  obtain ⟨ha, hH, hKK⟩ := hv
  subst hH
  have hx := B.exec
  have hb := B.bytes
  have hr := B.returns
  have ht : ∀ w ∈ xT, w.before args s = true := fun w h => atoms_spec (ws := (Cond.code y_Box_isOnGrid prog_2_method_4_code 1 (some .boolean) :: xT)) B.pre w (List.mem_cons_of_mem _ h)
  have hown : s.vm.findClass "MaskEdges$Box" = some m.cls := findClass_of_methodNamed B.named
  have hlocks := B.notSynchronized
  have hK := hKK.1
  rw [show entryFrame m args 1 = entryFrame m ([.ref h0] : List Value).toArray 1 from by rw [ha]]
  clear ha
  have hl := lv_entry ([.ref h0]) (n := 1) (Nat.le_of_ble_eq_true rfl)
  rw [lg_entry_eq]
  generalize (lg_sl ([.ref h0]) ++ List.replicate (1 - (lg_sl ([.ref h0])).length) Slot.unset).toArray = ls at hl ⊢
  replace hl : lv_has ls 1 [(0, .ref h0)] := hl
  refine x_Q (fun Q hQ => ?_)
  unfold f_Box_isOnGrid at hf
  refine lv_aload_n hx hb d_Box_isOnGrid_0 rfl (lv_at hl 0 rfl) ?_
  refine va_get (D := X.1) (ci := 0) (v := .int (Box_left o0)) (C := "MaskEdges$Box") (T := F_Box) (N := 4) hx hb ht in_Box hown hK hP0 0 rfl rfl 0 (by decide) (ht _ xw_84) (fun _ h9 => h9) rfl d_Box_isOnGrid_1 ?_
  refine lv_if_lt (tgt := 36) hx hb d_Box_isOnGrid_4 (by decide) (fun hc => ?_) (fun hc => ?_)
  · replace hf := x_t hc hf
    refine lv_iconst (v := (0 : Int32)) hx hb d_Box_isOnGrid_36 (by decide) ?_
    replace hf := x_s hf
    subst hf
    subst hQ
    exact W.zret (v := (0 : Int32)) hx hb hr (xz_n (by decide)) (fun t ht hW => ⟨⟨rfl, ht⟩, x_F0 ht⟩) x_l0 d_Box_isOnGrid_37
  · replace hf := x_f hc hf
    refine lv_aload_n hx hb d_Box_isOnGrid_7 rfl (lv_at hl 0 rfl) ?_
    refine va_get (D := X.1) (ci := 0) (v := .int (Box_top o0)) (C := "MaskEdges$Box") (T := F_Box) (N := 4) hx hb ht in_Box hown hK hP0 0 rfl rfl 1 (by decide) (ht _ xw_87) (fun _ h9 => h9) rfl d_Box_isOnGrid_8 ?_
    refine lv_if_lt (tgt := 36) hx hb d_Box_isOnGrid_11 (by decide) (fun hc => ?_) (fun hc => ?_)
    · replace hf := x_t hc hf
      refine lv_iconst (v := (0 : Int32)) hx hb d_Box_isOnGrid_36 (by decide) ?_
      replace hf := x_s hf
      subst hf
      subst hQ
      exact W.zret (v := (0 : Int32)) hx hb hr (xz_n (by decide)) (fun t ht hW => ⟨⟨rfl, ht⟩, x_F0 ht⟩) x_l0 d_Box_isOnGrid_37
    · replace hf := x_f hc hf
      refine lv_aload_n hx hb d_Box_isOnGrid_14 rfl (lv_at hl 0 rfl) ?_
      refine va_get (D := X.1) (ci := 0) (v := .int (Box_right o0)) (C := "MaskEdges$Box") (T := F_Box) (N := 4) hx hb ht in_Box hown hK hP0 0 rfl rfl 2 (by decide) (ht _ xw_90) (fun _ h9 => h9) rfl d_Box_isOnGrid_15 ?_
      refine lv_bipush (v := (48 : Int32)) hx hb d_Box_isOnGrid_18 (by decide) ?_
      refine lv_icmp_gt (tgt := 36) hx hb d_Box_isOnGrid_20 (by decide) (fun hc => ?_) (fun hc => ?_)
      · replace hf := x_t hc hf
        refine lv_iconst (v := (0 : Int32)) hx hb d_Box_isOnGrid_36 (by decide) ?_
        replace hf := x_s hf
        subst hf
        subst hQ
        exact W.zret (v := (0 : Int32)) hx hb hr (xz_n (by decide)) (fun t ht hW => ⟨⟨rfl, ht⟩, x_F0 ht⟩) x_l0 d_Box_isOnGrid_37
      · replace hf := x_f hc hf
        refine lv_aload_n hx hb d_Box_isOnGrid_23 rfl (lv_at hl 0 rfl) ?_
        refine va_get (D := X.1) (ci := 0) (v := .int (Box_bottom o0)) (C := "MaskEdges$Box") (T := F_Box) (N := 4) hx hb ht in_Box hown hK hP0 0 rfl rfl 3 (by decide) (ht _ xw_93) (fun _ h9 => h9) rfl d_Box_isOnGrid_24 ?_
        refine lv_bipush (v := (48 : Int32)) hx hb d_Box_isOnGrid_27 (by decide) ?_
        refine lv_icmp_gt (tgt := 36) hx hb d_Box_isOnGrid_29 (by decide) (fun hc => ?_) (fun hc => ?_)
        · replace hf := x_t hc hf
          refine lv_iconst (v := (0 : Int32)) hx hb d_Box_isOnGrid_36 (by decide) ?_
          replace hf := x_s hf
          subst hf
          subst hQ
          exact W.zret (v := (0 : Int32)) hx hb hr (xz_n (by decide)) (fun t ht hW => ⟨⟨rfl, ht⟩, x_F0 ht⟩) x_l0 d_Box_isOnGrid_37
        · replace hf := x_f hc hf
          refine lv_iconst (v := (1 : Int32)) hx hb d_Box_isOnGrid_32 (by decide) ?_
          refine lv_goto (tgt := 37) hx hb d_Box_isOnGrid_33 (by decide) ?_
          replace hf := x_s hf
          subst hf
          subst hQ
          exact W.zret (v := (1 : Int32)) hx hb hr (xz_n (by decide)) (fun t ht hW => ⟨⟨rfl, ht⟩, x_F0 ht⟩) x_l0 d_Box_isOnGrid_37
end
section
def f_Outline_nextCorner (o0 : t_Outline) (v1 : Int32) : Option (Int32) :=
  if (Outline_corners o0) ≤ (v1 + (1 : Int32)) then
  some (0 : Int32)
else
  some (v1 + (1 : Int32))
set_option maxHeartbeats 4000000 in
set_option maxRecDepth 100000 in
theorem c_Outline_nextCorner (l : Launch) (X : xG) {H : Heap} (h0 a0_0 a0_1 : Nat) (o0 : t_Outline) (v1 : Int32) {res : Int32} (hP0 : va_P X.1 vwCl (w_Outline X h0 a0_0 a0_1 o0) H) (hf : f_Outline_nextCorner o0 v1 = some res) : xM l y_Outline_nextCorner (Cond.code y_Outline_nextCorner prog_5_method_4_code 2 (some .int) :: xT) ({ frames := 0, cells := 0, slots := 0, locals := 0 } : Room) (xK X) [.ref h0, .int v1] H xNo (some (.int res)) (fun H1 => H1 = H) := by
  refine Met.ofW (cc := prog_5_method_4_code) (maxL := 2) (ret := (some .int)) (by decide) rfl ?_
  intro p e s m args below meth c s₁ B hml hv
  obtain ⟨ha, hH, hKK⟩ := hv
  subst hH
  have hx := B.exec
  have hb := B.bytes
  have hr := B.returns
  have ht : ∀ w ∈ xT, w.before args s = true := fun w h => atoms_spec (ws := (Cond.code y_Outline_nextCorner prog_5_method_4_code 2 (some .int) :: xT)) B.pre w (List.mem_cons_of_mem _ h)
  have hown : s.vm.findClass "MaskEdges$Outline" = some m.cls := findClass_of_methodNamed B.named
  have hlocks := B.notSynchronized
  have hK := hKK.1
  rw [show entryFrame m args 2 = entryFrame m ([.ref h0, .int v1] : List Value).toArray 2 from by rw [ha]]
  clear ha
  have hl := lv_entry ([.ref h0, .int v1]) (n := 2) (Nat.le_of_ble_eq_true rfl)
  rw [lg_entry_eq]
  generalize (lg_sl ([.ref h0, .int v1]) ++ List.replicate (2 - (lg_sl ([.ref h0, .int v1])).length) Slot.unset).toArray = ls at hl ⊢
  replace hl : lv_has ls 2 [(0, .ref h0), (1, .int v1)] := hl
  refine x_Q (fun Q hQ => ?_)
  unfold f_Outline_nextCorner at hf
  refine lv_iload_n hx hb d_Outline_nextCorner_0 rfl (lv_at hl 1 rfl) ?_
  refine lv_iconst (v := (1 : Int32)) hx hb d_Outline_nextCorner_1 (by decide) ?_
  refine lv_iadd hx hb d_Outline_nextCorner_2 ?_
  refine lv_aload_n hx hb d_Outline_nextCorner_3 rfl (lv_at hl 0 rfl) ?_
  refine va_get (D := X.1) (ci := 3) (v := .int (Outline_corners o0)) (C := "MaskEdges$Outline") (T := F_Outline) (N := 4) hx hb ht in_Outline hown hK hP0 0 rfl rfl 2 (by decide) (ht _ xw_108) (fun _ h9 => h9) rfl d_Outline_nextCorner_4 ?_
  refine lv_icmp_ge (tgt := 16) hx hb d_Outline_nextCorner_7 (by decide) (fun hc => ?_) (fun hc => ?_)
  · replace hf := x_t hc hf
    refine lv_iconst (v := (0 : Int32)) hx hb d_Outline_nextCorner_16 (by decide) ?_
    replace hf := x_s hf
    subst hf
    subst hQ
    exact W.iret (v := (0 : Int32)) hx hb hr (fun t ht hW => ⟨⟨rfl, ht⟩, x_F0 ht⟩) x_l0 d_Outline_nextCorner_17
  · replace hf := x_f hc hf
    refine lv_iload_n hx hb d_Outline_nextCorner_10 rfl (lv_at hl 1 rfl) ?_
    refine lv_iconst (v := (1 : Int32)) hx hb d_Outline_nextCorner_11 (by decide) ?_
    refine lv_iadd hx hb d_Outline_nextCorner_12 ?_
    refine lv_goto (tgt := 17) hx hb d_Outline_nextCorner_13 (by decide) ?_
    replace hf := x_s hf
    subst hf
    subst hQ
    exact W.iret (v := (v1 + (1 : Int32))) hx hb hr (fun t ht hW => ⟨⟨rfl, ht⟩, x_F0 ht⟩) x_l0 d_Outline_nextCorner_17
def f_Outline_isAlongX (o0 : t_Outline) (v1 : Int32) : Option (Int32) :=
  if xin v1 16 = true then
  (f_Outline_nextCorner o0 v1).bind fun c12 =>
    if xin c12 16 = true then
    if (Outline_ys o0 v1.toNatClampNeg) = (Outline_ys o0 c12.toNatClampNeg) then
      some (1 : Int32)
    else
      some (0 : Int32)
  else none
else none
set_option maxHeartbeats 4000000 in
set_option maxRecDepth 100000 in
theorem c_Outline_isAlongX (l : Launch) (X : xG) {H : Heap} (h0 a0_0 a0_1 : Nat) (o0 : t_Outline) (v1 : Int32) {res : Int32} (hP0 : va_P X.1 vwCl (w_Outline X h0 a0_0 a0_1 o0) H) (hf : f_Outline_isAlongX o0 v1 = some res) : xM l y_Outline_isAlongX (Cond.code y_Outline_isAlongX prog_5_method_5_code 2 (some .boolean) :: xT) ({ frames := 1, cells := 0, slots := 0, locals := 21 } : Room) (xK X) [.ref h0, .int v1] H xNo (some (.int res)) (fun H1 => H1 = H) := by
  refine Met.ofW (cc := prog_5_method_5_code) (maxL := 2) (ret := (some .boolean)) (by decide) rfl ?_
  intro p e s m args below meth c s₁ B hml hv
  obtain ⟨ha, hH, hKK⟩ := hv
  subst hH
  have hx := B.exec
  have hb := B.bytes
  have hr := B.returns
  have ht : ∀ w ∈ xT, w.before args s = true := fun w h => atoms_spec (ws := (Cond.code y_Outline_isAlongX prog_5_method_5_code 2 (some .boolean) :: xT)) B.pre w (List.mem_cons_of_mem _ h)
  have hown : s.vm.findClass "MaskEdges$Outline" = some m.cls := findClass_of_methodNamed B.named
  have hlocks := B.notSynchronized
  have hK := hKK.1
  rw [show entryFrame m args 2 = entryFrame m ([.ref h0, .int v1] : List Value).toArray 2 from by rw [ha]]
  clear ha
  have hl := lv_entry ([.ref h0, .int v1]) (n := 2) (Nat.le_of_ble_eq_true rfl)
  rw [lg_entry_eq]
  generalize (lg_sl ([.ref h0, .int v1]) ++ List.replicate (2 - (lg_sl ([.ref h0, .int v1])).length) Slot.unset).toArray = ls at hl ⊢
  replace hl : lv_has ls 2 [(0, .ref h0), (1, .int v1)] := hl
  refine x_Q (fun Q hQ => ?_)
  unfold f_Outline_isAlongX at hf
  refine lv_aload_n hx hb d_Outline_isAlongX_0 rfl (lv_at hl 0 rfl) ?_
  refine va_get (D := X.1) (ci := 3) (v := .ref a0_1) (C := "MaskEdges$Outline") (T := F_Outline) (N := 4) hx hb ht in_Outline hown hK hP0 0 rfl rfl 1 (by decide) (ht _ xw_106) (fun _ h9 => h9) rfl d_Outline_isAlongX_1 ?_
  refine lv_iload_n hx hb d_Outline_isAlongX_4 rfl (lv_at hl 1 rfl) ?_
  obtain ⟨g5, hf⟩ := x_g hf
  refine va_iald hx hb hK hP0 2 0 rfl rfl (xin_in g5) d_Outline_isAlongX_5 ?_
  refine lv_aload_n hx hb d_Outline_isAlongX_6 rfl (lv_at hl 0 rfl) ?_
  refine va_get (D := X.1) (ci := 3) (v := .ref a0_1) (C := "MaskEdges$Outline") (T := F_Outline) (N := 4) hx hb ht in_Outline hown hK hP0 0 rfl rfl 1 (by decide) (ht _ xw_106) (fun _ h9 => h9) rfl d_Outline_isAlongX_7 ?_
  refine lv_aload_n hx hb d_Outline_isAlongX_10 rfl (lv_at hl 0 rfl) ?_
  refine lv_iload_n hx hb d_Outline_isAlongX_11 rfl (lv_at hl 1 rfl) ?_
  obtain ⟨c12, e12, hf⟩ := x_b hf
  refine xcR (va_runV (As := [.int v1]) (rest := [.ref a0_1, .int (Outline_ys o0 v1.toNatClampNeg)]) ⟨hx, hb, hml, hown, ht⟩ (c_Outline_nextCorner l X h0 a0_0 a0_1 o0 v1 hP0 e12) (cwV 1 ht (xgV xw_203 xw_204 xw_205 xw_41 xw_206) rfl rfl rfl (by decide +kernel) ⟨Nat.le_of_ble_eq_true rfl, Nat.le_of_ble_eq_true rfl⟩) (xPV hKK (va_recv hK hP0 (ci := 3) (q0 := 0) rfl rfl)) rfl rfl hl.1 rfl (lv_room (Nat.le_of_ble_eq_true rfl)) d_Outline_isAlongX_12 ⟨Nat.zero_le _, Nat.zero_le _⟩) ?_
  refine W.eq (g2 := F0 m 15 ls [.int c12, .ref a0_1, .int (Outline_ys o0 v1.toNatClampNeg)]) rfl ?_
  obtain ⟨g15, hf⟩ := x_g hf
  refine va_iald hx hb hK hP0 2 0 rfl rfl (xin_in g15) d_Outline_isAlongX_15 ?_
  refine lv_icmp_ne (tgt := 23) hx hb d_Outline_isAlongX_16 (by decide) (fun hc => ?_) (fun hc => ?_)
  · replace hf := x_f hc hf
    refine lv_iconst (v := (0 : Int32)) hx hb d_Outline_isAlongX_23 (by decide) ?_
    replace hf := x_s hf
    subst hf
    subst hQ
    exact W.zret (v := (0 : Int32)) hx hb hr (xz_n (by decide)) (fun t ht hW => ⟨⟨rfl, ht⟩, x_F0 ht⟩) x_l0 d_Outline_isAlongX_24
  · replace hf := x_t hc hf
    refine lv_iconst (v := (1 : Int32)) hx hb d_Outline_isAlongX_19 (by decide) ?_
    refine lv_goto (tgt := 24) hx hb d_Outline_isAlongX_20 (by decide) ?_
    replace hf := x_s hf
    subst hf
    subst hQ
    exact W.zret (v := (1 : Int32)) hx hb hr (xz_n (by decide)) (fun t ht hW => ⟨⟨rfl, ht⟩, x_F0 ht⟩) x_l0 d_Outline_isAlongX_24
def f_Outline_maySideGoTo_50 (o0 : t_Outline) (v3 : Int32) (s0 : Int32) : Option (Int32) :=
  if v3 = s0 then
  some (0 : Int32)
else
  if (Outline_corners o0) = (1 : Int32) then
    some (1 : Int32)
  else
    (f_Outline_isAlongX o0 ((Outline_corners o0) - (2 : Int32))).bind fun c76 =>
      if v3 = c76 then
      some (0 : Int32)
    else
      some (1 : Int32)
def f_Outline_maySideGoTo_29 (o0 : t_Outline) (v1 : Int32) (s0 : Int32) : Option (Int32) :=
  if xin ((Outline_corners o0) - (1 : Int32)) 16 = true then
  if v1 = (Outline_xs o0 ((Outline_corners o0) - (1 : Int32)).toNatClampNeg) then
    (f_Outline_maySideGoTo_50 o0) s0 (1 : Int32)
  else
    (f_Outline_maySideGoTo_50 o0) s0 (0 : Int32)
else none
def f_Outline_maySideGoTo (o0 : t_Outline) (v1 : Int32) (v2 : Int32) : Option (Int32) :=
  if (Outline_corners o0) = 0 then
  some (1 : Int32)
else
  if xin ((Outline_corners o0) - (1 : Int32)) 16 = true then
    if v2 = (Outline_ys o0 ((Outline_corners o0) - (1 : Int32)).toNatClampNeg) then
      (f_Outline_maySideGoTo_29 o0) v1 (1 : Int32)
    else
      (f_Outline_maySideGoTo_29 o0) v1 (0 : Int32)
  else none
set_option maxHeartbeats 4000000 in
set_option maxRecDepth 100000 in
theorem c_Outline_maySideGoTo (l : Launch) (X : xG) {H : Heap} (h0 a0_0 a0_1 : Nat) (o0 : t_Outline) (v1 : Int32) (v2 : Int32) {res : Int32} (hP0 : va_P X.1 vwCl (w_Outline X h0 a0_0 a0_1 o0) H) (hf : f_Outline_maySideGoTo o0 v1 v2 = some res) : xM l y_Outline_maySideGoTo (Cond.code y_Outline_maySideGoTo prog_5_method_3_code 5 (some .boolean) :: xT) ({ frames := 2, cells := 0, slots := 0, locals := 42 } : Room) (xK X) [.ref h0, .int v1, .int v2] H xNo (some (.int res)) (fun H1 => H1 = H) := by
  refine Met.ofW (cc := prog_5_method_3_code) (maxL := 5) (ret := (some .boolean)) (by decide) rfl ?_
  intro p e s m args below meth c s₁ B hml hv
  obtain ⟨ha, hH, hKK⟩ := hv
  subst hH
  have hx := B.exec
  have hb := B.bytes
  have hr := B.returns
  have ht : ∀ w ∈ xT, w.before args s = true := fun w h => atoms_spec (ws := (Cond.code y_Outline_maySideGoTo prog_5_method_3_code 5 (some .boolean) :: xT)) B.pre w (List.mem_cons_of_mem _ h)
  have hown : s.vm.findClass "MaskEdges$Outline" = some m.cls := findClass_of_methodNamed B.named
  have hlocks := B.notSynchronized
  have hK := hKK.1
  rw [show entryFrame m args 5 = entryFrame m ([.ref h0, .int v1, .int v2] : List Value).toArray 5 from by rw [ha]]
  clear ha
  have hl := lv_entry ([.ref h0, .int v1, .int v2]) (n := 5) (Nat.le_of_ble_eq_true rfl)
  rw [lg_entry_eq]
  generalize (lg_sl ([.ref h0, .int v1, .int v2]) ++ List.replicate (5 - (lg_sl ([.ref h0, .int v1, .int v2])).length) Slot.unset).toArray = ls at hl ⊢
  replace hl : lv_has ls 5 [(0, .ref h0), (1, .int v1), (2, .int v2)] := hl
  refine x_Q (fun Q hQ => ?_)
  have hL50 : ∀ (v3 : Int32) (s0 : Int32), ∀ (ls : Array Slot), lv_has ls 5 [(0, .ref h0), (3, .int v3)] → f_Outline_maySideGoTo_50 o0 v3 s0 = some res → W p l e (headSpec (Cond.code y_Outline_maySideGoTo prog_5_method_3_code 5 (some .boolean) :: xT) ({ frames := 2, cells := 0, slots := 0, locals := 42 } : Room)).room s m args below meth c s.heap [] 0 0 Q (F0 m 50 ls [.int s0]) := by
    intro v3 s0 ls hl hf
    unfold f_Outline_maySideGoTo_50 at hf
    refine lv_istore (lv' := [(4, .int s0), (0, .ref h0), (3, .int v3)]) hx hb d_Outline_maySideGoTo_50 hl (by decide) rfl (fun ls hl => ?_)
    refine lv_iload_n hx hb d_Outline_maySideGoTo_52 rfl (lv_at hl 2 rfl) ?_
    refine lv_iload hx hb d_Outline_maySideGoTo_53 (lv_at hl 0 rfl) ?_
    refine lv_icmp_ne (tgt := 60) hx hb d_Outline_maySideGoTo_55 (by decide) (fun hc => ?_) (fun hc => ?_)
    · replace hf := x_f hc hf
      refine lv_aload_n hx hb d_Outline_maySideGoTo_60 rfl (lv_at hl 1 rfl) ?_
      refine va_get (D := X.1) (ci := 3) (v := .int (Outline_corners o0)) (C := "MaskEdges$Outline") (T := F_Outline) (N := 4) hx hb ht in_Outline hown hK hP0 0 rfl rfl 2 (by decide) (ht _ xw_108) (fun _ h9 => h9) rfl d_Outline_maySideGoTo_61 ?_
      refine lv_iconst (v := (1 : Int32)) hx hb d_Outline_maySideGoTo_64 (by decide) ?_
      refine lv_icmp_eq (tgt := 82) hx hb d_Outline_maySideGoTo_65 (by decide) (fun hc => ?_) (fun hc => ?_)
      · replace hf := x_t hc hf
        refine lv_iconst (v := (1 : Int32)) hx hb d_Outline_maySideGoTo_82 (by decide) ?_
        refine lv_goto (tgt := 87) hx hb d_Outline_maySideGoTo_83 (by decide) ?_
        replace hf := x_s hf
        subst hf
        subst hQ
        exact W.zret (v := (1 : Int32)) hx hb hr (xz_n (by decide)) (fun t ht hW => ⟨⟨rfl, ht⟩, x_F0 ht⟩) x_l0 d_Outline_maySideGoTo_87
      · replace hf := x_f hc hf
        refine lv_iload_n hx hb d_Outline_maySideGoTo_68 rfl (lv_at hl 2 rfl) ?_
        refine lv_aload_n hx hb d_Outline_maySideGoTo_69 rfl (lv_at hl 1 rfl) ?_
        refine lv_aload_n hx hb d_Outline_maySideGoTo_70 rfl (lv_at hl 1 rfl) ?_
        refine va_get (D := X.1) (ci := 3) (v := .int (Outline_corners o0)) (C := "MaskEdges$Outline") (T := F_Outline) (N := 4) hx hb ht in_Outline hown hK hP0 0 rfl rfl 2 (by decide) (ht _ xw_108) (fun _ h9 => h9) rfl d_Outline_maySideGoTo_71 ?_
        refine lv_iconst (v := (2 : Int32)) hx hb d_Outline_maySideGoTo_74 (by decide) ?_
        refine lv_isub hx hb d_Outline_maySideGoTo_75 ?_
        obtain ⟨c76, e76, hf⟩ := x_b hf
        refine xcR (va_runV (As := [.int ((Outline_corners o0) - (2 : Int32))]) (rest := [.int v3]) ⟨hx, hb, hml, hown, ht⟩ (c_Outline_isAlongX l X h0 a0_0 a0_1 o0 ((Outline_corners o0) - (2 : Int32)) hP0 e76) (cwV 1 ht (xgV xw_199 xw_200 xw_201 xw_41 xw_202) rfl rfl rfl (by decide +kernel) ⟨Nat.le_of_ble_eq_true rfl, Nat.le_of_ble_eq_true rfl⟩) (xPV hKK (va_recv hK hP0 (ci := 3) (q0 := 0) rfl rfl)) rfl rfl hl.1 rfl (lv_room (Nat.le_of_ble_eq_true rfl)) d_Outline_maySideGoTo_76 ⟨Nat.zero_le _, Nat.zero_le _⟩) ?_
        refine W.eq (g2 := F0 m 79 ls [.int c76, .int v3]) rfl ?_
        refine lv_icmp_eq (tgt := 86) hx hb d_Outline_maySideGoTo_79 (by decide) (fun hc => ?_) (fun hc => ?_)
        · replace hf := x_t hc hf
          refine lv_iconst (v := (0 : Int32)) hx hb d_Outline_maySideGoTo_86 (by decide) ?_
          replace hf := x_s hf
          subst hf
          subst hQ
          exact W.zret (v := (0 : Int32)) hx hb hr (xz_n (by decide)) (fun t ht hW => ⟨⟨rfl, ht⟩, x_F0 ht⟩) x_l0 d_Outline_maySideGoTo_87
        · replace hf := x_f hc hf
          refine lv_iconst (v := (1 : Int32)) hx hb d_Outline_maySideGoTo_82 (by decide) ?_
          refine lv_goto (tgt := 87) hx hb d_Outline_maySideGoTo_83 (by decide) ?_
          replace hf := x_s hf
          subst hf
          subst hQ
          exact W.zret (v := (1 : Int32)) hx hb hr (xz_n (by decide)) (fun t ht hW => ⟨⟨rfl, ht⟩, x_F0 ht⟩) x_l0 d_Outline_maySideGoTo_87
    · replace hf := x_t hc hf
      refine lv_iconst (v := (0 : Int32)) hx hb d_Outline_maySideGoTo_58 (by decide) ?_
      replace hf := x_s hf
      subst hf
      subst hQ
      exact W.zret (v := (0 : Int32)) hx hb hr (xz_n (by decide)) (fun t ht hW => ⟨⟨rfl, ht⟩, x_F0 ht⟩) x_l0 d_Outline_maySideGoTo_59
  have hL29 : ∀ (v1 : Int32) (s0 : Int32), ∀ (ls : Array Slot), lv_has ls 5 [(0, .ref h0), (1, .int v1)] → f_Outline_maySideGoTo_29 o0 v1 s0 = some res → W p l e (headSpec (Cond.code y_Outline_maySideGoTo prog_5_method_3_code 5 (some .boolean) :: xT) ({ frames := 2, cells := 0, slots := 0, locals := 42 } : Room)).room s m args below meth c s.heap [] 0 0 Q (F0 m 29 ls [.int s0]) := by
    intro v1 s0 ls hl hf
    unfold f_Outline_maySideGoTo_29 at hf
    refine lv_istore_n (lv' := [(3, .int s0), (0, .ref h0), (1, .int v1)]) hx hb d_Outline_maySideGoTo_29 rfl hl (by decide) rfl (fun ls hl => ?_)
    refine lv_iload_n hx hb d_Outline_maySideGoTo_30 rfl (lv_at hl 2 rfl) ?_
    refine lv_aload_n hx hb d_Outline_maySideGoTo_31 rfl (lv_at hl 1 rfl) ?_
    refine va_get (D := X.1) (ci := 3) (v := .ref a0_0) (C := "MaskEdges$Outline") (T := F_Outline) (N := 4) hx hb ht in_Outline hown hK hP0 0 rfl rfl 0 (by decide) (ht _ xw_104) (fun _ h9 => h9) rfl d_Outline_maySideGoTo_32 ?_
    refine lv_aload_n hx hb d_Outline_maySideGoTo_35 rfl (lv_at hl 1 rfl) ?_
    refine va_get (D := X.1) (ci := 3) (v := .int (Outline_corners o0)) (C := "MaskEdges$Outline") (T := F_Outline) (N := 4) hx hb ht in_Outline hown hK hP0 0 rfl rfl 2 (by decide) (ht _ xw_108) (fun _ h9 => h9) rfl d_Outline_maySideGoTo_36 ?_
    refine lv_iconst (v := (1 : Int32)) hx hb d_Outline_maySideGoTo_39 (by decide) ?_
    refine lv_isub hx hb d_Outline_maySideGoTo_40 ?_
    obtain ⟨g41, hf⟩ := x_g hf
    refine va_iald hx hb hK hP0 1 0 rfl rfl (xin_in g41) d_Outline_maySideGoTo_41 ?_
    refine lv_icmp_ne (tgt := 49) hx hb d_Outline_maySideGoTo_42 (by decide) (fun hc => ?_) (fun hc => ?_)
    · replace hf := x_f hc hf
      refine lv_iconst (v := (0 : Int32)) hx hb d_Outline_maySideGoTo_49 (by decide) ?_
      exact hL50 s0 (0 : Int32)  ls (lv_sub hl [1, 0] rfl) hf
    · replace hf := x_t hc hf
      refine lv_iconst (v := (1 : Int32)) hx hb d_Outline_maySideGoTo_45 (by decide) ?_
      refine lv_goto (tgt := 50) hx hb d_Outline_maySideGoTo_46 (by decide) ?_
      exact hL50 s0 (1 : Int32)  ls (lv_sub hl [1, 0] rfl) hf
  unfold f_Outline_maySideGoTo at hf
  refine lv_aload_n hx hb d_Outline_maySideGoTo_0 rfl (lv_at hl 0 rfl) ?_
  refine va_get (D := X.1) (ci := 3) (v := .int (Outline_corners o0)) (C := "MaskEdges$Outline") (T := F_Outline) (N := 4) hx hb ht in_Outline hown hK hP0 0 rfl rfl 2 (by decide) (ht _ xw_108) (fun _ h9 => h9) rfl d_Outline_maySideGoTo_1 ?_
  refine lv_if_ne (tgt := 9) hx hb d_Outline_maySideGoTo_4 (by decide) (fun hc => ?_) (fun hc => ?_)
  · replace hf := x_f hc hf
    refine lv_iload_n hx hb d_Outline_maySideGoTo_9 rfl (lv_at hl 2 rfl) ?_
    refine lv_aload_n hx hb d_Outline_maySideGoTo_10 rfl (lv_at hl 0 rfl) ?_
    refine va_get (D := X.1) (ci := 3) (v := .ref a0_1) (C := "MaskEdges$Outline") (T := F_Outline) (N := 4) hx hb ht in_Outline hown hK hP0 0 rfl rfl 1 (by decide) (ht _ xw_106) (fun _ h9 => h9) rfl d_Outline_maySideGoTo_11 ?_
    refine lv_aload_n hx hb d_Outline_maySideGoTo_14 rfl (lv_at hl 0 rfl) ?_
    refine va_get (D := X.1) (ci := 3) (v := .int (Outline_corners o0)) (C := "MaskEdges$Outline") (T := F_Outline) (N := 4) hx hb ht in_Outline hown hK hP0 0 rfl rfl 2 (by decide) (ht _ xw_108) (fun _ h9 => h9) rfl d_Outline_maySideGoTo_15 ?_
    refine lv_iconst (v := (1 : Int32)) hx hb d_Outline_maySideGoTo_18 (by decide) ?_
    refine lv_isub hx hb d_Outline_maySideGoTo_19 ?_
    obtain ⟨g20, hf⟩ := x_g hf
    refine va_iald hx hb hK hP0 2 0 rfl rfl (xin_in g20) d_Outline_maySideGoTo_20 ?_
    refine lv_icmp_ne (tgt := 28) hx hb d_Outline_maySideGoTo_21 (by decide) (fun hc => ?_) (fun hc => ?_)
    · replace hf := x_f hc hf
      refine lv_iconst (v := (0 : Int32)) hx hb d_Outline_maySideGoTo_28 (by decide) ?_
      exact hL29 v1 (0 : Int32)  ls (lv_sub hl [0, 1] rfl) hf
    · replace hf := x_t hc hf
      refine lv_iconst (v := (1 : Int32)) hx hb d_Outline_maySideGoTo_24 (by decide) ?_
      refine lv_goto (tgt := 29) hx hb d_Outline_maySideGoTo_25 (by decide) ?_
      exact hL29 v1 (1 : Int32)  ls (lv_sub hl [0, 1] rfl) hf
  · replace hf := x_t hc hf
    refine lv_iconst (v := (1 : Int32)) hx hb d_Outline_maySideGoTo_7 (by decide) ?_
    replace hf := x_s hf
    subst hf
    subst hQ
    exact W.zret (v := (1 : Int32)) hx hb hr (xz_n (by decide)) (fun t ht hW => ⟨⟨rfl, ht⟩, x_F0 ht⟩) x_l0 d_Outline_maySideGoTo_8
def f_Outline_takeCorner_78 (v1 : Int32) (v2 : Int32) (o0 : t_Outline) : Option (Int32 × t_Outline) :=
  if (Outline_corners o0) < (16 : Int32) then
  if xin (Outline_corners o0) 16 = true then
    if xin (Outline_corners (Outline_u_xs o0 (upd (Outline_xs o0) (Outline_corners o0).toNatClampNeg v1))) 16 = true then
      some ((1 : Int32), (Outline_u_corners (Outline_u_ys (Outline_u_xs o0 (upd (Outline_xs o0) (Outline_corners o0).toNatClampNeg v1)) (upd (Outline_ys (Outline_u_xs o0 (upd (Outline_xs o0) (Outline_corners o0).toNatClampNeg v1))) (Outline_corners (Outline_u_xs o0 (upd (Outline_xs o0) (Outline_corners o0).toNatClampNeg v1))).toNatClampNeg v2)) ((Outline_corners (Outline_u_ys (Outline_u_xs o0 (upd (Outline_xs o0) (Outline_corners o0).toNatClampNeg v1)) (upd (Outline_ys (Outline_u_xs o0 (upd (Outline_xs o0) (Outline_corners o0).toNatClampNeg v1))) (Outline_corners (Outline_u_xs o0 (upd (Outline_xs o0) (Outline_corners o0).toNatClampNeg v1))).toNatClampNeg v2))) + (1 : Int32))))
    else none
  else none
else
  some ((0 : Int32), o0)
def f_Outline_takeCorner_70 (s0 : Int32) (o0 : t_Outline) : Option (Int32 × t_Outline) :=
  if xz s0 = true then
  if xz (Outline_closed (Outline_u_closed o0 s0)) = true then
    some ((Outline_closed (Outline_u_closed o0 s0)), (Outline_u_closed o0 s0))
  else none
else none
def f_Outline_takeCorner (v1 : Int32) (v2 : Int32) (o0 : t_Outline) : Option (Int32 × t_Outline) :=
  if (Outline_closed o0) = 0 then
  (f_Outline_maySideGoTo o0 v1 v2).bind fun c10 =>
    if c10 = 0 then
    some ((0 : Int32), o0)
  else
    if (Outline_corners o0) < (4 : Int32) then
      f_Outline_takeCorner_78 v1 v2 o0
    else
      if xin (0 : Int32) 16 = true then
        if v1 = (Outline_xs o0 (0 : Int32).toNatClampNeg) then
          if xin (0 : Int32) 16 = true then
            if v2 = (Outline_ys o0 (0 : Int32).toNatClampNeg) then
              (f_Outline_isAlongX o0 ((Outline_corners o0) - (1 : Int32))).bind fun c54 =>
                (f_Outline_isAlongX o0 (0 : Int32)).bind fun c59 =>
                if c54 = c59 then
                f_Outline_takeCorner_70 (0 : Int32) o0
              else
                f_Outline_takeCorner_70 (1 : Int32) o0
            else
              f_Outline_takeCorner_78 v1 v2 o0
          else none
        else
          f_Outline_takeCorner_78 v1 v2 o0
      else none
else
  some ((0 : Int32), o0)
set_option maxHeartbeats 4000000 in
set_option maxRecDepth 100000 in
theorem c_Outline_takeCorner (l : Launch) (X : xG) {H : Heap} (h0 a0_0 a0_1 : Nat) (o0 : t_Outline) (v1 : Int32) (v2 : Int32) {res : Int32 × t_Outline} (hP0 : va_P X.1 vwCl (w_Outline X h0 a0_0 a0_1 o0) H) (hnd : [h0, a0_0, a0_1].Nodup) (hf : f_Outline_takeCorner v1 v2 o0 = some res) : xM l y_Outline_takeCorner (Cond.code y_Outline_takeCorner prog_5_method_2_code 3 (some .boolean) :: xT) ({ frames := 3, cells := 0, slots := 0, locals := 66 } : Room) (xK X) [.ref h0, .int v1, .int v2] H (xAl [h0, a0_0, a0_1]) (some (.int res.1)) (fun H1 => va_P X.1 vwCl (w_Outline X h0 a0_0 a0_1 res.2) H1) := by
  refine Met.ofW (cc := prog_5_method_2_code) (maxL := 3) (ret := (some .boolean)) (by decide) rfl ?_
  intro p e s m args below meth c s₁ B hml hv
  obtain ⟨ha, hH, hKK⟩ := hv
  subst hH
  have hx := B.exec
  have hb := B.bytes
  have hr := B.returns
  have ht : ∀ w ∈ xT, w.before args s = true := fun w h => atoms_spec (ws := (Cond.code y_Outline_takeCorner prog_5_method_2_code 3 (some .boolean) :: xT)) B.pre w (List.mem_cons_of_mem _ h)
  have hown : s.vm.findClass "MaskEdges$Outline" = some m.cls := findClass_of_methodNamed B.named
  have hlocks := B.notSynchronized
  have hK := hKK.1
  rw [show entryFrame m args 3 = entryFrame m ([.ref h0, .int v1, .int v2] : List Value).toArray 3 from by rw [ha]]
  clear ha
  have hP := hP0
  have hD : va_D (xAl [h0, a0_0, a0_1]) (w_Outline X h0 a0_0 a0_1 o0) := xDl rfl hnd
  have hS : va_S (xAl [h0, a0_0, a0_1]) s.heap s.heap [] := va_S.rf
  have hl := lv_entry ([.ref h0, .int v1, .int v2]) (n := 3) (Nat.le_of_ble_eq_true rfl)
  rw [lg_entry_eq]
  generalize (lg_sl ([.ref h0, .int v1, .int v2]) ++ List.replicate (3 - (lg_sl ([.ref h0, .int v1, .int v2])).length) Slot.unset).toArray = ls at hl ⊢
  replace hl : lv_has ls 3 [(0, .ref h0), (1, .int v1), (2, .int v2)] := hl
  refine x_Q (fun Q hQ => ?_)
  have hL78 : ∀ (v1 : Int32) (v2 : Int32) (o0 : t_Outline), ∀ (H : Heap) (locs : List Loc), va_P X.1 vwCl (w_Outline X h0 a0_0 a0_1 o0) H → va_S (xAl [h0, a0_0, a0_1]) s.heap H locs → ∀ (ls : Array Slot), lv_has ls 3 [(0, .ref h0), (1, .int v1), (2, .int v2)] → f_Outline_takeCorner_78 v1 v2 o0 = some res → W p l e (headSpec (Cond.code y_Outline_takeCorner prog_5_method_2_code 3 (some .boolean) :: xT) ({ frames := 3, cells := 0, slots := 0, locals := 66 } : Room)).room s m args below meth c H locs 0 0 Q (F0 m 78 ls []) := by
    intro v1 v2 o0 H locs hP hS ls hl hf
    unfold f_Outline_takeCorner_78 at hf
    have hD : va_D (xAl [h0, a0_0, a0_1]) (w_Outline X h0 a0_0 a0_1 o0) := xDl rfl hnd
    refine lv_aload_n hx hb d_Outline_takeCorner_78 rfl (lv_at hl 0 rfl) ?_
    refine va_get (D := X.1) (ci := 3) (v := .int (Outline_corners o0)) (C := "MaskEdges$Outline") (T := F_Outline) (N := 4) hx hb ht in_Outline hown hK hP 0 rfl rfl 2 (by decide) (ht _ xw_108) (fun _ h9 => h9) rfl d_Outline_takeCorner_79 ?_
    refine lv_bipush (v := (16 : Int32)) hx hb d_Outline_takeCorner_82 (by decide) ?_
    refine lv_icmp_lt (tgt := 89) hx hb d_Outline_takeCorner_84 (by decide) (fun hc => ?_) (fun hc => ?_)
    · replace hf := x_t hc hf
      refine lv_aload_n hx hb d_Outline_takeCorner_89 rfl (lv_at hl 0 rfl) ?_
      refine va_get (D := X.1) (ci := 3) (v := .ref a0_0) (C := "MaskEdges$Outline") (T := F_Outline) (N := 4) hx hb ht in_Outline hown hK hP 0 rfl rfl 0 (by decide) (ht _ xw_104) (fun _ h9 => h9) rfl d_Outline_takeCorner_90 ?_
      refine lv_aload_n hx hb d_Outline_takeCorner_93 rfl (lv_at hl 0 rfl) ?_
      refine va_get (D := X.1) (ci := 3) (v := .int (Outline_corners o0)) (C := "MaskEdges$Outline") (T := F_Outline) (N := 4) hx hb ht in_Outline hown hK hP 0 rfl rfl 2 (by decide) (ht _ xw_108) (fun _ h9 => h9) rfl d_Outline_takeCorner_94 ?_
      refine lv_iload_n hx hb d_Outline_takeCorner_97 rfl (lv_at hl 1 rfl) ?_
      obtain ⟨g98, hf⟩ := x_g hf
      refine va_iast hx hb hK hP hD hS 1 0 rfl rfl (xin_in g98) d_Outline_takeCorner_98 (fun H locs hP hD hS => ?_)
      replace hP : va_P X.1 vwCl (w_Outline X h0 a0_0 a0_1 (Outline_u_xs o0 (upd (Outline_xs o0) (Outline_corners o0).toNatClampNeg v1))) H := hP
      replace hD : va_D _ (w_Outline X h0 a0_0 a0_1 (Outline_u_xs o0 (upd (Outline_xs o0) (Outline_corners o0).toNatClampNeg v1))) := hD
      refine lv_aload_n hx hb d_Outline_takeCorner_99 rfl (lv_at hl 0 rfl) ?_
      refine va_get (D := X.1) (ci := 3) (v := .ref a0_1) (C := "MaskEdges$Outline") (T := F_Outline) (N := 4) hx hb ht in_Outline hown hK hP 0 rfl rfl 1 (by decide) (ht _ xw_106) (fun _ h9 => h9) rfl d_Outline_takeCorner_100 ?_
      refine lv_aload_n hx hb d_Outline_takeCorner_103 rfl (lv_at hl 0 rfl) ?_
      refine va_get (D := X.1) (ci := 3) (v := .int (Outline_corners (Outline_u_xs o0 (upd (Outline_xs o0) (Outline_corners o0).toNatClampNeg v1)))) (C := "MaskEdges$Outline") (T := F_Outline) (N := 4) hx hb ht in_Outline hown hK hP 0 rfl rfl 2 (by decide) (ht _ xw_108) (fun _ h9 => h9) rfl d_Outline_takeCorner_104 ?_
      refine lv_iload_n hx hb d_Outline_takeCorner_107 rfl (lv_at hl 2 rfl) ?_
      obtain ⟨g108, hf⟩ := x_g hf
      refine va_iast hx hb hK hP hD hS 2 0 rfl rfl (xin_in g108) d_Outline_takeCorner_108 (fun H locs hP hD hS => ?_)
      replace hP : va_P X.1 vwCl (w_Outline X h0 a0_0 a0_1 (Outline_u_ys (Outline_u_xs o0 (upd (Outline_xs o0) (Outline_corners o0).toNatClampNeg v1)) (upd (Outline_ys (Outline_u_xs o0 (upd (Outline_xs o0) (Outline_corners o0).toNatClampNeg v1))) (Outline_corners (Outline_u_xs o0 (upd (Outline_xs o0) (Outline_corners o0).toNatClampNeg v1))).toNatClampNeg v2))) H := hP
      replace hD : va_D _ (w_Outline X h0 a0_0 a0_1 (Outline_u_ys (Outline_u_xs o0 (upd (Outline_xs o0) (Outline_corners o0).toNatClampNeg v1)) (upd (Outline_ys (Outline_u_xs o0 (upd (Outline_xs o0) (Outline_corners o0).toNatClampNeg v1))) (Outline_corners (Outline_u_xs o0 (upd (Outline_xs o0) (Outline_corners o0).toNatClampNeg v1))).toNatClampNeg v2))) := hD
      refine lv_aload_n hx hb d_Outline_takeCorner_109 rfl (lv_at hl 0 rfl) ?_
      refine lv_dup hx hb d_Outline_takeCorner_110 rfl ?_
      refine va_get (D := X.1) (ci := 3) (v := .int (Outline_corners (Outline_u_ys (Outline_u_xs o0 (upd (Outline_xs o0) (Outline_corners o0).toNatClampNeg v1)) (upd (Outline_ys (Outline_u_xs o0 (upd (Outline_xs o0) (Outline_corners o0).toNatClampNeg v1))) (Outline_corners (Outline_u_xs o0 (upd (Outline_xs o0) (Outline_corners o0).toNatClampNeg v1))).toNatClampNeg v2)))) (C := "MaskEdges$Outline") (T := F_Outline) (N := 4) hx hb ht in_Outline hown hK hP 0 rfl rfl 2 (by decide) (ht _ xw_108) (fun _ h9 => h9) rfl d_Outline_takeCorner_111 ?_
      refine lv_iconst (v := (1 : Int32)) hx hb d_Outline_takeCorner_114 (by decide) ?_
      refine lv_iadd hx hb d_Outline_takeCorner_115 ?_
      refine va_put (D := X.1) (ci := 3) (v := .int ((Outline_corners (Outline_u_ys (Outline_u_xs o0 (upd (Outline_xs o0) (Outline_corners o0).toNatClampNeg v1)) (upd (Outline_ys (Outline_u_xs o0 (upd (Outline_xs o0) (Outline_corners o0).toNatClampNeg v1))) (Outline_corners (Outline_u_xs o0 (upd (Outline_xs o0) (Outline_corners o0).toNatClampNeg v1))).toNatClampNeg v2))) + (1 : Int32))) (ty := .int) (C := "MaskEdges$Outline") (T := F_Outline) (N := 4) hx hb ht in_Outline ty_Outline tyk_Outline nm_Outline hown hK hP hD hS 0 rfl rfl 2 (by decide) (ht _ xw_108) (fun _ h9 => h9) rfl (by decide +kernel) rfl rfl (Nat.le_of_ble_eq_true rfl) d_Outline_takeCorner_116 (fun H locs hP hD hS => ?_)
      replace hP : va_P X.1 vwCl (w_Outline X h0 a0_0 a0_1 (Outline_u_corners (Outline_u_ys (Outline_u_xs o0 (upd (Outline_xs o0) (Outline_corners o0).toNatClampNeg v1)) (upd (Outline_ys (Outline_u_xs o0 (upd (Outline_xs o0) (Outline_corners o0).toNatClampNeg v1))) (Outline_corners (Outline_u_xs o0 (upd (Outline_xs o0) (Outline_corners o0).toNatClampNeg v1))).toNatClampNeg v2)) ((Outline_corners (Outline_u_ys (Outline_u_xs o0 (upd (Outline_xs o0) (Outline_corners o0).toNatClampNeg v1)) (upd (Outline_ys (Outline_u_xs o0 (upd (Outline_xs o0) (Outline_corners o0).toNatClampNeg v1))) (Outline_corners (Outline_u_xs o0 (upd (Outline_xs o0) (Outline_corners o0).toNatClampNeg v1))).toNatClampNeg v2))) + (1 : Int32)))) H := hP
      replace hD : va_D _ (w_Outline X h0 a0_0 a0_1 (Outline_u_corners (Outline_u_ys (Outline_u_xs o0 (upd (Outline_xs o0) (Outline_corners o0).toNatClampNeg v1)) (upd (Outline_ys (Outline_u_xs o0 (upd (Outline_xs o0) (Outline_corners o0).toNatClampNeg v1))) (Outline_corners (Outline_u_xs o0 (upd (Outline_xs o0) (Outline_corners o0).toNatClampNeg v1))).toNatClampNeg v2)) ((Outline_corners (Outline_u_ys (Outline_u_xs o0 (upd (Outline_xs o0) (Outline_corners o0).toNatClampNeg v1)) (upd (Outline_ys (Outline_u_xs o0 (upd (Outline_xs o0) (Outline_corners o0).toNatClampNeg v1))) (Outline_corners (Outline_u_xs o0 (upd (Outline_xs o0) (Outline_corners o0).toNatClampNeg v1))).toNatClampNeg v2))) + (1 : Int32)))) := hD
      refine lv_iconst (v := (1 : Int32)) hx hb d_Outline_takeCorner_119 (by decide) ?_
      replace hf := x_s hf
      subst hf
      subst hQ
      exact W.zret (v := (1 : Int32)) hx hb hr (xz_n (by decide)) (fun t ht hW => ⟨⟨rfl, by rw [ht]; exact hP⟩, hS.F ht⟩) hS.2.2 d_Outline_takeCorner_120
    · replace hf := x_f hc hf
      refine lv_iconst (v := (0 : Int32)) hx hb d_Outline_takeCorner_87 (by decide) ?_
      replace hf := x_s hf
      subst hf
      subst hQ
      exact W.zret (v := (0 : Int32)) hx hb hr (xz_n (by decide)) (fun t ht hW => ⟨⟨rfl, by rw [ht]; exact hP⟩, hS.F ht⟩) hS.2.2 d_Outline_takeCorner_88
  have hL70 : ∀ (s0 : Int32) (o0 : t_Outline), ∀ (H : Heap) (locs : List Loc), va_P X.1 vwCl (w_Outline X h0 a0_0 a0_1 o0) H → va_S (xAl [h0, a0_0, a0_1]) s.heap H locs → ∀ (ls : Array Slot), lv_has ls 3 [(0, .ref h0)] → f_Outline_takeCorner_70 s0 o0 = some res → W p l e (headSpec (Cond.code y_Outline_takeCorner prog_5_method_2_code 3 (some .boolean) :: xT) ({ frames := 3, cells := 0, slots := 0, locals := 66 } : Room)).room s m args below meth c H locs 0 0 Q (F0 m 70 ls [.int s0, .ref h0]) := by
    intro s0 o0 H locs hP hS ls hl hf
    unfold f_Outline_takeCorner_70 at hf
    have hD : va_D (xAl [h0, a0_0, a0_1]) (w_Outline X h0 a0_0 a0_1 o0) := xDl rfl hnd
    obtain ⟨z70, hf⟩ := x_g hf
    refine va_put (D := X.1) (ci := 3) (v := .int s0) (ty := .boolean) (C := "MaskEdges$Outline") (T := F_Outline) (N := 4) hx hb ht in_Outline ty_Outline tyk_Outline nm_Outline hown hK hP hD hS 0 rfl rfl 3 (by decide) (ht _ xw_110) (fun _ h9 => h9) rfl (by decide +kernel) (xz_n z70) (xz_f z70) (Nat.le_of_ble_eq_true rfl) d_Outline_takeCorner_70 (fun H locs hP hD hS => ?_)
    replace hP : va_P X.1 vwCl (w_Outline X h0 a0_0 a0_1 (Outline_u_closed o0 s0)) H := hP
    replace hD : va_D _ (w_Outline X h0 a0_0 a0_1 (Outline_u_closed o0 s0)) := hD
    refine lv_aload_n hx hb d_Outline_takeCorner_73 rfl (lv_at hl 0 rfl) ?_
    refine va_get (D := X.1) (ci := 3) (v := .int (Outline_closed (Outline_u_closed o0 s0))) (C := "MaskEdges$Outline") (T := F_Outline) (N := 4) hx hb ht in_Outline hown hK hP 0 rfl rfl 3 (by decide) (ht _ xw_110) (fun _ h9 => h9) rfl d_Outline_takeCorner_74 ?_
    obtain ⟨zr, hf⟩ := x_g hf
    replace hf := x_s hf
    subst hf
    subst hQ
    exact W.zret (v := (Outline_closed (Outline_u_closed o0 s0))) hx hb hr (xz_n zr) (fun t ht hW => ⟨⟨rfl, by rw [ht]; exact hP⟩, hS.F ht⟩) hS.2.2 d_Outline_takeCorner_77
  unfold f_Outline_takeCorner at hf
  refine lv_aload_n hx hb d_Outline_takeCorner_0 rfl (lv_at hl 0 rfl) ?_
  refine va_get (D := X.1) (ci := 3) (v := .int (Outline_closed o0)) (C := "MaskEdges$Outline") (T := F_Outline) (N := 4) hx hb ht in_Outline hown hK hP 0 rfl rfl 3 (by decide) (ht _ xw_110) (fun _ h9 => h9) rfl d_Outline_takeCorner_1 ?_
  refine lv_if_ne (tgt := 16) hx hb d_Outline_takeCorner_4 (by decide) (fun hc => ?_) (fun hc => ?_)
  · replace hf := x_f hc hf
    refine lv_iconst (v := (0 : Int32)) hx hb d_Outline_takeCorner_16 (by decide) ?_
    replace hf := x_s hf
    subst hf
    subst hQ
    exact W.zret (v := (0 : Int32)) hx hb hr (xz_n (by decide)) (fun t ht hW => ⟨⟨rfl, by rw [ht]; exact hP⟩, hS.F ht⟩) hS.2.2 d_Outline_takeCorner_17
  · replace hf := x_t hc hf
    refine lv_aload_n hx hb d_Outline_takeCorner_7 rfl (lv_at hl 0 rfl) ?_
    refine lv_iload_n hx hb d_Outline_takeCorner_8 rfl (lv_at hl 1 rfl) ?_
    refine lv_iload_n hx hb d_Outline_takeCorner_9 rfl (lv_at hl 2 rfl) ?_
    obtain ⟨c10, e10, hf⟩ := x_b hf
    refine xcR (va_runV (As := [.int v1, .int v2]) (rest := []) ⟨hx, hb, hml, hown, ht⟩ (c_Outline_maySideGoTo l X h0 a0_0 a0_1 o0 v1 v2 hP e10) (cwV 2 ht (xgV xw_196 xw_197 xw_0 xw_41 xw_198) rfl rfl rfl (by decide +kernel) ⟨Nat.le_of_ble_eq_true rfl, Nat.le_of_ble_eq_true rfl⟩) (xPV hKK (va_recv hK hP (ci := 3) (q0 := 0) rfl rfl)) rfl rfl hl.1 rfl (lv_room (Nat.le_of_ble_eq_true rfl)) d_Outline_takeCorner_10 ⟨Nat.zero_le _, Nat.zero_le _⟩) ?_
    refine W.eq (g2 := F0 m 13 ls [.int c10]) rfl ?_
    refine lv_if_ne (tgt := 18) hx hb d_Outline_takeCorner_13 (by decide) (fun hc => ?_) (fun hc => ?_)
    · replace hf := x_f hc hf
      refine lv_aload_n hx hb d_Outline_takeCorner_18 rfl (lv_at hl 0 rfl) ?_
      refine va_get (D := X.1) (ci := 3) (v := .int (Outline_corners o0)) (C := "MaskEdges$Outline") (T := F_Outline) (N := 4) hx hb ht in_Outline hown hK hP 0 rfl rfl 2 (by decide) (ht _ xw_108) (fun _ h9 => h9) rfl d_Outline_takeCorner_19 ?_
      refine lv_iconst (v := (4 : Int32)) hx hb d_Outline_takeCorner_22 (by decide) ?_
      refine lv_icmp_lt (tgt := 78) hx hb d_Outline_takeCorner_23 (by decide) (fun hc => ?_) (fun hc => ?_)
      · replace hf := x_t hc hf
        exact hL78 v1 v2 o0 _ _ hP hS ls (lv_sub hl [0, 1, 2] rfl) hf
      · replace hf := x_f hc hf
        refine lv_iload_n hx hb d_Outline_takeCorner_26 rfl (lv_at hl 1 rfl) ?_
        refine lv_aload_n hx hb d_Outline_takeCorner_27 rfl (lv_at hl 0 rfl) ?_
        refine va_get (D := X.1) (ci := 3) (v := .ref a0_0) (C := "MaskEdges$Outline") (T := F_Outline) (N := 4) hx hb ht in_Outline hown hK hP 0 rfl rfl 0 (by decide) (ht _ xw_104) (fun _ h9 => h9) rfl d_Outline_takeCorner_28 ?_
        refine lv_iconst (v := (0 : Int32)) hx hb d_Outline_takeCorner_31 (by decide) ?_
        obtain ⟨g32, hf⟩ := x_g hf
        refine va_iald hx hb hK hP 1 0 rfl rfl (xin_in g32) d_Outline_takeCorner_32 ?_
        refine lv_icmp_ne (tgt := 78) hx hb d_Outline_takeCorner_33 (by decide) (fun hc => ?_) (fun hc => ?_)
        · replace hf := x_f hc hf
          exact hL78 v1 v2 o0 _ _ hP hS ls (lv_sub hl [0, 1, 2] rfl) hf
        · replace hf := x_t hc hf
          refine lv_iload_n hx hb d_Outline_takeCorner_36 rfl (lv_at hl 2 rfl) ?_
          refine lv_aload_n hx hb d_Outline_takeCorner_37 rfl (lv_at hl 0 rfl) ?_
          refine va_get (D := X.1) (ci := 3) (v := .ref a0_1) (C := "MaskEdges$Outline") (T := F_Outline) (N := 4) hx hb ht in_Outline hown hK hP 0 rfl rfl 1 (by decide) (ht _ xw_106) (fun _ h9 => h9) rfl d_Outline_takeCorner_38 ?_
          refine lv_iconst (v := (0 : Int32)) hx hb d_Outline_takeCorner_41 (by decide) ?_
          obtain ⟨g42, hf⟩ := x_g hf
          refine va_iald hx hb hK hP 2 0 rfl rfl (xin_in g42) d_Outline_takeCorner_42 ?_
          refine lv_icmp_ne (tgt := 78) hx hb d_Outline_takeCorner_43 (by decide) (fun hc => ?_) (fun hc => ?_)
          · replace hf := x_f hc hf
            exact hL78 v1 v2 o0 _ _ hP hS ls (lv_sub hl [0, 1, 2] rfl) hf
          · replace hf := x_t hc hf
            refine lv_aload_n hx hb d_Outline_takeCorner_46 rfl (lv_at hl 0 rfl) ?_
            refine lv_aload_n hx hb d_Outline_takeCorner_47 rfl (lv_at hl 0 rfl) ?_
            refine lv_aload_n hx hb d_Outline_takeCorner_48 rfl (lv_at hl 0 rfl) ?_
            refine va_get (D := X.1) (ci := 3) (v := .int (Outline_corners o0)) (C := "MaskEdges$Outline") (T := F_Outline) (N := 4) hx hb ht in_Outline hown hK hP 0 rfl rfl 2 (by decide) (ht _ xw_108) (fun _ h9 => h9) rfl d_Outline_takeCorner_49 ?_
            refine lv_iconst (v := (1 : Int32)) hx hb d_Outline_takeCorner_52 (by decide) ?_
            refine lv_isub hx hb d_Outline_takeCorner_53 ?_
            obtain ⟨c54, e54, hf⟩ := x_b hf
            refine xcR (va_runV (As := [.int ((Outline_corners o0) - (1 : Int32))]) (rest := [.ref h0]) ⟨hx, hb, hml, hown, ht⟩ (c_Outline_isAlongX l X h0 a0_0 a0_1 o0 ((Outline_corners o0) - (1 : Int32)) hP e54) (cwV 1 ht (xgV xw_199 xw_200 xw_201 xw_41 xw_202) rfl rfl rfl (by decide +kernel) ⟨Nat.le_of_ble_eq_true rfl, Nat.le_of_ble_eq_true rfl⟩) (xPV hKK (va_recv hK hP (ci := 3) (q0 := 0) rfl rfl)) rfl rfl hl.1 rfl (lv_room (Nat.le_of_ble_eq_true rfl)) d_Outline_takeCorner_54 ⟨Nat.zero_le _, Nat.zero_le _⟩) ?_
            refine W.eq (g2 := F0 m 57 ls [.int c54, .ref h0]) rfl ?_
            refine lv_aload_n hx hb d_Outline_takeCorner_57 rfl (lv_at hl 0 rfl) ?_
            refine lv_iconst (v := (0 : Int32)) hx hb d_Outline_takeCorner_58 (by decide) ?_
            obtain ⟨c59, e59, hf⟩ := x_b hf
            refine xcR (va_runV (As := [.int (0 : Int32)]) (rest := [.int c54, .ref h0]) ⟨hx, hb, hml, hown, ht⟩ (c_Outline_isAlongX l X h0 a0_0 a0_1 o0 (0 : Int32) hP e59) (cwV 1 ht (xgV xw_199 xw_200 xw_201 xw_41 xw_202) rfl rfl rfl (by decide +kernel) ⟨Nat.le_of_ble_eq_true rfl, Nat.le_of_ble_eq_true rfl⟩) (xPV hKK (va_recv hK hP (ci := 3) (q0 := 0) rfl rfl)) rfl rfl hl.1 rfl (lv_room (Nat.le_of_ble_eq_true rfl)) d_Outline_takeCorner_59 ⟨Nat.zero_le _, Nat.zero_le _⟩) ?_
            refine W.eq (g2 := F0 m 62 ls [.int c59, .int c54, .ref h0]) rfl ?_
            refine lv_icmp_eq (tgt := 69) hx hb d_Outline_takeCorner_62 (by decide) (fun hc => ?_) (fun hc => ?_)
            · replace hf := x_t hc hf
              refine lv_iconst (v := (0 : Int32)) hx hb d_Outline_takeCorner_69 (by decide) ?_
              exact hL70 (0 : Int32) o0 _ _ hP hS ls (lv_sub hl [0] rfl) hf
            · replace hf := x_f hc hf
              refine lv_iconst (v := (1 : Int32)) hx hb d_Outline_takeCorner_65 (by decide) ?_
              refine lv_goto (tgt := 70) hx hb d_Outline_takeCorner_66 (by decide) ?_
              exact hL70 (1 : Int32) o0 _ _ hP hS ls (lv_sub hl [0] rfl) hf
    · replace hf := x_t hc hf
      refine lv_iconst (v := (0 : Int32)) hx hb d_Outline_takeCorner_16 (by decide) ?_
      replace hf := x_s hf
      subst hf
      subst hQ
      exact W.zret (v := (0 : Int32)) hx hb hr (xz_n (by decide)) (fun t ht hW => ⟨⟨rfl, by rw [ht]; exact hP⟩, hS.F ht⟩) hS.2.2 d_Outline_takeCorner_17
def f_Outline_sideStart (o0 : t_Outline) (v1 : Int32) : Option (Int32) :=
  (f_Outline_isAlongX o0 v1).bind fun c2 =>
  if c2 = 0 then
  if xin v1 16 = true then
    some (Outline_ys o0 v1.toNatClampNeg)
  else none
else
  if xin v1 16 = true then
    some (Outline_xs o0 v1.toNatClampNeg)
  else none
set_option maxHeartbeats 4000000 in
set_option maxRecDepth 100000 in
theorem c_Outline_sideStart (l : Launch) (X : xG) {H : Heap} (h0 a0_0 a0_1 : Nat) (o0 : t_Outline) (v1 : Int32) {res : Int32} (hP0 : va_P X.1 vwCl (w_Outline X h0 a0_0 a0_1 o0) H) (hf : f_Outline_sideStart o0 v1 = some res) : xM l y_Outline_sideStart (Cond.code y_Outline_sideStart prog_5_method_6_code 2 (some .int) :: xT) ({ frames := 2, cells := 0, slots := 0, locals := 42 } : Room) (xK X) [.ref h0, .int v1] H xNo (some (.int res)) (fun H1 => H1 = H) := by
  refine Met.ofW (cc := prog_5_method_6_code) (maxL := 2) (ret := (some .int)) (by decide) rfl ?_
  intro p e s m args below meth c s₁ B hml hv
  obtain ⟨ha, hH, hKK⟩ := hv
  subst hH
  have hx := B.exec
  have hb := B.bytes
  have hr := B.returns
  have ht : ∀ w ∈ xT, w.before args s = true := fun w h => atoms_spec (ws := (Cond.code y_Outline_sideStart prog_5_method_6_code 2 (some .int) :: xT)) B.pre w (List.mem_cons_of_mem _ h)
  have hown : s.vm.findClass "MaskEdges$Outline" = some m.cls := findClass_of_methodNamed B.named
  have hlocks := B.notSynchronized
  have hK := hKK.1
  rw [show entryFrame m args 2 = entryFrame m ([.ref h0, .int v1] : List Value).toArray 2 from by rw [ha]]
  clear ha
  have hl := lv_entry ([.ref h0, .int v1]) (n := 2) (Nat.le_of_ble_eq_true rfl)
  rw [lg_entry_eq]
  generalize (lg_sl ([.ref h0, .int v1]) ++ List.replicate (2 - (lg_sl ([.ref h0, .int v1])).length) Slot.unset).toArray = ls at hl ⊢
  replace hl : lv_has ls 2 [(0, .ref h0), (1, .int v1)] := hl
  refine x_Q (fun Q hQ => ?_)
  unfold f_Outline_sideStart at hf
  refine lv_aload_n hx hb d_Outline_sideStart_0 rfl (lv_at hl 0 rfl) ?_
  refine lv_iload_n hx hb d_Outline_sideStart_1 rfl (lv_at hl 1 rfl) ?_
  obtain ⟨c2, e2, hf⟩ := x_b hf
  refine xcR (va_runV (As := [.int v1]) (rest := []) ⟨hx, hb, hml, hown, ht⟩ (c_Outline_isAlongX l X h0 a0_0 a0_1 o0 v1 hP0 e2) (cwV 1 ht (xgV xw_199 xw_200 xw_201 xw_41 xw_202) rfl rfl rfl (by decide +kernel) ⟨Nat.le_of_ble_eq_true rfl, Nat.le_of_ble_eq_true rfl⟩) (xPV hKK (va_recv hK hP0 (ci := 3) (q0 := 0) rfl rfl)) rfl rfl hl.1 rfl (lv_room (Nat.le_of_ble_eq_true rfl)) d_Outline_sideStart_2 ⟨Nat.zero_le _, Nat.zero_le _⟩) ?_
  refine W.eq (g2 := F0 m 5 ls [.int c2]) rfl ?_
  refine lv_if_eq (tgt := 17) hx hb d_Outline_sideStart_5 (by decide) (fun hc => ?_) (fun hc => ?_)
  · replace hf := x_t hc hf
    refine lv_aload_n hx hb d_Outline_sideStart_17 rfl (lv_at hl 0 rfl) ?_
    refine va_get (D := X.1) (ci := 3) (v := .ref a0_1) (C := "MaskEdges$Outline") (T := F_Outline) (N := 4) hx hb ht in_Outline hown hK hP0 0 rfl rfl 1 (by decide) (ht _ xw_106) (fun _ h9 => h9) rfl d_Outline_sideStart_18 ?_
    refine lv_iload_n hx hb d_Outline_sideStart_21 rfl (lv_at hl 1 rfl) ?_
    obtain ⟨g22, hf⟩ := x_g hf
    refine va_iald hx hb hK hP0 2 0 rfl rfl (xin_in g22) d_Outline_sideStart_22 ?_
    replace hf := x_s hf
    subst hf
    subst hQ
    exact W.iret (v := (Outline_ys o0 v1.toNatClampNeg)) hx hb hr (fun t ht hW => ⟨⟨rfl, ht⟩, x_F0 ht⟩) x_l0 d_Outline_sideStart_23
  · replace hf := x_f hc hf
    refine lv_aload_n hx hb d_Outline_sideStart_8 rfl (lv_at hl 0 rfl) ?_
    refine va_get (D := X.1) (ci := 3) (v := .ref a0_0) (C := "MaskEdges$Outline") (T := F_Outline) (N := 4) hx hb ht in_Outline hown hK hP0 0 rfl rfl 0 (by decide) (ht _ xw_104) (fun _ h9 => h9) rfl d_Outline_sideStart_9 ?_
    refine lv_iload_n hx hb d_Outline_sideStart_12 rfl (lv_at hl 1 rfl) ?_
    obtain ⟨g13, hf⟩ := x_g hf
    refine va_iald hx hb hK hP0 1 0 rfl rfl (xin_in g13) d_Outline_sideStart_13 ?_
    refine lv_goto (tgt := 23) hx hb d_Outline_sideStart_14 (by decide) ?_
    replace hf := x_s hf
    subst hf
    subst hQ
    exact W.iret (v := (Outline_xs o0 v1.toNatClampNeg)) hx hb hr (fun t ht hW => ⟨⟨rfl, ht⟩, x_F0 ht⟩) x_l0 d_Outline_sideStart_23
def f_Outline_sideEnd (o0 : t_Outline) (v1 : Int32) : Option (Int32) :=
  (f_Outline_nextCorner o0 v1).bind fun c2 =>
  (f_Outline_isAlongX o0 v1).bind fun c8 =>
  if c8 = 0 then
  if xin c2 16 = true then
    some (Outline_ys o0 c2.toNatClampNeg)
  else none
else
  if xin c2 16 = true then
    some (Outline_xs o0 c2.toNatClampNeg)
  else none
set_option maxHeartbeats 4000000 in
set_option maxRecDepth 100000 in
theorem c_Outline_sideEnd (l : Launch) (X : xG) {H : Heap} (h0 a0_0 a0_1 : Nat) (o0 : t_Outline) (v1 : Int32) {res : Int32} (hP0 : va_P X.1 vwCl (w_Outline X h0 a0_0 a0_1 o0) H) (hf : f_Outline_sideEnd o0 v1 = some res) : xM l y_Outline_sideEnd (Cond.code y_Outline_sideEnd prog_5_method_7_code 3 (some .int) :: xT) ({ frames := 2, cells := 0, slots := 0, locals := 42 } : Room) (xK X) [.ref h0, .int v1] H xNo (some (.int res)) (fun H1 => H1 = H) := by
  refine Met.ofW (cc := prog_5_method_7_code) (maxL := 3) (ret := (some .int)) (by decide) rfl ?_
  intro p e s m args below meth c s₁ B hml hv
  obtain ⟨ha, hH, hKK⟩ := hv
  subst hH
  have hx := B.exec
  have hb := B.bytes
  have hr := B.returns
  have ht : ∀ w ∈ xT, w.before args s = true := fun w h => atoms_spec (ws := (Cond.code y_Outline_sideEnd prog_5_method_7_code 3 (some .int) :: xT)) B.pre w (List.mem_cons_of_mem _ h)
  have hown : s.vm.findClass "MaskEdges$Outline" = some m.cls := findClass_of_methodNamed B.named
  have hlocks := B.notSynchronized
  have hK := hKK.1
  rw [show entryFrame m args 3 = entryFrame m ([.ref h0, .int v1] : List Value).toArray 3 from by rw [ha]]
  clear ha
  have hl := lv_entry ([.ref h0, .int v1]) (n := 3) (Nat.le_of_ble_eq_true rfl)
  rw [lg_entry_eq]
  generalize (lg_sl ([.ref h0, .int v1]) ++ List.replicate (3 - (lg_sl ([.ref h0, .int v1])).length) Slot.unset).toArray = ls at hl ⊢
  replace hl : lv_has ls 3 [(0, .ref h0), (1, .int v1)] := hl
  refine x_Q (fun Q hQ => ?_)
  unfold f_Outline_sideEnd at hf
  refine lv_aload_n hx hb d_Outline_sideEnd_0 rfl (lv_at hl 0 rfl) ?_
  refine lv_iload_n hx hb d_Outline_sideEnd_1 rfl (lv_at hl 1 rfl) ?_
  obtain ⟨c2, e2, hf⟩ := x_b hf
  refine xcR (va_runV (As := [.int v1]) (rest := []) ⟨hx, hb, hml, hown, ht⟩ (c_Outline_nextCorner l X h0 a0_0 a0_1 o0 v1 hP0 e2) (cwV 1 ht (xgV xw_203 xw_204 xw_205 xw_41 xw_206) rfl rfl rfl (by decide +kernel) ⟨Nat.le_of_ble_eq_true rfl, Nat.le_of_ble_eq_true rfl⟩) (xPV hKK (va_recv hK hP0 (ci := 3) (q0 := 0) rfl rfl)) rfl rfl hl.1 rfl (lv_room (Nat.le_of_ble_eq_true rfl)) d_Outline_sideEnd_2 ⟨Nat.zero_le _, Nat.zero_le _⟩) ?_
  refine W.eq (g2 := F0 m 5 ls [.int c2]) rfl ?_
  refine lv_istore_n (lv' := [(2, .int c2), (0, .ref h0), (1, .int v1)]) hx hb d_Outline_sideEnd_5 rfl hl (by decide) rfl (fun ls hl => ?_)
  refine lv_aload_n hx hb d_Outline_sideEnd_6 rfl (lv_at hl 1 rfl) ?_
  refine lv_iload_n hx hb d_Outline_sideEnd_7 rfl (lv_at hl 2 rfl) ?_
  obtain ⟨c8, e8, hf⟩ := x_b hf
  refine xcR (va_runV (As := [.int v1]) (rest := []) ⟨hx, hb, hml, hown, ht⟩ (c_Outline_isAlongX l X h0 a0_0 a0_1 o0 v1 hP0 e8) (cwV 1 ht (xgV xw_199 xw_200 xw_201 xw_41 xw_202) rfl rfl rfl (by decide +kernel) ⟨Nat.le_of_ble_eq_true rfl, Nat.le_of_ble_eq_true rfl⟩) (xPV hKK (va_recv hK hP0 (ci := 3) (q0 := 0) rfl rfl)) rfl rfl hl.1 rfl (lv_room (Nat.le_of_ble_eq_true rfl)) d_Outline_sideEnd_8 ⟨Nat.zero_le _, Nat.zero_le _⟩) ?_
  refine W.eq (g2 := F0 m 11 ls [.int c8]) rfl ?_
  refine lv_if_eq (tgt := 23) hx hb d_Outline_sideEnd_11 (by decide) (fun hc => ?_) (fun hc => ?_)
  · replace hf := x_t hc hf
    refine lv_aload_n hx hb d_Outline_sideEnd_23 rfl (lv_at hl 1 rfl) ?_
    refine va_get (D := X.1) (ci := 3) (v := .ref a0_1) (C := "MaskEdges$Outline") (T := F_Outline) (N := 4) hx hb ht in_Outline hown hK hP0 0 rfl rfl 1 (by decide) (ht _ xw_106) (fun _ h9 => h9) rfl d_Outline_sideEnd_24 ?_
    refine lv_iload_n hx hb d_Outline_sideEnd_27 rfl (lv_at hl 0 rfl) ?_
    obtain ⟨g28, hf⟩ := x_g hf
    refine va_iald hx hb hK hP0 2 0 rfl rfl (xin_in g28) d_Outline_sideEnd_28 ?_
    replace hf := x_s hf
    subst hf
    subst hQ
    exact W.iret (v := (Outline_ys o0 c2.toNatClampNeg)) hx hb hr (fun t ht hW => ⟨⟨rfl, ht⟩, x_F0 ht⟩) x_l0 d_Outline_sideEnd_29
  · replace hf := x_f hc hf
    refine lv_aload_n hx hb d_Outline_sideEnd_14 rfl (lv_at hl 1 rfl) ?_
    refine va_get (D := X.1) (ci := 3) (v := .ref a0_0) (C := "MaskEdges$Outline") (T := F_Outline) (N := 4) hx hb ht in_Outline hown hK hP0 0 rfl rfl 0 (by decide) (ht _ xw_104) (fun _ h9 => h9) rfl d_Outline_sideEnd_15 ?_
    refine lv_iload_n hx hb d_Outline_sideEnd_18 rfl (lv_at hl 0 rfl) ?_
    obtain ⟨g19, hf⟩ := x_g hf
    refine va_iald hx hb hK hP0 1 0 rfl rfl (xin_in g19) d_Outline_sideEnd_19 ?_
    refine lv_goto (tgt := 29) hx hb d_Outline_sideEnd_20 (by decide) ?_
    replace hf := x_s hf
    subst hf
    subst hQ
    exact W.iret (v := (Outline_xs o0 c2.toNatClampNeg)) hx hb hr (fun t ht hW => ⟨⟨rfl, ht⟩, x_F0 ht⟩) x_l0 d_Outline_sideEnd_29
def f_Outline_partsOf (o0 : t_Outline) (v1 : Int32) (v2 : Int32) : Option (Int32) :=
  if (1 : Int32) ≤ v2 then
  (f_Outline_sideEnd o0 v1).bind fun c9 =>
    (f_Outline_sideStart o0 v1).bind fun c14 =>
    if v2 = 0 then none else
    some ((((if 0 ≤ (c9 - c14) then (c9 - c14) else 0 - (c9 - c14)) + v2) - (1 : Int32)) / v2)
else
  some (0 : Int32)
set_option maxHeartbeats 4000000 in
set_option maxRecDepth 100000 in
theorem c_Outline_partsOf (l : Launch) (X : xG) {H : Heap} (h0 a0_0 a0_1 : Nat) (o0 : t_Outline) (v1 : Int32) (v2 : Int32) {res : Int32} (hP0 : va_P X.1 vwCl (w_Outline X h0 a0_0 a0_1 o0) H) (hf : f_Outline_partsOf o0 v1 v2 = some res) : xM l y_Outline_partsOf (Cond.code y_Outline_partsOf prog_5_method_8_code 4 (some .int) :: xT) ({ frames := 3, cells := 0, slots := 0, locals := 64 } : Room) (xK X) [.ref h0, .int v1, .int v2] H xNo (some (.int res)) (fun H1 => H1 = H) := by
  refine Met.ofW (cc := prog_5_method_8_code) (maxL := 4) (ret := (some .int)) (by decide) rfl ?_
  intro p e s m args below meth c s₁ B hml hv
  obtain ⟨ha, hH, hKK⟩ := hv
  subst hH
  have hx := B.exec
  have hb := B.bytes
  have hr := B.returns
  have ht : ∀ w ∈ xT, w.before args s = true := fun w h => atoms_spec (ws := (Cond.code y_Outline_partsOf prog_5_method_8_code 4 (some .int) :: xT)) B.pre w (List.mem_cons_of_mem _ h)
  have hown : s.vm.findClass "MaskEdges$Outline" = some m.cls := findClass_of_methodNamed B.named
  have hlocks := B.notSynchronized
  have hK := hKK.1
  rw [show entryFrame m args 4 = entryFrame m ([.ref h0, .int v1, .int v2] : List Value).toArray 4 from by rw [ha]]
  clear ha
  have hl := lv_entry ([.ref h0, .int v1, .int v2]) (n := 4) (Nat.le_of_ble_eq_true rfl)
  rw [lg_entry_eq]
  generalize (lg_sl ([.ref h0, .int v1, .int v2]) ++ List.replicate (4 - (lg_sl ([.ref h0, .int v1, .int v2])).length) Slot.unset).toArray = ls at hl ⊢
  replace hl : lv_has ls 4 [(0, .ref h0), (1, .int v1), (2, .int v2)] := hl
  refine x_Q (fun Q hQ => ?_)
  unfold f_Outline_partsOf at hf
  refine lv_iload_n hx hb d_Outline_partsOf_0 rfl (lv_at hl 2 rfl) ?_
  refine lv_iconst (v := (1 : Int32)) hx hb d_Outline_partsOf_1 (by decide) ?_
  refine lv_icmp_ge (tgt := 7) hx hb d_Outline_partsOf_2 (by decide) (fun hc => ?_) (fun hc => ?_)
  · replace hf := x_t hc hf
    refine lv_aload_n hx hb d_Outline_partsOf_7 rfl (lv_at hl 0 rfl) ?_
    refine lv_iload_n hx hb d_Outline_partsOf_8 rfl (lv_at hl 1 rfl) ?_
    obtain ⟨c9, e9, hf⟩ := x_b hf
    refine xcR (va_runV (As := [.int v1]) (rest := []) ⟨hx, hb, hml, hown, ht⟩ (c_Outline_sideEnd l X h0 a0_0 a0_1 o0 v1 hP0 e9) (cwV 1 ht (xgV xw_281 xw_282 xw_283 xw_41 xw_284) rfl rfl rfl (by decide +kernel) ⟨Nat.le_of_ble_eq_true rfl, Nat.le_of_ble_eq_true rfl⟩) (xPV hKK (va_recv hK hP0 (ci := 3) (q0 := 0) rfl rfl)) rfl rfl hl.1 rfl (lv_room (Nat.le_of_ble_eq_true rfl)) d_Outline_partsOf_9 ⟨Nat.zero_le _, Nat.zero_le _⟩) ?_
    refine W.eq (g2 := F0 m 12 ls [.int c9]) rfl ?_
    refine lv_aload_n hx hb d_Outline_partsOf_12 rfl (lv_at hl 0 rfl) ?_
    refine lv_iload_n hx hb d_Outline_partsOf_13 rfl (lv_at hl 1 rfl) ?_
    obtain ⟨c14, e14, hf⟩ := x_b hf
    refine xcR (va_runV (As := [.int v1]) (rest := [.int c9]) ⟨hx, hb, hml, hown, ht⟩ (c_Outline_sideStart l X h0 a0_0 a0_1 o0 v1 hP0 e14) (cwV 1 ht (xgV xw_285 xw_286 xw_287 xw_41 xw_288) rfl rfl rfl (by decide +kernel) ⟨Nat.le_of_ble_eq_true rfl, Nat.le_of_ble_eq_true rfl⟩) (xPV hKK (va_recv hK hP0 (ci := 3) (q0 := 0) rfl rfl)) rfl rfl hl.1 rfl (lv_room (Nat.le_of_ble_eq_true rfl)) d_Outline_partsOf_14 ⟨Nat.zero_le _, Nat.zero_le _⟩) ?_
    refine W.eq (g2 := F0 m 17 ls [.int c14, .int c9]) rfl ?_
    refine lv_isub hx hb d_Outline_partsOf_17 ?_
    refine va_mabs hx hb (hml.trans hl.1.symm) hown (ht _ xw_289) (ht _ xw_290) (ht _ xw_44) (ht _ xw_math_abs) (Nat.le_of_ble_eq_true rfl) (Nat.le_of_ble_eq_true rfl) (Nat.zero_le _) (Nat.zero_le _) d_Outline_partsOf_18 ?_
    refine lv_istore_n (lv' := [(3, .int (if 0 ≤ (c9 - c14) then (c9 - c14) else 0 - (c9 - c14))), (0, .ref h0), (1, .int v1), (2, .int v2)]) hx hb d_Outline_partsOf_21 rfl hl (by decide) rfl (fun ls hl => ?_)
    refine lv_iload_n hx hb d_Outline_partsOf_22 rfl (lv_at hl 0 rfl) ?_
    refine lv_iload_n hx hb d_Outline_partsOf_23 rfl (lv_at hl 3 rfl) ?_
    refine lv_iadd hx hb d_Outline_partsOf_24 ?_
    refine lv_iconst (v := (1 : Int32)) hx hb d_Outline_partsOf_25 (by decide) ?_
    refine lv_isub hx hb d_Outline_partsOf_26 ?_
    refine lv_iload_n hx hb d_Outline_partsOf_27 rfl (lv_at hl 3 rfl) ?_
    obtain ⟨z28, hf⟩ := x_n hf
    refine lv_idiv hx hb d_Outline_partsOf_28 z28 ?_
    replace hf := x_s hf
    subst hf
    subst hQ
    exact W.iret (v := ((((if 0 ≤ (c9 - c14) then (c9 - c14) else 0 - (c9 - c14)) + v2) - (1 : Int32)) / v2)) hx hb hr (fun t ht hW => ⟨⟨rfl, ht⟩, x_F0 ht⟩) x_l0 d_Outline_partsOf_29
  · replace hf := x_f hc hf
    refine lv_iconst (v := (0 : Int32)) hx hb d_Outline_partsOf_5 (by decide) ?_
    replace hf := x_s hf
    subst hf
    subst hQ
    exact W.iret (v := (0 : Int32)) hx hb hr (fun t ht hW => ⟨⟨rfl, ht⟩, x_F0 ht⟩) x_l0 d_Outline_partsOf_6
def f_Outline_holds_79 (o0 : t_Outline) (r5 : Int32 → Int32 → Int32 → Int32 → Option (Int32)) (v1 : Int32) (v2 : Int32) (v3 : Int32) (v4 : Int32) : Option (Int32) :=
  r5 v1 v2 v3 (v4 + (1 : Int32))
def f_Outline_holds_78 (o0 : t_Outline) (r5 : Int32 → Int32 → Int32 → Int32 → Option (Int32)) (v1 : Int32) (v2 : Int32) (v4 : Int32) (s0 : Int32) : Option (Int32) :=
  (f_Outline_holds_79 o0 r5) v1 v2 s0 v4
def f_Outline_holds_5 (o0 : t_Outline) (r5 : Int32 → Int32 → Int32 → Int32 → Option (Int32)) (k85 : Int32 → Option (Int32)) (v1 : Int32) (v2 : Int32) (v3 : Int32) (v4 : Int32) : Option (Int32) :=
  if (Outline_corners o0) ≤ v4 then
  k85 v3
else
  if xin v4 16 = true then
    (f_Outline_nextCorner o0 v4).bind fun c30 =>
      if xin c30 16 = true then
      if xin v4 16 = true then
        if v1 < (Outline_xs o0 v4.toNatClampNeg) then
          (f_Outline_holds_79 o0 r5) v1 v2 v3 v4
        else
          if v2 < (if (Outline_ys o0 c30.toNatClampNeg) < (Outline_ys o0 v4.toNatClampNeg) then (Outline_ys o0 c30.toNatClampNeg) else (Outline_ys o0 v4.toNatClampNeg)) then
            (f_Outline_holds_79 o0 r5) v1 v2 v3 v4
          else
            if (if (Outline_ys o0 v4.toNatClampNeg) < (Outline_ys o0 c30.toNatClampNeg) then (Outline_ys o0 c30.toNatClampNeg) else (Outline_ys o0 v4.toNatClampNeg)) ≤ v2 then
              (f_Outline_holds_79 o0 r5) v1 v2 v3 v4
            else
              if v3 = 0 then
                (f_Outline_holds_78 o0 r5) v1 v2 v4 (1 : Int32)
              else
                (f_Outline_holds_78 o0 r5) v1 v2 v4 (0 : Int32)
      else none
    else none
  else none
def f_Outline_holds_85 (o0 : t_Outline) (v3 : Int32) : Option (Int32) :=
  if (Outline_closed o0) = 0 then
  some (0 : Int32)
else
  if v3 = 0 then
    some (0 : Int32)
  else
    some (1 : Int32)
def f_Outline_holds (o0 : t_Outline) (v1 : Int32) (v2 : Int32) : Option (Int32) :=
  (xloop (fun r => f_Outline_holds_5 o0 r (f_Outline_holds_85 o0)) (fun _ _ _ _ => none) 100000) v1 v2 (0 : Int32) (0 : Int32)
set_option maxHeartbeats 4000000 in
set_option maxRecDepth 100000 in
theorem c_Outline_holds (l : Launch) (X : xG) {H : Heap} (h0 a0_0 a0_1 : Nat) (o0 : t_Outline) (v1 : Int32) (v2 : Int32) {res : Int32} (hP0 : va_P X.1 vwCl (w_Outline X h0 a0_0 a0_1 o0) H) (hf : f_Outline_holds o0 v1 v2 = some res) : xM l y_Outline_holds (Cond.code y_Outline_holds prog_5_method_9_code 7 (some .boolean) :: xT) ({ frames := 1, cells := 0, slots := 0, locals := 21 } : Room) (xK X) [.ref h0, .int v1, .int v2] H xNo (some (.int res)) (fun H1 => H1 = H) := by
  refine Met.ofW (cc := prog_5_method_9_code) (maxL := 7) (ret := (some .boolean)) (by decide) rfl ?_
  intro p e s m args below meth c s₁ B hml hv
  obtain ⟨ha, hH, hKK⟩ := hv
  subst hH
  have hx := B.exec
  have hb := B.bytes
  have hr := B.returns
  have ht : ∀ w ∈ xT, w.before args s = true := fun w h => atoms_spec (ws := (Cond.code y_Outline_holds prog_5_method_9_code 7 (some .boolean) :: xT)) B.pre w (List.mem_cons_of_mem _ h)
  have hown : s.vm.findClass "MaskEdges$Outline" = some m.cls := findClass_of_methodNamed B.named
  have hlocks := B.notSynchronized
  have hK := hKK.1
  rw [show entryFrame m args 7 = entryFrame m ([.ref h0, .int v1, .int v2] : List Value).toArray 7 from by rw [ha]]
  clear ha
  have hl := lv_entry ([.ref h0, .int v1, .int v2]) (n := 7) (Nat.le_of_ble_eq_true rfl)
  rw [lg_entry_eq]
  generalize (lg_sl ([.ref h0, .int v1, .int v2]) ++ List.replicate (7 - (lg_sl ([.ref h0, .int v1, .int v2])).length) Slot.unset).toArray = ls at hl ⊢
  replace hl : lv_has ls 7 [(0, .ref h0), (1, .int v1), (2, .int v2)] := hl
  refine x_Q (fun Q hQ => ?_)
  have hL79 : ∀ (r5 : Int32 → Int32 → Int32 → Int32 → Option (Int32)) (hr5 : ∀ (v1 : Int32) (v2 : Int32) (v3 : Int32) (v4 : Int32), ∀ (ls : Array Slot), lv_has ls 7 [(0, .ref h0), (1, .int v1), (2, .int v2), (3, .int v3), (4, .int v4)] → r5 v1 v2 v3 v4 = some res → W p l e (headSpec (Cond.code y_Outline_holds prog_5_method_9_code 7 (some .boolean) :: xT) ({ frames := 1, cells := 0, slots := 0, locals := 21 } : Room)).room s m args below meth c s.heap [] 0 0 Q (F0 m 5 ls [])), ∀ (v1 : Int32) (v2 : Int32) (v3 : Int32) (v4 : Int32), ∀ (ls : Array Slot), lv_has ls 7 [(0, .ref h0), (1, .int v1), (2, .int v2), (3, .int v3), (4, .int v4)] → f_Outline_holds_79 o0 r5 v1 v2 v3 v4 = some res → W p l e (headSpec (Cond.code y_Outline_holds prog_5_method_9_code 7 (some .boolean) :: xT) ({ frames := 1, cells := 0, slots := 0, locals := 21 } : Room)).room s m args below meth c s.heap [] 0 0 Q (F0 m 79 ls []) := by
    intro r5 hr5 v1 v2 v3 v4 ls hl hf
    unfold f_Outline_holds_79 at hf
    refine lv_iinc (v := (v4 + (1 : Int32))) (lv' := [(4, .int (v4 + (1 : Int32))), (0, .ref h0), (1, .int v1), (2, .int v2), (3, .int v3)]) hx hb d_Outline_holds_79 hl (k := 4) rfl rfl (by decide) rfl (fun ls hl => ?_)
    refine lv_goto (tgt := 5) hx hb d_Outline_holds_82 (by decide) ?_
    exact hr5 v1 v2 v3 (v4 + (1 : Int32))  ls (lv_sub hl [1, 2, 3, 4, 0] rfl) hf
  have hL78 : ∀ (r5 : Int32 → Int32 → Int32 → Int32 → Option (Int32)) (hr5 : ∀ (v1 : Int32) (v2 : Int32) (v3 : Int32) (v4 : Int32), ∀ (ls : Array Slot), lv_has ls 7 [(0, .ref h0), (1, .int v1), (2, .int v2), (3, .int v3), (4, .int v4)] → r5 v1 v2 v3 v4 = some res → W p l e (headSpec (Cond.code y_Outline_holds prog_5_method_9_code 7 (some .boolean) :: xT) ({ frames := 1, cells := 0, slots := 0, locals := 21 } : Room)).room s m args below meth c s.heap [] 0 0 Q (F0 m 5 ls [])), ∀ (v1 : Int32) (v2 : Int32) (v4 : Int32) (s0 : Int32), ∀ (ls : Array Slot), lv_has ls 7 [(0, .ref h0), (1, .int v1), (2, .int v2), (4, .int v4)] → f_Outline_holds_78 o0 r5 v1 v2 v4 s0 = some res → W p l e (headSpec (Cond.code y_Outline_holds prog_5_method_9_code 7 (some .boolean) :: xT) ({ frames := 1, cells := 0, slots := 0, locals := 21 } : Room)).room s m args below meth c s.heap [] 0 0 Q (F0 m 78 ls [.int s0]) := by
    intro r5 hr5 v1 v2 v4 s0 ls hl hf
    unfold f_Outline_holds_78 at hf
    refine lv_istore_n (lv' := [(3, .int s0), (0, .ref h0), (1, .int v1), (2, .int v2), (4, .int v4)]) hx hb d_Outline_holds_78 rfl hl (by decide) rfl (fun ls hl => ?_)
    exact (hL79 _ hr5) v1 v2 s0 v4  ls (lv_sub hl [1, 2, 3, 0, 4] rfl) hf
  have hL5 : ∀ (k85 : Int32 → Option (Int32)) (hk85 : ∀ (v3 : Int32), ∀ (ls : Array Slot), lv_has ls 7 [(0, .ref h0), (3, .int v3)] → k85 v3 = some res → W p l e (headSpec (Cond.code y_Outline_holds prog_5_method_9_code 7 (some .boolean) :: xT) ({ frames := 1, cells := 0, slots := 0, locals := 21 } : Room)).room s m args below meth c s.heap [] 0 0 Q (F0 m 85 ls [])), ∀ (n : Nat), ∀ (v1 : Int32) (v2 : Int32) (v3 : Int32) (v4 : Int32), ∀ (ls : Array Slot), lv_has ls 7 [(0, .ref h0), (1, .int v1), (2, .int v2), (3, .int v3), (4, .int v4)] → (xloop (fun r => f_Outline_holds_5 o0 r k85) (fun _ _ _ _ => none) n) v1 v2 v3 v4 = some res → W p l e (headSpec (Cond.code y_Outline_holds prog_5_method_9_code 7 (some .boolean) :: xT) ({ frames := 1, cells := 0, slots := 0, locals := 21 } : Room)).room s m args below meth c s.heap [] 0 0 Q (F0 m 5 ls []) := by
    intro k85 hk85
    intro n
    induction n with
    | zero => intro v1 v2 v3 v4 ls hl hf; cases hf
    | succ n ih =>
      intro v1 v2 v3 v4 ls hl hf
      replace hf : f_Outline_holds_5 o0 (xloop (fun r => f_Outline_holds_5 o0 r k85) (fun _ _ _ _ => none) n) k85 v1 v2 v3 v4 = some res := hf
      have hr5 := ih
      clear ih
      unfold f_Outline_holds_5 at hf
      refine lv_iload hx hb d_Outline_holds_5 (lv_at hl 4 rfl) ?_
      refine lv_aload_n hx hb d_Outline_holds_7 rfl (lv_at hl 0 rfl) ?_
      refine va_get (D := X.1) (ci := 3) (v := .int (Outline_corners o0)) (C := "MaskEdges$Outline") (T := F_Outline) (N := 4) hx hb ht in_Outline hown hK hP0 0 rfl rfl 2 (by decide) (ht _ xw_108) (fun _ h9 => h9) rfl d_Outline_holds_8 ?_
      refine lv_icmp_ge (tgt := 85) hx hb d_Outline_holds_11 (by decide) (fun hc => ?_) (fun hc => ?_)
      · replace hf := x_t hc hf
        exact hk85 v3  ls (lv_sub hl [0, 3] rfl) hf
      · replace hf := x_f hc hf
        refine lv_aload_n hx hb d_Outline_holds_14 rfl (lv_at hl 0 rfl) ?_
        refine va_get (D := X.1) (ci := 3) (v := .ref a0_1) (C := "MaskEdges$Outline") (T := F_Outline) (N := 4) hx hb ht in_Outline hown hK hP0 0 rfl rfl 1 (by decide) (ht _ xw_106) (fun _ h9 => h9) rfl d_Outline_holds_15 ?_
        refine lv_iload hx hb d_Outline_holds_18 (lv_at hl 4 rfl) ?_
        obtain ⟨g20, hf⟩ := x_g hf
        refine va_iald hx hb hK hP0 2 0 rfl rfl (xin_in g20) d_Outline_holds_20 ?_
        refine lv_istore (lv' := [(5, .int (Outline_ys o0 v4.toNatClampNeg)), (0, .ref h0), (1, .int v1), (2, .int v2), (3, .int v3), (4, .int v4)]) hx hb d_Outline_holds_21 hl (by decide) rfl (fun ls hl => ?_)
        refine lv_aload_n hx hb d_Outline_holds_23 rfl (lv_at hl 1 rfl) ?_
        refine va_get (D := X.1) (ci := 3) (v := .ref a0_1) (C := "MaskEdges$Outline") (T := F_Outline) (N := 4) hx hb ht in_Outline hown hK hP0 0 rfl rfl 1 (by decide) (ht _ xw_106) (fun _ h9 => h9) rfl d_Outline_holds_24 ?_
        refine lv_aload_n hx hb d_Outline_holds_27 rfl (lv_at hl 1 rfl) ?_
        refine lv_iload hx hb d_Outline_holds_28 (lv_at hl 5 rfl) ?_
        obtain ⟨c30, e30, hf⟩ := x_b hf
        refine xcR (va_runV (As := [.int v4]) (rest := [.ref a0_1]) ⟨hx, hb, hml, hown, ht⟩ (c_Outline_nextCorner l X h0 a0_0 a0_1 o0 v4 hP0 e30) (cwV 1 ht (xgV xw_203 xw_204 xw_205 xw_41 xw_206) rfl rfl rfl (by decide +kernel) ⟨Nat.le_of_ble_eq_true rfl, Nat.le_of_ble_eq_true rfl⟩) (xPV hKK (va_recv hK hP0 (ci := 3) (q0 := 0) rfl rfl)) rfl rfl hl.1 rfl (lv_room (Nat.le_of_ble_eq_true rfl)) d_Outline_holds_30 ⟨Nat.zero_le _, Nat.zero_le _⟩) ?_
        refine W.eq (g2 := F0 m 33 ls [.int c30, .ref a0_1]) rfl ?_
        obtain ⟨g33, hf⟩ := x_g hf
        refine va_iald hx hb hK hP0 2 0 rfl rfl (xin_in g33) d_Outline_holds_33 ?_
        refine lv_istore (lv' := [(6, .int (Outline_ys o0 c30.toNatClampNeg)), (5, .int (Outline_ys o0 v4.toNatClampNeg)), (0, .ref h0), (1, .int v1), (2, .int v2), (3, .int v3), (4, .int v4)]) hx hb d_Outline_holds_34 hl (by decide) rfl (fun ls hl => ?_)
        refine lv_aload_n hx hb d_Outline_holds_36 rfl (lv_at hl 2 rfl) ?_
        refine va_get (D := X.1) (ci := 3) (v := .ref a0_0) (C := "MaskEdges$Outline") (T := F_Outline) (N := 4) hx hb ht in_Outline hown hK hP0 0 rfl rfl 0 (by decide) (ht _ xw_104) (fun _ h9 => h9) rfl d_Outline_holds_37 ?_
        refine lv_iload hx hb d_Outline_holds_40 (lv_at hl 6 rfl) ?_
        obtain ⟨g42, hf⟩ := x_g hf
        refine va_iald hx hb hK hP0 1 0 rfl rfl (xin_in g42) d_Outline_holds_42 ?_
        refine lv_iload_n hx hb d_Outline_holds_43 rfl (lv_at hl 3 rfl) ?_
        refine lv_icmp_gt (tgt := 79) hx hb d_Outline_holds_44 (by decide) (fun hc => ?_) (fun hc => ?_)
        · replace hf := x_t hc hf
          exact (hL79 _ hr5) v1 v2 v3 v4  ls (lv_sub hl [2, 3, 4, 5, 6] rfl) hf
        · replace hf := x_f hc hf
          refine lv_iload hx hb d_Outline_holds_47 (lv_at hl 1 rfl) ?_
          refine lv_iload hx hb d_Outline_holds_49 (lv_at hl 0 rfl) ?_
          refine va_mmin hx hb (hml.trans hl.1.symm) hown (ht _ xw_214) (ht _ xw_215) (ht _ xw_44) (ht _ xw_math_min) (Nat.le_of_ble_eq_true rfl) (Nat.le_of_ble_eq_true rfl) (Nat.zero_le _) (Nat.zero_le _) d_Outline_holds_51 ?_
          refine lv_iload_n hx hb d_Outline_holds_54 rfl (lv_at hl 4 rfl) ?_
          refine lv_icmp_gt (tgt := 79) hx hb d_Outline_holds_55 (by decide) (fun hc => ?_) (fun hc => ?_)
          · replace hf := x_t hc hf
            exact (hL79 _ hr5) v1 v2 v3 v4  ls (lv_sub hl [2, 3, 4, 5, 6] rfl) hf
          · replace hf := x_f hc hf
            refine lv_iload_n hx hb d_Outline_holds_58 rfl (lv_at hl 4 rfl) ?_
            refine lv_iload hx hb d_Outline_holds_59 (lv_at hl 1 rfl) ?_
            refine lv_iload hx hb d_Outline_holds_61 (lv_at hl 0 rfl) ?_
            refine va_mmax hx hb (hml.trans hl.1.symm) hown (ht _ xw_217) (ht _ xw_218) (ht _ xw_44) (ht _ xw_math_max) (Nat.le_of_ble_eq_true rfl) (Nat.le_of_ble_eq_true rfl) (Nat.zero_le _) (Nat.zero_le _) d_Outline_holds_63 ?_
            refine lv_icmp_ge (tgt := 79) hx hb d_Outline_holds_66 (by decide) (fun hc => ?_) (fun hc => ?_)
            · replace hf := x_t hc hf
              exact (hL79 _ hr5) v1 v2 v3 v4  ls (lv_sub hl [2, 3, 4, 5, 6] rfl) hf
            · replace hf := x_f hc hf
              refine lv_iload_n hx hb d_Outline_holds_69 rfl (lv_at hl 5 rfl) ?_
              refine lv_if_ne (tgt := 77) hx hb d_Outline_holds_70 (by decide) (fun hc => ?_) (fun hc => ?_)
              · replace hf := x_f hc hf
                refine lv_iconst (v := (0 : Int32)) hx hb d_Outline_holds_77 (by decide) ?_
                exact (hL78 _ hr5) v1 v2 v4 (0 : Int32)  ls (lv_sub hl [2, 3, 4, 6] rfl) hf
              · replace hf := x_t hc hf
                refine lv_iconst (v := (1 : Int32)) hx hb d_Outline_holds_73 (by decide) ?_
                refine lv_goto (tgt := 78) hx hb d_Outline_holds_74 (by decide) ?_
                exact (hL78 _ hr5) v1 v2 v4 (1 : Int32)  ls (lv_sub hl [2, 3, 4, 6] rfl) hf
  have hL85 : ∀ (v3 : Int32), ∀ (ls : Array Slot), lv_has ls 7 [(0, .ref h0), (3, .int v3)] → f_Outline_holds_85 o0 v3 = some res → W p l e (headSpec (Cond.code y_Outline_holds prog_5_method_9_code 7 (some .boolean) :: xT) ({ frames := 1, cells := 0, slots := 0, locals := 21 } : Room)).room s m args below meth c s.heap [] 0 0 Q (F0 m 85 ls []) := by
    intro v3 ls hl hf
    unfold f_Outline_holds_85 at hf
    refine lv_aload_n hx hb d_Outline_holds_85 rfl (lv_at hl 0 rfl) ?_
    refine va_get (D := X.1) (ci := 3) (v := .int (Outline_closed o0)) (C := "MaskEdges$Outline") (T := F_Outline) (N := 4) hx hb ht in_Outline hown hK hP0 0 rfl rfl 3 (by decide) (ht _ xw_110) (fun _ h9 => h9) rfl d_Outline_holds_86 ?_
    refine lv_if_eq (tgt := 100) hx hb d_Outline_holds_89 (by decide) (fun hc => ?_) (fun hc => ?_)
    · replace hf := x_t hc hf
      refine lv_iconst (v := (0 : Int32)) hx hb d_Outline_holds_100 (by decide) ?_
      replace hf := x_s hf
      subst hf
      subst hQ
      exact W.zret (v := (0 : Int32)) hx hb hr (xz_n (by decide)) (fun t ht hW => ⟨⟨rfl, ht⟩, x_F0 ht⟩) x_l0 d_Outline_holds_101
    · replace hf := x_f hc hf
      refine lv_iload_n hx hb d_Outline_holds_92 rfl (lv_at hl 1 rfl) ?_
      refine lv_if_eq (tgt := 100) hx hb d_Outline_holds_93 (by decide) (fun hc => ?_) (fun hc => ?_)
      · replace hf := x_t hc hf
        refine lv_iconst (v := (0 : Int32)) hx hb d_Outline_holds_100 (by decide) ?_
        replace hf := x_s hf
        subst hf
        subst hQ
        exact W.zret (v := (0 : Int32)) hx hb hr (xz_n (by decide)) (fun t ht hW => ⟨⟨rfl, ht⟩, x_F0 ht⟩) x_l0 d_Outline_holds_101
      · replace hf := x_f hc hf
        refine lv_iconst (v := (1 : Int32)) hx hb d_Outline_holds_96 (by decide) ?_
        refine lv_goto (tgt := 101) hx hb d_Outline_holds_97 (by decide) ?_
        replace hf := x_s hf
        subst hf
        subst hQ
        exact W.zret (v := (1 : Int32)) hx hb hr (xz_n (by decide)) (fun t ht hW => ⟨⟨rfl, ht⟩, x_F0 ht⟩) x_l0 d_Outline_holds_101
  unfold f_Outline_holds at hf
  refine lv_iconst (v := (0 : Int32)) hx hb d_Outline_holds_0 (by decide) ?_
  refine lv_istore_n (lv' := [(3, .int (0 : Int32)), (0, .ref h0), (1, .int v1), (2, .int v2)]) hx hb d_Outline_holds_1 rfl hl (by decide) rfl (fun ls hl => ?_)
  refine lv_iconst (v := (0 : Int32)) hx hb d_Outline_holds_2 (by decide) ?_
  refine lv_istore (lv' := [(4, .int (0 : Int32)), (3, .int (0 : Int32)), (0, .ref h0), (1, .int v1), (2, .int v2)]) hx hb d_Outline_holds_3 hl (by decide) rfl (fun ls hl => ?_)
  exact (hL5 _ hL85 100000) v1 v2 (0 : Int32) (0 : Int32)  ls (lv_sub hl [2, 3, 4, 1, 0] rfl) hf
end
section
def f_CellSet_has (o0 : t_CellSet) (v1 : Int32) (v2 : Int32) : Option (Int32) :=
  (f_MaskEdges_onGrid v1 v2).bind fun c2 =>
  if c2 = 0 then
  some (0 : Int32)
else
  if xin v2 48 = true then
    if (lg_cmp ((CellSet_rows o0 v2.toNatClampNeg) &&& ((1 : Int64) <<< (v1.toInt64 &&& 63))) (0 : Int64)) = 0 then
      some (0 : Int32)
    else
      some (1 : Int32)
  else none
set_option maxHeartbeats 4000000 in
set_option maxRecDepth 100000 in
theorem c_CellSet_has (l : Launch) (X : xG) {H : Heap} (h0 a0_0 : Nat) (o0 : t_CellSet) (v1 : Int32) (v2 : Int32) {res : Int32} (hP0 : va_P X.1 vwCl (w_CellSet X h0 a0_0 o0) H) (hf : f_CellSet_has o0 v1 v2 = some res) : xM l y_CellSet_has (Cond.code y_CellSet_has prog_3_method_2_code 3 (some .boolean) :: xT) ({ frames := 1, cells := 0, slots := 0, locals := 21 } : Room) (xK X) [.ref h0, .int v1, .int v2] H xNo (some (.int res)) (fun H1 => H1 = H) := by
  refine Met.ofW (cc := prog_3_method_2_code) (maxL := 3) (ret := (some .boolean)) (by decide) rfl ?_
  intro p e s m args below meth c s₁ B hml hv
  obtain ⟨ha, hH, hKK⟩ := hv
  subst hH
  have hx := B.exec
  have hb := B.bytes
  have hr := B.returns
  have ht : ∀ w ∈ xT, w.before args s = true := fun w h => atoms_spec (ws := (Cond.code y_CellSet_has prog_3_method_2_code 3 (some .boolean) :: xT)) B.pre w (List.mem_cons_of_mem _ h)
  have hown : s.vm.findClass "MaskEdges$CellSet" = some m.cls := findClass_of_methodNamed B.named
  have hlocks := B.notSynchronized
  have hK := hKK.1
  rw [show entryFrame m args 3 = entryFrame m ([.ref h0, .int v1, .int v2] : List Value).toArray 3 from by rw [ha]]
  clear ha
  have hl := lv_entry ([.ref h0, .int v1, .int v2]) (n := 3) (Nat.le_of_ble_eq_true rfl)
  rw [lg_entry_eq]
  generalize (lg_sl ([.ref h0, .int v1, .int v2]) ++ List.replicate (3 - (lg_sl ([.ref h0, .int v1, .int v2])).length) Slot.unset).toArray = ls at hl ⊢
  replace hl : lv_has ls 3 [(0, .ref h0), (1, .int v1), (2, .int v2)] := hl
  refine x_Q (fun Q hQ => ?_)
  unfold f_CellSet_has at hf
  refine lv_iload_n hx hb d_CellSet_has_0 rfl (lv_at hl 1 rfl) ?_
  refine lv_iload_n hx hb d_CellSet_has_1 rfl (lv_at hl 2 rfl) ?_
  obtain ⟨c2, e2, hf⟩ := x_b hf
  refine xcR (va_runSN (As := [.int v1, .int v2]) (rest := []) ⟨hx, hb, hml, hown, ht⟩ (c_MaskEdges_onGrid l X v1 v2 e2) ⟨va_cnB 2 ht (xgC xw_225) rfl rfl rfl (hKK.2 _ xn_5) (ht _ xw_37) (by decide +kernel) ⟨Nat.le_of_ble_eq_true rfl, Nat.le_of_ble_eq_true rfl⟩, ht _ xw_224, trivial⟩ (xPS hKK) rfl rfl hl.1 rfl (lv_room (Nat.le_of_ble_eq_true rfl)) d_CellSet_has_2 ⟨Nat.zero_le _, Nat.zero_le _⟩) ?_
  refine W.eq (g2 := F0 m 5 ls [.int c2]) rfl ?_
  refine lv_if_eq (tgt := 27) hx hb d_CellSet_has_5 (by decide) (fun hc => ?_) (fun hc => ?_)
  · replace hf := x_t hc hf
    refine lv_iconst (v := (0 : Int32)) hx hb d_CellSet_has_27 (by decide) ?_
    replace hf := x_s hf
    subst hf
    subst hQ
    exact W.zret (v := (0 : Int32)) hx hb hr (xz_n (by decide)) (fun t ht hW => ⟨⟨rfl, ht⟩, x_F0 ht⟩) x_l0 d_CellSet_has_28
  · replace hf := x_f hc hf
    refine lv_aload_n hx hb d_CellSet_has_8 rfl (lv_at hl 0 rfl) ?_
    refine va_get (D := X.1) (ci := 1) (v := .ref a0_0) (C := "MaskEdges$CellSet") (T := F_CellSet) (N := 1) hx hb ht in_CellSet hown hK hP0 0 rfl rfl 0 (by decide) (ht _ xw_62) (fun _ h9 => h9) rfl d_CellSet_has_9 ?_
    refine lv_iload_n hx hb d_CellSet_has_12 rfl (lv_at hl 2 rfl) ?_
    obtain ⟨g13, hf⟩ := x_g hf
    refine va_lald hx hb hK hP0 1 1 rfl rfl (xin_in g13) d_CellSet_has_13 ?_
    refine lv_lconst (v := (1 : Int64)) hx hb d_CellSet_has_14 (by decide) ?_
    refine lv_iload_n hx hb d_CellSet_has_15 rfl (lv_at hl 1 rfl) ?_
    refine lv_lshl hx hb d_CellSet_has_16 rfl ?_
    refine lv_land hx hb d_CellSet_has_17 ?_
    refine lv_lconst (v := (0 : Int64)) hx hb d_CellSet_has_18 (by decide) ?_
    refine W.lcmp hx hb d_CellSet_has_19 ?_
    refine lv_if_eq (tgt := 27) hx hb d_CellSet_has_20 (by decide) (fun hc => ?_) (fun hc => ?_)
    · replace hf := x_t hc hf
      refine lv_iconst (v := (0 : Int32)) hx hb d_CellSet_has_27 (by decide) ?_
      replace hf := x_s hf
      subst hf
      subst hQ
      exact W.zret (v := (0 : Int32)) hx hb hr (xz_n (by decide)) (fun t ht hW => ⟨⟨rfl, ht⟩, x_F0 ht⟩) x_l0 d_CellSet_has_28
    · replace hf := x_f hc hf
      refine lv_iconst (v := (1 : Int32)) hx hb d_CellSet_has_23 (by decide) ?_
      refine lv_goto (tgt := 28) hx hb d_CellSet_has_24 (by decide) ?_
      replace hf := x_s hf
      subst hf
      subst hQ
      exact W.zret (v := (1 : Int32)) hx hb hr (xz_n (by decide)) (fun t ht hW => ⟨⟨rfl, ht⟩, x_F0 ht⟩) x_l0 d_CellSet_has_28
def f_CellSet_add (v1 : Int32) (v2 : Int32) (o0 : t_CellSet) : Option (t_CellSet) :=
  (f_MaskEdges_onGrid v1 v2).bind fun c2 =>
  if c2 = 0 then
  some o0
else
  if xin v2 48 = true then
    if xin v2 48 = true then
      some (CellSet_u_rows o0 (vp_updL (CellSet_rows o0) v2.toNatClampNeg ((CellSet_rows o0 v2.toNatClampNeg) ||| ((1 : Int64) <<< (v1.toInt64 &&& 63)))))
    else none
  else none
set_option maxHeartbeats 4000000 in
set_option maxRecDepth 100000 in
theorem c_CellSet_add (l : Launch) (X : xG) {H : Heap} (h0 a0_0 : Nat) (o0 : t_CellSet) (v1 : Int32) (v2 : Int32) {res : t_CellSet} (hP0 : va_P X.1 vwCl (w_CellSet X h0 a0_0 o0) H) (hnd : [h0, a0_0].Nodup) (hf : f_CellSet_add v1 v2 o0 = some res) : xM l y_CellSet_add (Cond.code y_CellSet_add prog_3_method_3_code 3 none :: xT) ({ frames := 1, cells := 0, slots := 0, locals := 21 } : Room) (xK X) [.ref h0, .int v1, .int v2] H (xAl [h0, a0_0]) none (fun H1 => va_P X.1 vwCl (w_CellSet X h0 a0_0 res) H1) := by
  refine Met.ofW (cc := prog_3_method_3_code) (maxL := 3) (ret := none) (by decide) rfl ?_
  intro p e s m args below meth c s₁ B hml hv
  obtain ⟨ha, hH, hKK⟩ := hv
  subst hH
  have hx := B.exec
  have hb := B.bytes
  have hr := B.returns
  have ht : ∀ w ∈ xT, w.before args s = true := fun w h => atoms_spec (ws := (Cond.code y_CellSet_add prog_3_method_3_code 3 none :: xT)) B.pre w (List.mem_cons_of_mem _ h)
  have hown : s.vm.findClass "MaskEdges$CellSet" = some m.cls := findClass_of_methodNamed B.named
  have hlocks := B.notSynchronized
  have hK := hKK.1
  rw [show entryFrame m args 3 = entryFrame m ([.ref h0, .int v1, .int v2] : List Value).toArray 3 from by rw [ha]]
  clear ha
  have hP := hP0
  have hD : va_D (xAl [h0, a0_0]) (w_CellSet X h0 a0_0 o0) := xDl rfl hnd
  have hS : va_S (xAl [h0, a0_0]) s.heap s.heap [] := va_S.rf
  have hl := lv_entry ([.ref h0, .int v1, .int v2]) (n := 3) (Nat.le_of_ble_eq_true rfl)
  rw [lg_entry_eq]
  generalize (lg_sl ([.ref h0, .int v1, .int v2]) ++ List.replicate (3 - (lg_sl ([.ref h0, .int v1, .int v2])).length) Slot.unset).toArray = ls at hl ⊢
  replace hl : lv_has ls 3 [(0, .ref h0), (1, .int v1), (2, .int v2)] := hl
  refine x_Q (fun Q hQ => ?_)
  unfold f_CellSet_add at hf
  refine lv_iload_n hx hb d_CellSet_add_0 rfl (lv_at hl 1 rfl) ?_
  refine lv_iload_n hx hb d_CellSet_add_1 rfl (lv_at hl 2 rfl) ?_
  obtain ⟨c2, e2, hf⟩ := x_b hf
  refine xcR (va_runSN (As := [.int v1, .int v2]) (rest := []) ⟨hx, hb, hml, hown, ht⟩ (c_MaskEdges_onGrid l X v1 v2 e2) ⟨va_cnB 2 ht (xgC xw_225) rfl rfl rfl (hKK.2 _ xn_5) (ht _ xw_37) (by decide +kernel) ⟨Nat.le_of_ble_eq_true rfl, Nat.le_of_ble_eq_true rfl⟩, ht _ xw_224, trivial⟩ (xPS hKK) rfl rfl hl.1 rfl (lv_room (Nat.le_of_ble_eq_true rfl)) d_CellSet_add_2 ⟨Nat.zero_le _, Nat.zero_le _⟩) ?_
  refine W.eq (g2 := F0 m 5 ls [.int c2]) rfl ?_
  refine lv_if_eq (tgt := 20) hx hb d_CellSet_add_5 (by decide) (fun hc => ?_) (fun hc => ?_)
  · replace hf := x_t hc hf
    replace hf := x_s hf
    subst hf
    subst hQ
    exact W.vret hx hb hr (fun t ht hW => ⟨⟨rfl, by rw [ht]; exact hP⟩, hS.F ht⟩) hS.2.2 d_CellSet_add_20
  · replace hf := x_f hc hf
    refine lv_aload_n hx hb d_CellSet_add_8 rfl (lv_at hl 0 rfl) ?_
    refine va_get (D := X.1) (ci := 1) (v := .ref a0_0) (C := "MaskEdges$CellSet") (T := F_CellSet) (N := 1) hx hb ht in_CellSet hown hK hP 0 rfl rfl 0 (by decide) (ht _ xw_62) (fun _ h9 => h9) rfl d_CellSet_add_9 ?_
    refine lv_iload_n hx hb d_CellSet_add_12 rfl (lv_at hl 2 rfl) ?_
    refine lv_dup2_11 hx hb d_CellSet_add_13 rfl rfl ?_
    obtain ⟨g14, hf⟩ := x_g hf
    refine va_lald hx hb hK hP 1 1 rfl rfl (xin_in g14) d_CellSet_add_14 ?_
    refine lv_lconst (v := (1 : Int64)) hx hb d_CellSet_add_15 (by decide) ?_
    refine lv_iload_n hx hb d_CellSet_add_16 rfl (lv_at hl 1 rfl) ?_
    refine lv_lshl hx hb d_CellSet_add_17 rfl ?_
    refine lv_lor hx hb d_CellSet_add_18 ?_
    obtain ⟨g19, hf⟩ := x_g hf
    refine va_last hx hb hK hP hD hS 1 1 rfl rfl (xin_in g19) d_CellSet_add_19 (fun H locs hP hD hS => ?_)
    replace hP : va_P X.1 vwCl (w_CellSet X h0 a0_0 (CellSet_u_rows o0 (vp_updL (CellSet_rows o0) v2.toNatClampNeg ((CellSet_rows o0 v2.toNatClampNeg) ||| ((1 : Int64) <<< (v1.toInt64 &&& 63)))))) H := hP
    replace hD : va_D _ (w_CellSet X h0 a0_0 (CellSet_u_rows o0 (vp_updL (CellSet_rows o0) v2.toNatClampNeg ((CellSet_rows o0 v2.toNatClampNeg) ||| ((1 : Int64) <<< (v1.toInt64 &&& 63)))))) := hD
    replace hf := x_s hf
    subst hf
    subst hQ
    exact W.vret hx hb hr (fun t ht hW => ⟨⟨rfl, by rw [ht]; exact hP⟩, hS.F ht⟩) hS.2.2 d_CellSet_add_20
def f_CellSet_copyFrom_2 (o1 : t_CellSet) (r2 : Int32 → t_CellSet → Option (t_CellSet)) (v2 : Int32) (o0 : t_CellSet) : Option (t_CellSet) :=
  if (48 : Int32) ≤ v2 then
  some o0
else
  if xin v2 48 = true then
    if xin v2 48 = true then
      r2 (v2 + (1 : Int32)) (CellSet_u_rows o0 (vp_updL (CellSet_rows o0) v2.toNatClampNeg (CellSet_rows o1 v2.toNatClampNeg)))
    else none
  else none
def f_CellSet_copyFrom (o1 : t_CellSet) (o0 : t_CellSet) : Option (t_CellSet) :=
  (xloop (fun r => f_CellSet_copyFrom_2 o1 r) (fun _ _ => none) 100000) (0 : Int32) o0
set_option maxHeartbeats 4000000 in
set_option maxRecDepth 100000 in
theorem c_CellSet_copyFrom (l : Launch) (X : xG) {H : Heap} (h0 a0_0 : Nat) (o0 : t_CellSet) (h1 a1_0 : Nat) (o1 : t_CellSet) {res : t_CellSet} (hP0 : va_P X.1 vwCl (w_CellSet X h0 a0_0 o0) H) (hP1 : va_P X.1 vwCl (w_CellSet X h1 a1_0 o1) H) (hnd : [h0, a0_0].Nodup) (hno1 : ∀ q ∈ [h1, a1_0], ¬ xAl [h0, a0_0] q) (hf : f_CellSet_copyFrom o1 o0 = some res) : xM l y_CellSet_copyFrom (Cond.code y_CellSet_copyFrom prog_3_method_4_code 3 none :: xT) ({ frames := 0, cells := 0, slots := 0, locals := 0 } : Room) (xK X) [.ref h0, .ref h1] H (xAl [h0, a0_0]) none (fun H1 => va_P X.1 vwCl (w_CellSet X h0 a0_0 res) H1) := by
  refine Met.ofW (cc := prog_3_method_4_code) (maxL := 3) (ret := none) (by decide) rfl ?_
  intro p e s m args below meth c s₁ B hml hv
  obtain ⟨ha, hH, hKK⟩ := hv
  subst hH
  have hx := B.exec
  have hb := B.bytes
  have hr := B.returns
  have ht : ∀ w ∈ xT, w.before args s = true := fun w h => atoms_spec (ws := (Cond.code y_CellSet_copyFrom prog_3_method_4_code 3 none :: xT)) B.pre w (List.mem_cons_of_mem _ h)
  have hown : s.vm.findClass "MaskEdges$CellSet" = some m.cls := findClass_of_methodNamed B.named
  have hlocks := B.notSynchronized
  have hK := hKK.1
  rw [show entryFrame m args 3 = entryFrame m ([.ref h0, .ref h1] : List Value).toArray 3 from by rw [ha]]
  clear ha
  have hP := hP0
  have hD : va_D (xAl [h0, a0_0]) (w_CellSet X h0 a0_0 o0) := xDl rfl hnd
  have hS : va_S (xAl [h0, a0_0]) s.heap s.heap [] := va_S.rf
  have hl := lv_entry ([.ref h0, .ref h1]) (n := 3) (Nat.le_of_ble_eq_true rfl)
  rw [lg_entry_eq]
  generalize (lg_sl ([.ref h0, .ref h1]) ++ List.replicate (3 - (lg_sl ([.ref h0, .ref h1])).length) Slot.unset).toArray = ls at hl ⊢
  replace hl : lv_has ls 3 [(0, .ref h0), (1, .ref h1)] := hl
  refine x_Q (fun Q hQ => ?_)
  have hL2 : ∀ (n : Nat), ∀ (v2 : Int32) (o0 : t_CellSet), ∀ (H : Heap) (locs : List Loc), va_P X.1 vwCl (w_CellSet X h0 a0_0 o0) H → va_S (xAl [h0, a0_0]) s.heap H locs → ∀ (ls : Array Slot), lv_has ls 3 [(0, .ref h0), (1, .ref h1), (2, .int v2)] → (xloop (fun r => f_CellSet_copyFrom_2 o1 r) (fun _ _ => none) n) v2 o0 = some res → W p l e (headSpec (Cond.code y_CellSet_copyFrom prog_3_method_4_code 3 none :: xT) ({ frames := 0, cells := 0, slots := 0, locals := 0 } : Room)).room s m args below meth c H locs 0 0 Q (F0 m 2 ls []) := by
    intro n
    induction n with
    | zero => intro v2 o0 H locs hP hS ls hl hf; cases hf
    | succ n ih =>
      intro v2 o0 H locs hP hS ls hl hf
      replace hf : f_CellSet_copyFrom_2 o1 (xloop (fun r => f_CellSet_copyFrom_2 o1 r) (fun _ _ => none) n) v2 o0 = some res := hf
      have hr2 := ih
      clear ih
      unfold f_CellSet_copyFrom_2 at hf
      have hD : va_D (xAl [h0, a0_0]) (w_CellSet X h0 a0_0 o0) := xDl rfl hnd
      refine lv_iload_n hx hb d_CellSet_copyFrom_2 rfl (lv_at hl 2 rfl) ?_
      refine lv_bipush (v := (48 : Int32)) hx hb d_CellSet_copyFrom_3 (by decide) ?_
      refine lv_icmp_ge (tgt := 26) hx hb d_CellSet_copyFrom_5 (by decide) (fun hc => ?_) (fun hc => ?_)
      · replace hf := x_t hc hf
        replace hf := x_s hf
        subst hf
        subst hQ
        exact W.vret hx hb hr (fun t ht hW => ⟨⟨rfl, by rw [ht]; exact hP⟩, hS.F ht⟩) hS.2.2 d_CellSet_copyFrom_26
      · replace hf := x_f hc hf
        refine lv_aload_n hx hb d_CellSet_copyFrom_8 rfl (lv_at hl 0 rfl) ?_
        refine va_get (D := X.1) (ci := 1) (v := .ref a0_0) (C := "MaskEdges$CellSet") (T := F_CellSet) (N := 1) hx hb ht in_CellSet hown hK hP 0 rfl rfl 0 (by decide) (ht _ xw_62) (fun _ h9 => h9) rfl d_CellSet_copyFrom_9 ?_
        refine lv_iload_n hx hb d_CellSet_copyFrom_12 rfl (lv_at hl 2 rfl) ?_
        refine lv_aload_n hx hb d_CellSet_copyFrom_13 rfl (lv_at hl 1 rfl) ?_
        refine va_get (D := X.1) (ci := 1) (v := .ref a1_0) (C := "MaskEdges$CellSet") (T := F_CellSet) (N := 1) hx hb ht in_CellSet hown hK (xkept hP1 hno1 hS) 0 rfl rfl 0 (by decide) (ht _ xw_62) (fun _ h9 => h9) rfl d_CellSet_copyFrom_14 ?_
        refine lv_iload_n hx hb d_CellSet_copyFrom_17 rfl (lv_at hl 2 rfl) ?_
        obtain ⟨g18, hf⟩ := x_g hf
        refine va_lald hx hb hK (xkept hP1 hno1 hS) 1 1 rfl rfl (xin_in g18) d_CellSet_copyFrom_18 ?_
        obtain ⟨g19, hf⟩ := x_g hf
        refine va_last hx hb hK hP hD hS 1 1 rfl rfl (xin_in g19) d_CellSet_copyFrom_19 (fun H locs hP hD hS => ?_)
        replace hP : va_P X.1 vwCl (w_CellSet X h0 a0_0 (CellSet_u_rows o0 (vp_updL (CellSet_rows o0) v2.toNatClampNeg (CellSet_rows o1 v2.toNatClampNeg)))) H := hP
        replace hD : va_D _ (w_CellSet X h0 a0_0 (CellSet_u_rows o0 (vp_updL (CellSet_rows o0) v2.toNatClampNeg (CellSet_rows o1 v2.toNatClampNeg)))) := hD
        refine lv_iinc (v := (v2 + (1 : Int32))) (lv' := [(2, .int (v2 + (1 : Int32))), (0, .ref h0), (1, .ref h1)]) hx hb d_CellSet_copyFrom_20 hl (k := 2) rfl rfl (by decide) rfl (fun ls hl => ?_)
        refine lv_goto (tgt := 2) hx hb d_CellSet_copyFrom_23 (by decide) ?_
        exact hr2 (v2 + (1 : Int32)) (CellSet_u_rows o0 (vp_updL (CellSet_rows o0) v2.toNatClampNeg (CellSet_rows o1 v2.toNatClampNeg))) _ _ hP hS ls (lv_sub hl [1, 2, 0] rfl) hf
  unfold f_CellSet_copyFrom at hf
  refine lv_iconst (v := (0 : Int32)) hx hb d_CellSet_copyFrom_0 (by decide) ?_
  refine lv_istore_n (lv' := [(2, .int (0 : Int32)), (0, .ref h0), (1, .ref h1)]) hx hb d_CellSet_copyFrom_1 rfl hl (by decide) rfl (fun ls hl => ?_)
  exact (hL2 100000) (0 : Int32) o0 _ _ hP hS ls (lv_sub hl [1, 2, 0] rfl) hf
def f_CellSet_addAll_2 (o1 : t_CellSet) (r2 : Int32 → t_CellSet → Option (t_CellSet)) (v2 : Int32) (o0 : t_CellSet) : Option (t_CellSet) :=
  if (48 : Int32) ≤ v2 then
  some o0
else
  if xin v2 48 = true then
    if xin v2 48 = true then
      if xin v2 48 = true then
        r2 (v2 + (1 : Int32)) (CellSet_u_rows o0 (vp_updL (CellSet_rows o0) v2.toNatClampNeg ((CellSet_rows o0 v2.toNatClampNeg) ||| (CellSet_rows o1 v2.toNatClampNeg))))
      else none
    else none
  else none
def f_CellSet_addAll (o1 : t_CellSet) (o0 : t_CellSet) : Option (t_CellSet) :=
  (xloop (fun r => f_CellSet_addAll_2 o1 r) (fun _ _ => none) 100000) (0 : Int32) o0
set_option maxHeartbeats 4000000 in
set_option maxRecDepth 100000 in
theorem c_CellSet_addAll (l : Launch) (X : xG) {H : Heap} (h0 a0_0 : Nat) (o0 : t_CellSet) (h1 a1_0 : Nat) (o1 : t_CellSet) {res : t_CellSet} (hP0 : va_P X.1 vwCl (w_CellSet X h0 a0_0 o0) H) (hP1 : va_P X.1 vwCl (w_CellSet X h1 a1_0 o1) H) (hnd : [h0, a0_0].Nodup) (hno1 : ∀ q ∈ [h1, a1_0], ¬ xAl [h0, a0_0] q) (hf : f_CellSet_addAll o1 o0 = some res) : xM l y_CellSet_addAll (Cond.code y_CellSet_addAll prog_3_method_5_code 3 none :: xT) ({ frames := 0, cells := 0, slots := 0, locals := 0 } : Room) (xK X) [.ref h0, .ref h1] H (xAl [h0, a0_0]) none (fun H1 => va_P X.1 vwCl (w_CellSet X h0 a0_0 res) H1) := by
  refine Met.ofW (cc := prog_3_method_5_code) (maxL := 3) (ret := none) (by decide) rfl ?_
  intro p e s m args below meth c s₁ B hml hv
  obtain ⟨ha, hH, hKK⟩ := hv
  subst hH
  have hx := B.exec
  have hb := B.bytes
  have hr := B.returns
  have ht : ∀ w ∈ xT, w.before args s = true := fun w h => atoms_spec (ws := (Cond.code y_CellSet_addAll prog_3_method_5_code 3 none :: xT)) B.pre w (List.mem_cons_of_mem _ h)
  have hown : s.vm.findClass "MaskEdges$CellSet" = some m.cls := findClass_of_methodNamed B.named
  have hlocks := B.notSynchronized
  have hK := hKK.1
  rw [show entryFrame m args 3 = entryFrame m ([.ref h0, .ref h1] : List Value).toArray 3 from by rw [ha]]
  clear ha
  have hP := hP0
  have hD : va_D (xAl [h0, a0_0]) (w_CellSet X h0 a0_0 o0) := xDl rfl hnd
  have hS : va_S (xAl [h0, a0_0]) s.heap s.heap [] := va_S.rf
  have hl := lv_entry ([.ref h0, .ref h1]) (n := 3) (Nat.le_of_ble_eq_true rfl)
  rw [lg_entry_eq]
  generalize (lg_sl ([.ref h0, .ref h1]) ++ List.replicate (3 - (lg_sl ([.ref h0, .ref h1])).length) Slot.unset).toArray = ls at hl ⊢
  replace hl : lv_has ls 3 [(0, .ref h0), (1, .ref h1)] := hl
  refine x_Q (fun Q hQ => ?_)
  have hL2 : ∀ (n : Nat), ∀ (v2 : Int32) (o0 : t_CellSet), ∀ (H : Heap) (locs : List Loc), va_P X.1 vwCl (w_CellSet X h0 a0_0 o0) H → va_S (xAl [h0, a0_0]) s.heap H locs → ∀ (ls : Array Slot), lv_has ls 3 [(0, .ref h0), (1, .ref h1), (2, .int v2)] → (xloop (fun r => f_CellSet_addAll_2 o1 r) (fun _ _ => none) n) v2 o0 = some res → W p l e (headSpec (Cond.code y_CellSet_addAll prog_3_method_5_code 3 none :: xT) ({ frames := 0, cells := 0, slots := 0, locals := 0 } : Room)).room s m args below meth c H locs 0 0 Q (F0 m 2 ls []) := by
    intro n
    induction n with
    | zero => intro v2 o0 H locs hP hS ls hl hf; cases hf
    | succ n ih =>
      intro v2 o0 H locs hP hS ls hl hf
      replace hf : f_CellSet_addAll_2 o1 (xloop (fun r => f_CellSet_addAll_2 o1 r) (fun _ _ => none) n) v2 o0 = some res := hf
      have hr2 := ih
      clear ih
      unfold f_CellSet_addAll_2 at hf
      have hD : va_D (xAl [h0, a0_0]) (w_CellSet X h0 a0_0 o0) := xDl rfl hnd
      refine lv_iload_n hx hb d_CellSet_addAll_2 rfl (lv_at hl 2 rfl) ?_
      refine lv_bipush (v := (48 : Int32)) hx hb d_CellSet_addAll_3 (by decide) ?_
      refine lv_icmp_ge (tgt := 29) hx hb d_CellSet_addAll_5 (by decide) (fun hc => ?_) (fun hc => ?_)
      · replace hf := x_t hc hf
        replace hf := x_s hf
        subst hf
        subst hQ
        exact W.vret hx hb hr (fun t ht hW => ⟨⟨rfl, by rw [ht]; exact hP⟩, hS.F ht⟩) hS.2.2 d_CellSet_addAll_29
      · replace hf := x_f hc hf
        refine lv_aload_n hx hb d_CellSet_addAll_8 rfl (lv_at hl 0 rfl) ?_
        refine va_get (D := X.1) (ci := 1) (v := .ref a0_0) (C := "MaskEdges$CellSet") (T := F_CellSet) (N := 1) hx hb ht in_CellSet hown hK hP 0 rfl rfl 0 (by decide) (ht _ xw_62) (fun _ h9 => h9) rfl d_CellSet_addAll_9 ?_
        refine lv_iload_n hx hb d_CellSet_addAll_12 rfl (lv_at hl 2 rfl) ?_
        refine lv_dup2_11 hx hb d_CellSet_addAll_13 rfl rfl ?_
        obtain ⟨g14, hf⟩ := x_g hf
        refine va_lald hx hb hK hP 1 1 rfl rfl (xin_in g14) d_CellSet_addAll_14 ?_
        refine lv_aload_n hx hb d_CellSet_addAll_15 rfl (lv_at hl 1 rfl) ?_
        refine va_get (D := X.1) (ci := 1) (v := .ref a1_0) (C := "MaskEdges$CellSet") (T := F_CellSet) (N := 1) hx hb ht in_CellSet hown hK (xkept hP1 hno1 hS) 0 rfl rfl 0 (by decide) (ht _ xw_62) (fun _ h9 => h9) rfl d_CellSet_addAll_16 ?_
        refine lv_iload_n hx hb d_CellSet_addAll_19 rfl (lv_at hl 2 rfl) ?_
        obtain ⟨g20, hf⟩ := x_g hf
        refine va_lald hx hb hK (xkept hP1 hno1 hS) 1 1 rfl rfl (xin_in g20) d_CellSet_addAll_20 ?_
        refine lv_lor hx hb d_CellSet_addAll_21 ?_
        obtain ⟨g22, hf⟩ := x_g hf
        refine va_last hx hb hK hP hD hS 1 1 rfl rfl (xin_in g22) d_CellSet_addAll_22 (fun H locs hP hD hS => ?_)
        replace hP : va_P X.1 vwCl (w_CellSet X h0 a0_0 (CellSet_u_rows o0 (vp_updL (CellSet_rows o0) v2.toNatClampNeg ((CellSet_rows o0 v2.toNatClampNeg) ||| (CellSet_rows o1 v2.toNatClampNeg))))) H := hP
        replace hD : va_D _ (w_CellSet X h0 a0_0 (CellSet_u_rows o0 (vp_updL (CellSet_rows o0) v2.toNatClampNeg ((CellSet_rows o0 v2.toNatClampNeg) ||| (CellSet_rows o1 v2.toNatClampNeg))))) := hD
        refine lv_iinc (v := (v2 + (1 : Int32))) (lv' := [(2, .int (v2 + (1 : Int32))), (0, .ref h0), (1, .ref h1)]) hx hb d_CellSet_addAll_23 hl (k := 2) rfl rfl (by decide) rfl (fun ls hl => ?_)
        refine lv_goto (tgt := 2) hx hb d_CellSet_addAll_26 (by decide) ?_
        exact hr2 (v2 + (1 : Int32)) (CellSet_u_rows o0 (vp_updL (CellSet_rows o0) v2.toNatClampNeg ((CellSet_rows o0 v2.toNatClampNeg) ||| (CellSet_rows o1 v2.toNatClampNeg)))) _ _ hP hS ls (lv_sub hl [1, 2, 0] rfl) hf
  unfold f_CellSet_addAll at hf
  refine lv_iconst (v := (0 : Int32)) hx hb d_CellSet_addAll_0 (by decide) ?_
  refine lv_istore_n (lv' := [(2, .int (0 : Int32)), (0, .ref h0), (1, .ref h1)]) hx hb d_CellSet_addAll_1 rfl hl (by decide) rfl (fun ls hl => ?_)
  exact (hL2 100000) (0 : Int32) o0 _ _ hP hS ls (lv_sub hl [1, 2, 0] rfl) hf
def f_CellSet_addBox_33 (o1 : t_Box) (r33 : Int64 → Int32 → Int32 → t_CellSet → Option (t_CellSet)) (v2 : Int64) (v4 : Int32) (v5 : Int32) (o0 : t_CellSet) : Option (t_CellSet) :=
  if v4 ≤ v5 then
  some o0
else
  if xin v5 48 = true then
    if xin v5 48 = true then
      r33 v2 v4 (v5 + (1 : Int32)) (CellSet_u_rows o0 (vp_updL (CellSet_rows o0) v5.toNatClampNeg ((CellSet_rows o0 v5.toNatClampNeg) ||| v2)))
    else none
  else none
def f_CellSet_addBox (o1 : t_Box) (o0 : t_CellSet) : Option (t_CellSet) :=
  (f_MaskEdges_columnBits (Box_left o1) (Box_right o1)).bind fun c8 =>
  (xloop (fun r => f_CellSet_addBox_33 o1 r) (fun _ _ _ _ => none) 100000) c8 (if (48 : Int32) < (Box_bottom o1) then (48 : Int32) else (Box_bottom o1)) (if (Box_top o1) < (0 : Int32) then (0 : Int32) else (Box_top o1)) o0
set_option maxHeartbeats 4000000 in
set_option maxRecDepth 100000 in
theorem c_CellSet_addBox (l : Launch) (X : xG) {H : Heap} (h0 a0_0 : Nat) (o0 : t_CellSet) (h1 : Nat) (o1 : t_Box) {res : t_CellSet} (hP0 : va_P X.1 vwCl (w_CellSet X h0 a0_0 o0) H) (hP1 : va_P X.1 vwCl (w_Box X h1 o1) H) (hnd : [h0, a0_0].Nodup) (hno1 : ∀ q ∈ [h1], ¬ xAl [h0, a0_0] q) (hf : f_CellSet_addBox o1 o0 = some res) : xM l y_CellSet_addBox (Cond.code y_CellSet_addBox prog_3_method_6_code 6 none :: xT) ({ frames := 1, cells := 0, slots := 0, locals := 23 } : Room) (xK X) [.ref h0, .ref h1] H (xAl [h0, a0_0]) none (fun H1 => va_P X.1 vwCl (w_CellSet X h0 a0_0 res) H1) := by
  refine Met.ofW (cc := prog_3_method_6_code) (maxL := 6) (ret := none) (by decide) rfl ?_
  intro p e s m args below meth c s₁ B hml hv
  obtain ⟨ha, hH, hKK⟩ := hv
  subst hH
  have hx := B.exec
  have hb := B.bytes
  have hr := B.returns
  have ht : ∀ w ∈ xT, w.before args s = true := fun w h => atoms_spec (ws := (Cond.code y_CellSet_addBox prog_3_method_6_code 6 none :: xT)) B.pre w (List.mem_cons_of_mem _ h)
  have hown : s.vm.findClass "MaskEdges$CellSet" = some m.cls := findClass_of_methodNamed B.named
  have hlocks := B.notSynchronized
  have hK := hKK.1
  rw [show entryFrame m args 6 = entryFrame m ([.ref h0, .ref h1] : List Value).toArray 6 from by rw [ha]]
  clear ha
  have hP := hP0
  have hD : va_D (xAl [h0, a0_0]) (w_CellSet X h0 a0_0 o0) := xDl rfl hnd
  have hS : va_S (xAl [h0, a0_0]) s.heap s.heap [] := va_S.rf
  have hl := lv_entry ([.ref h0, .ref h1]) (n := 6) (Nat.le_of_ble_eq_true rfl)
  rw [lg_entry_eq]
  generalize (lg_sl ([.ref h0, .ref h1]) ++ List.replicate (6 - (lg_sl ([.ref h0, .ref h1])).length) Slot.unset).toArray = ls at hl ⊢
  replace hl : lv_has ls 6 [(0, .ref h0), (1, .ref h1)] := hl
  refine x_Q (fun Q hQ => ?_)
  have hL33 : ∀ (n : Nat), ∀ (v2 : Int64) (v4 : Int32) (v5 : Int32) (o0 : t_CellSet), ∀ (H : Heap) (locs : List Loc), va_P X.1 vwCl (w_CellSet X h0 a0_0 o0) H → va_S (xAl [h0, a0_0]) s.heap H locs → ∀ (ls : Array Slot), lv_has ls 6 [(0, .ref h0), (2, .long v2), (4, .int v4), (5, .int v5)] → (xloop (fun r => f_CellSet_addBox_33 o1 r) (fun _ _ _ _ => none) n) v2 v4 v5 o0 = some res → W p l e (headSpec (Cond.code y_CellSet_addBox prog_3_method_6_code 6 none :: xT) ({ frames := 1, cells := 0, slots := 0, locals := 23 } : Room)).room s m args below meth c H locs 0 0 Q (F0 m 33 ls []) := by
    intro n
    induction n with
    | zero => intro v2 v4 v5 o0 H locs hP hS ls hl hf; cases hf
    | succ n ih =>
      intro v2 v4 v5 o0 H locs hP hS ls hl hf
      replace hf : f_CellSet_addBox_33 o1 (xloop (fun r => f_CellSet_addBox_33 o1 r) (fun _ _ _ _ => none) n) v2 v4 v5 o0 = some res := hf
      have hr33 := ih
      clear ih
      unfold f_CellSet_addBox_33 at hf
      have hD : va_D (xAl [h0, a0_0]) (w_CellSet X h0 a0_0 o0) := xDl rfl hnd
      refine lv_iload hx hb d_CellSet_addBox_33 (lv_at hl 3 rfl) ?_
      refine lv_iload hx hb d_CellSet_addBox_35 (lv_at hl 2 rfl) ?_
      refine lv_icmp_ge (tgt := 57) hx hb d_CellSet_addBox_37 (by decide) (fun hc => ?_) (fun hc => ?_)
      · replace hf := x_t hc hf
        replace hf := x_s hf
        subst hf
        subst hQ
        exact W.vret hx hb hr (fun t ht hW => ⟨⟨rfl, by rw [ht]; exact hP⟩, hS.F ht⟩) hS.2.2 d_CellSet_addBox_57
      · replace hf := x_f hc hf
        refine lv_aload_n hx hb d_CellSet_addBox_40 rfl (lv_at hl 0 rfl) ?_
        refine va_get (D := X.1) (ci := 1) (v := .ref a0_0) (C := "MaskEdges$CellSet") (T := F_CellSet) (N := 1) hx hb ht in_CellSet hown hK hP 0 rfl rfl 0 (by decide) (ht _ xw_62) (fun _ h9 => h9) rfl d_CellSet_addBox_41 ?_
        refine lv_iload hx hb d_CellSet_addBox_44 (lv_at hl 3 rfl) ?_
        refine lv_dup2_11 hx hb d_CellSet_addBox_46 rfl rfl ?_
        obtain ⟨g47, hf⟩ := x_g hf
        refine va_lald hx hb hK hP 1 1 rfl rfl (xin_in g47) d_CellSet_addBox_47 ?_
        refine lv_lload_n hx hb d_CellSet_addBox_48 rfl (lv_at hl 1 rfl) ?_
        refine lv_lor hx hb d_CellSet_addBox_49 ?_
        obtain ⟨g50, hf⟩ := x_g hf
        refine va_last hx hb hK hP hD hS 1 1 rfl rfl (xin_in g50) d_CellSet_addBox_50 (fun H locs hP hD hS => ?_)
        replace hP : va_P X.1 vwCl (w_CellSet X h0 a0_0 (CellSet_u_rows o0 (vp_updL (CellSet_rows o0) v5.toNatClampNeg ((CellSet_rows o0 v5.toNatClampNeg) ||| v2)))) H := hP
        replace hD : va_D _ (w_CellSet X h0 a0_0 (CellSet_u_rows o0 (vp_updL (CellSet_rows o0) v5.toNatClampNeg ((CellSet_rows o0 v5.toNatClampNeg) ||| v2)))) := hD
        refine lv_iinc (v := (v5 + (1 : Int32))) (lv' := [(5, .int (v5 + (1 : Int32))), (0, .ref h0), (2, .long v2), (4, .int v4)]) hx hb d_CellSet_addBox_51 hl (k := 3) rfl rfl (by decide) rfl (fun ls hl => ?_)
        refine lv_goto (tgt := 33) hx hb d_CellSet_addBox_54 (by decide) ?_
        exact hr33 v2 v4 (v5 + (1 : Int32)) (CellSet_u_rows o0 (vp_updL (CellSet_rows o0) v5.toNatClampNeg ((CellSet_rows o0 v5.toNatClampNeg) ||| v2))) _ _ hP hS ls (lv_sub hl [1, 2, 3, 0] rfl) hf
  unfold f_CellSet_addBox at hf
  refine lv_aload_n hx hb d_CellSet_addBox_0 rfl (lv_at hl 1 rfl) ?_
  refine va_get (D := X.1) (ci := 0) (v := .int (Box_left o1)) (C := "MaskEdges$Box") (T := F_Box) (N := 4) hx hb ht in_Box hown hK (xkept hP1 hno1 hS) 0 rfl rfl 0 (by decide) (ht _ xw_85) (fun _ h9 => h9) rfl d_CellSet_addBox_1 ?_
  refine lv_aload_n hx hb d_CellSet_addBox_4 rfl (lv_at hl 1 rfl) ?_
  refine va_get (D := X.1) (ci := 0) (v := .int (Box_right o1)) (C := "MaskEdges$Box") (T := F_Box) (N := 4) hx hb ht in_Box hown hK (xkept hP1 hno1 hS) 0 rfl rfl 2 (by decide) (ht _ xw_91) (fun _ h9 => h9) rfl d_CellSet_addBox_5 ?_
  obtain ⟨c8, e8, hf⟩ := x_b hf
  refine xcR (va_runSN (As := [.int (Box_left o1), .int (Box_right o1)]) (rest := []) ⟨hx, hb, hml, hown, ht⟩ (c_MaskEdges_columnBits l X (Box_left o1) (Box_right o1) e8) ⟨va_cnB 2 ht (xgC xw_247) rfl rfl rfl (hKK.2 _ xn_6) (ht _ xw_37) (by decide +kernel) ⟨Nat.le_of_ble_eq_true rfl, Nat.le_of_ble_eq_true rfl⟩, ht _ xw_246, trivial⟩ (xPS hKK) rfl rfl hl.1 rfl (lv_room (Nat.le_of_ble_eq_true rfl)) d_CellSet_addBox_8 ⟨Nat.zero_le _, Nat.zero_le _⟩) ?_
  refine W.eq (g2 := F0 m 11 ls [.long c8]) rfl ?_
  refine lv_lstore_n (lv' := [(2, .long c8), (0, .ref h0), (1, .ref h1)]) hx hb d_CellSet_addBox_11 rfl hl (by decide) rfl (fun ls hl => ?_)
  refine lv_aload_n hx hb d_CellSet_addBox_12 rfl (lv_at hl 2 rfl) ?_
  refine va_get (D := X.1) (ci := 0) (v := .int (Box_bottom o1)) (C := "MaskEdges$Box") (T := F_Box) (N := 4) hx hb ht in_Box hown hK (xkept hP1 hno1 hS) 0 rfl rfl 3 (by decide) (ht _ xw_94) (fun _ h9 => h9) rfl d_CellSet_addBox_13 ?_
  refine lv_bipush (v := (48 : Int32)) hx hb d_CellSet_addBox_16 (by decide) ?_
  refine va_mmin hx hb (hml.trans hl.1.symm) hown (ht _ xw_248) (ht _ xw_215) (ht _ xw_44) (ht _ xw_math_min) (Nat.le_of_ble_eq_true rfl) (Nat.le_of_ble_eq_true rfl) (Nat.zero_le _) (Nat.zero_le _) d_CellSet_addBox_18 ?_
  refine lv_istore (lv' := [(4, .int (if (48 : Int32) < (Box_bottom o1) then (48 : Int32) else (Box_bottom o1))), (2, .long c8), (0, .ref h0), (1, .ref h1)]) hx hb d_CellSet_addBox_21 hl (by decide) rfl (fun ls hl => ?_)
  refine lv_aload_n hx hb d_CellSet_addBox_23 rfl (lv_at hl 3 rfl) ?_
  refine va_get (D := X.1) (ci := 0) (v := .int (Box_top o1)) (C := "MaskEdges$Box") (T := F_Box) (N := 4) hx hb ht in_Box hown hK (xkept hP1 hno1 hS) 0 rfl rfl 1 (by decide) (ht _ xw_88) (fun _ h9 => h9) rfl d_CellSet_addBox_24 ?_
  refine lv_iconst (v := (0 : Int32)) hx hb d_CellSet_addBox_27 (by decide) ?_
  refine va_mmax hx hb (hml.trans hl.1.symm) hown (ht _ xw_249) (ht _ xw_218) (ht _ xw_44) (ht _ xw_math_max) (Nat.le_of_ble_eq_true rfl) (Nat.le_of_ble_eq_true rfl) (Nat.zero_le _) (Nat.zero_le _) d_CellSet_addBox_28 ?_
  refine lv_istore (lv' := [(5, .int (if (Box_top o1) < (0 : Int32) then (0 : Int32) else (Box_top o1))), (4, .int (if (48 : Int32) < (Box_bottom o1) then (48 : Int32) else (Box_bottom o1))), (2, .long c8), (0, .ref h0), (1, .ref h1)]) hx hb d_CellSet_addBox_31 hl (by decide) rfl (fun ls hl => ?_)
  exact (hL33 100000) c8 (if (48 : Int32) < (Box_bottom o1) then (48 : Int32) else (Box_bottom o1)) (if (Box_top o1) < (0 : Int32) then (0 : Int32) else (Box_top o1)) o0 _ _ hP hS ls (lv_sub hl [3, 2, 1, 0] rfl) hf
def f_CellSet_removeBox_37 (o1 : t_Box) (r37 : Int64 → Int32 → Int32 → t_CellSet → Option (t_CellSet)) (v2 : Int64) (v4 : Int32) (v5 : Int32) (o0 : t_CellSet) : Option (t_CellSet) :=
  if v4 ≤ v5 then
  some o0
else
  if xin v5 48 = true then
    if xin v5 48 = true then
      r37 v2 v4 (v5 + (1 : Int32)) (CellSet_u_rows o0 (vp_updL (CellSet_rows o0) v5.toNatClampNeg ((CellSet_rows o0 v5.toNatClampNeg) &&& v2)))
    else none
  else none
def f_CellSet_removeBox (o1 : t_Box) (o0 : t_CellSet) : Option (t_CellSet) :=
  (f_MaskEdges_columnBits (Box_left o1) (Box_right o1)).bind fun c8 =>
  (xloop (fun r => f_CellSet_removeBox_37 o1 r) (fun _ _ _ _ => none) 100000) (c8 ^^^ (-1 : Int64)) (if (48 : Int32) < (Box_bottom o1) then (48 : Int32) else (Box_bottom o1)) (if (Box_top o1) < (0 : Int32) then (0 : Int32) else (Box_top o1)) o0
set_option maxHeartbeats 4000000 in
set_option maxRecDepth 100000 in
theorem c_CellSet_removeBox (l : Launch) (X : xG) {H : Heap} (h0 a0_0 : Nat) (o0 : t_CellSet) (h1 : Nat) (o1 : t_Box) {res : t_CellSet} (hP0 : va_P X.1 vwCl (w_CellSet X h0 a0_0 o0) H) (hP1 : va_P X.1 vwCl (w_Box X h1 o1) H) (hnd : [h0, a0_0].Nodup) (hno1 : ∀ q ∈ [h1], ¬ xAl [h0, a0_0] q) (hf : f_CellSet_removeBox o1 o0 = some res) : xM l y_CellSet_removeBox (Cond.code y_CellSet_removeBox prog_3_method_7_code 6 none :: xT) ({ frames := 1, cells := 0, slots := 0, locals := 23 } : Room) (xK X) [.ref h0, .ref h1] H (xAl [h0, a0_0]) none (fun H1 => va_P X.1 vwCl (w_CellSet X h0 a0_0 res) H1) := by
  refine Met.ofW (cc := prog_3_method_7_code) (maxL := 6) (ret := none) (by decide) rfl ?_
  intro p e s m args below meth c s₁ B hml hv
  obtain ⟨ha, hH, hKK⟩ := hv
  subst hH
  have hx := B.exec
  have hb := B.bytes
  have hr := B.returns
  have ht : ∀ w ∈ xT, w.before args s = true := fun w h => atoms_spec (ws := (Cond.code y_CellSet_removeBox prog_3_method_7_code 6 none :: xT)) B.pre w (List.mem_cons_of_mem _ h)
  have hown : s.vm.findClass "MaskEdges$CellSet" = some m.cls := findClass_of_methodNamed B.named
  have hlocks := B.notSynchronized
  have hK := hKK.1
  rw [show entryFrame m args 6 = entryFrame m ([.ref h0, .ref h1] : List Value).toArray 6 from by rw [ha]]
  clear ha
  have hP := hP0
  have hD : va_D (xAl [h0, a0_0]) (w_CellSet X h0 a0_0 o0) := xDl rfl hnd
  have hS : va_S (xAl [h0, a0_0]) s.heap s.heap [] := va_S.rf
  have hl := lv_entry ([.ref h0, .ref h1]) (n := 6) (Nat.le_of_ble_eq_true rfl)
  rw [lg_entry_eq]
  generalize (lg_sl ([.ref h0, .ref h1]) ++ List.replicate (6 - (lg_sl ([.ref h0, .ref h1])).length) Slot.unset).toArray = ls at hl ⊢
  replace hl : lv_has ls 6 [(0, .ref h0), (1, .ref h1)] := hl
  refine x_Q (fun Q hQ => ?_)
  have hL37 : ∀ (n : Nat), ∀ (v2 : Int64) (v4 : Int32) (v5 : Int32) (o0 : t_CellSet), ∀ (H : Heap) (locs : List Loc), va_P X.1 vwCl (w_CellSet X h0 a0_0 o0) H → va_S (xAl [h0, a0_0]) s.heap H locs → ∀ (ls : Array Slot), lv_has ls 6 [(0, .ref h0), (2, .long v2), (4, .int v4), (5, .int v5)] → (xloop (fun r => f_CellSet_removeBox_37 o1 r) (fun _ _ _ _ => none) n) v2 v4 v5 o0 = some res → W p l e (headSpec (Cond.code y_CellSet_removeBox prog_3_method_7_code 6 none :: xT) ({ frames := 1, cells := 0, slots := 0, locals := 23 } : Room)).room s m args below meth c H locs 0 0 Q (F0 m 37 ls []) := by
    intro n
    induction n with
    | zero => intro v2 v4 v5 o0 H locs hP hS ls hl hf; cases hf
    | succ n ih =>
      intro v2 v4 v5 o0 H locs hP hS ls hl hf
      replace hf : f_CellSet_removeBox_37 o1 (xloop (fun r => f_CellSet_removeBox_37 o1 r) (fun _ _ _ _ => none) n) v2 v4 v5 o0 = some res := hf
      have hr37 := ih
      clear ih
      unfold f_CellSet_removeBox_37 at hf
      have hD : va_D (xAl [h0, a0_0]) (w_CellSet X h0 a0_0 o0) := xDl rfl hnd
      refine lv_iload hx hb d_CellSet_removeBox_37 (lv_at hl 3 rfl) ?_
      refine lv_iload hx hb d_CellSet_removeBox_39 (lv_at hl 2 rfl) ?_
      refine lv_icmp_ge (tgt := 61) hx hb d_CellSet_removeBox_41 (by decide) (fun hc => ?_) (fun hc => ?_)
      · replace hf := x_t hc hf
        replace hf := x_s hf
        subst hf
        subst hQ
        exact W.vret hx hb hr (fun t ht hW => ⟨⟨rfl, by rw [ht]; exact hP⟩, hS.F ht⟩) hS.2.2 d_CellSet_removeBox_61
      · replace hf := x_f hc hf
        refine lv_aload_n hx hb d_CellSet_removeBox_44 rfl (lv_at hl 0 rfl) ?_
        refine va_get (D := X.1) (ci := 1) (v := .ref a0_0) (C := "MaskEdges$CellSet") (T := F_CellSet) (N := 1) hx hb ht in_CellSet hown hK hP 0 rfl rfl 0 (by decide) (ht _ xw_62) (fun _ h9 => h9) rfl d_CellSet_removeBox_45 ?_
        refine lv_iload hx hb d_CellSet_removeBox_48 (lv_at hl 3 rfl) ?_
        refine lv_dup2_11 hx hb d_CellSet_removeBox_50 rfl rfl ?_
        obtain ⟨g51, hf⟩ := x_g hf
        refine va_lald hx hb hK hP 1 1 rfl rfl (xin_in g51) d_CellSet_removeBox_51 ?_
        refine lv_lload_n hx hb d_CellSet_removeBox_52 rfl (lv_at hl 1 rfl) ?_
        refine lv_land hx hb d_CellSet_removeBox_53 ?_
        obtain ⟨g54, hf⟩ := x_g hf
        refine va_last hx hb hK hP hD hS 1 1 rfl rfl (xin_in g54) d_CellSet_removeBox_54 (fun H locs hP hD hS => ?_)
        replace hP : va_P X.1 vwCl (w_CellSet X h0 a0_0 (CellSet_u_rows o0 (vp_updL (CellSet_rows o0) v5.toNatClampNeg ((CellSet_rows o0 v5.toNatClampNeg) &&& v2)))) H := hP
        replace hD : va_D _ (w_CellSet X h0 a0_0 (CellSet_u_rows o0 (vp_updL (CellSet_rows o0) v5.toNatClampNeg ((CellSet_rows o0 v5.toNatClampNeg) &&& v2)))) := hD
        refine lv_iinc (v := (v5 + (1 : Int32))) (lv' := [(5, .int (v5 + (1 : Int32))), (0, .ref h0), (2, .long v2), (4, .int v4)]) hx hb d_CellSet_removeBox_55 hl (k := 3) rfl rfl (by decide) rfl (fun ls hl => ?_)
        refine lv_goto (tgt := 37) hx hb d_CellSet_removeBox_58 (by decide) ?_
        exact hr37 v2 v4 (v5 + (1 : Int32)) (CellSet_u_rows o0 (vp_updL (CellSet_rows o0) v5.toNatClampNeg ((CellSet_rows o0 v5.toNatClampNeg) &&& v2))) _ _ hP hS ls (lv_sub hl [1, 2, 3, 0] rfl) hf
  unfold f_CellSet_removeBox at hf
  refine lv_aload_n hx hb d_CellSet_removeBox_0 rfl (lv_at hl 1 rfl) ?_
  refine va_get (D := X.1) (ci := 0) (v := .int (Box_left o1)) (C := "MaskEdges$Box") (T := F_Box) (N := 4) hx hb ht in_Box hown hK (xkept hP1 hno1 hS) 0 rfl rfl 0 (by decide) (ht _ xw_85) (fun _ h9 => h9) rfl d_CellSet_removeBox_1 ?_
  refine lv_aload_n hx hb d_CellSet_removeBox_4 rfl (lv_at hl 1 rfl) ?_
  refine va_get (D := X.1) (ci := 0) (v := .int (Box_right o1)) (C := "MaskEdges$Box") (T := F_Box) (N := 4) hx hb ht in_Box hown hK (xkept hP1 hno1 hS) 0 rfl rfl 2 (by decide) (ht _ xw_91) (fun _ h9 => h9) rfl d_CellSet_removeBox_5 ?_
  obtain ⟨c8, e8, hf⟩ := x_b hf
  refine xcR (va_runSN (As := [.int (Box_left o1), .int (Box_right o1)]) (rest := []) ⟨hx, hb, hml, hown, ht⟩ (c_MaskEdges_columnBits l X (Box_left o1) (Box_right o1) e8) ⟨va_cnB 2 ht (xgC xw_247) rfl rfl rfl (hKK.2 _ xn_6) (ht _ xw_37) (by decide +kernel) ⟨Nat.le_of_ble_eq_true rfl, Nat.le_of_ble_eq_true rfl⟩, ht _ xw_246, trivial⟩ (xPS hKK) rfl rfl hl.1 rfl (lv_room (Nat.le_of_ble_eq_true rfl)) d_CellSet_removeBox_8 ⟨Nat.zero_le _, Nat.zero_le _⟩) ?_
  refine W.eq (g2 := F0 m 11 ls [.long c8]) rfl ?_
  refine lv_ldc2 (v := (-1 : Int64)) hx hb hown (ht _ xw_254) d_CellSet_removeBox_11 ?_
  refine lv_lxor hx hb d_CellSet_removeBox_14 ?_
  refine lv_lstore_n (lv' := [(2, .long (c8 ^^^ (-1 : Int64))), (0, .ref h0), (1, .ref h1)]) hx hb d_CellSet_removeBox_15 rfl hl (by decide) rfl (fun ls hl => ?_)
  refine lv_aload_n hx hb d_CellSet_removeBox_16 rfl (lv_at hl 2 rfl) ?_
  refine va_get (D := X.1) (ci := 0) (v := .int (Box_bottom o1)) (C := "MaskEdges$Box") (T := F_Box) (N := 4) hx hb ht in_Box hown hK (xkept hP1 hno1 hS) 0 rfl rfl 3 (by decide) (ht _ xw_94) (fun _ h9 => h9) rfl d_CellSet_removeBox_17 ?_
  refine lv_bipush (v := (48 : Int32)) hx hb d_CellSet_removeBox_20 (by decide) ?_
  refine va_mmin hx hb (hml.trans hl.1.symm) hown (ht _ xw_248) (ht _ xw_215) (ht _ xw_44) (ht _ xw_math_min) (Nat.le_of_ble_eq_true rfl) (Nat.le_of_ble_eq_true rfl) (Nat.zero_le _) (Nat.zero_le _) d_CellSet_removeBox_22 ?_
  refine lv_istore (lv' := [(4, .int (if (48 : Int32) < (Box_bottom o1) then (48 : Int32) else (Box_bottom o1))), (2, .long (c8 ^^^ (-1 : Int64))), (0, .ref h0), (1, .ref h1)]) hx hb d_CellSet_removeBox_25 hl (by decide) rfl (fun ls hl => ?_)
  refine lv_aload_n hx hb d_CellSet_removeBox_27 rfl (lv_at hl 3 rfl) ?_
  refine va_get (D := X.1) (ci := 0) (v := .int (Box_top o1)) (C := "MaskEdges$Box") (T := F_Box) (N := 4) hx hb ht in_Box hown hK (xkept hP1 hno1 hS) 0 rfl rfl 1 (by decide) (ht _ xw_88) (fun _ h9 => h9) rfl d_CellSet_removeBox_28 ?_
  refine lv_iconst (v := (0 : Int32)) hx hb d_CellSet_removeBox_31 (by decide) ?_
  refine va_mmax hx hb (hml.trans hl.1.symm) hown (ht _ xw_249) (ht _ xw_218) (ht _ xw_44) (ht _ xw_math_max) (Nat.le_of_ble_eq_true rfl) (Nat.le_of_ble_eq_true rfl) (Nat.zero_le _) (Nat.zero_le _) d_CellSet_removeBox_32 ?_
  refine lv_istore (lv' := [(5, .int (if (Box_top o1) < (0 : Int32) then (0 : Int32) else (Box_top o1))), (4, .int (if (48 : Int32) < (Box_bottom o1) then (48 : Int32) else (Box_bottom o1))), (2, .long (c8 ^^^ (-1 : Int64))), (0, .ref h0), (1, .ref h1)]) hx hb d_CellSet_removeBox_35 hl (by decide) rfl (fun ls hl => ?_)
  exact (hL37 100000) (c8 ^^^ (-1 : Int64)) (if (48 : Int32) < (Box_bottom o1) then (48 : Int32) else (Box_bottom o1)) (if (Box_top o1) < (0 : Int32) then (0 : Int32) else (Box_top o1)) o0 _ _ hP hS ls (lv_sub hl [3, 2, 1, 0] rfl) hf
def f_CellSet_meets_33 (o0 : t_CellSet) (o1 : t_Box) (r33 : Int64 → Int32 → Int32 → Option (Int32)) (v2 : Int64) (v4 : Int32) (v5 : Int32) : Option (Int32) :=
  if v4 ≤ v5 then
  some (0 : Int32)
else
  if xin v5 48 = true then
    if (lg_cmp ((CellSet_rows o0 v5.toNatClampNeg) &&& v2) (0 : Int64)) = 0 then
      r33 v2 v4 (v5 + (1 : Int32))
    else
      some (1 : Int32)
  else none
def f_CellSet_meets (o0 : t_CellSet) (o1 : t_Box) : Option (Int32) :=
  (f_MaskEdges_columnBits (Box_left o1) (Box_right o1)).bind fun c8 =>
  (xloop (fun r => f_CellSet_meets_33 o0 o1 r) (fun _ _ _ => none) 100000) c8 (if (48 : Int32) < (Box_bottom o1) then (48 : Int32) else (Box_bottom o1)) (if (Box_top o1) < (0 : Int32) then (0 : Int32) else (Box_top o1))
set_option maxHeartbeats 4000000 in
set_option maxRecDepth 100000 in
theorem c_CellSet_meets (l : Launch) (X : xG) {H : Heap} (h0 a0_0 : Nat) (o0 : t_CellSet) (h1 : Nat) (o1 : t_Box) {res : Int32} (hP0 : va_P X.1 vwCl (w_CellSet X h0 a0_0 o0) H) (hP1 : va_P X.1 vwCl (w_Box X h1 o1) H) (hf : f_CellSet_meets o0 o1 = some res) : xM l y_CellSet_meets (Cond.code y_CellSet_meets prog_3_method_8_code 6 (some .boolean) :: xT) ({ frames := 1, cells := 0, slots := 0, locals := 23 } : Room) (xK X) [.ref h0, .ref h1] H xNo (some (.int res)) (fun H1 => H1 = H) := by
  refine Met.ofW (cc := prog_3_method_8_code) (maxL := 6) (ret := (some .boolean)) (by decide) rfl ?_
  intro p e s m args below meth c s₁ B hml hv
  obtain ⟨ha, hH, hKK⟩ := hv
  subst hH
  have hx := B.exec
  have hb := B.bytes
  have hr := B.returns
  have ht : ∀ w ∈ xT, w.before args s = true := fun w h => atoms_spec (ws := (Cond.code y_CellSet_meets prog_3_method_8_code 6 (some .boolean) :: xT)) B.pre w (List.mem_cons_of_mem _ h)
  have hown : s.vm.findClass "MaskEdges$CellSet" = some m.cls := findClass_of_methodNamed B.named
  have hlocks := B.notSynchronized
  have hK := hKK.1
  rw [show entryFrame m args 6 = entryFrame m ([.ref h0, .ref h1] : List Value).toArray 6 from by rw [ha]]
  clear ha
  have hl := lv_entry ([.ref h0, .ref h1]) (n := 6) (Nat.le_of_ble_eq_true rfl)
  rw [lg_entry_eq]
  generalize (lg_sl ([.ref h0, .ref h1]) ++ List.replicate (6 - (lg_sl ([.ref h0, .ref h1])).length) Slot.unset).toArray = ls at hl ⊢
  replace hl : lv_has ls 6 [(0, .ref h0), (1, .ref h1)] := hl
  refine x_Q (fun Q hQ => ?_)
  have hL33 : ∀ (n : Nat), ∀ (v2 : Int64) (v4 : Int32) (v5 : Int32), ∀ (ls : Array Slot), lv_has ls 6 [(0, .ref h0), (2, .long v2), (4, .int v4), (5, .int v5)] → (xloop (fun r => f_CellSet_meets_33 o0 o1 r) (fun _ _ _ => none) n) v2 v4 v5 = some res → W p l e (headSpec (Cond.code y_CellSet_meets prog_3_method_8_code 6 (some .boolean) :: xT) ({ frames := 1, cells := 0, slots := 0, locals := 23 } : Room)).room s m args below meth c s.heap [] 0 0 Q (F0 m 33 ls []) := by
    intro n
    induction n with
    | zero => intro v2 v4 v5 ls hl hf; cases hf
    | succ n ih =>
      intro v2 v4 v5 ls hl hf
      replace hf : f_CellSet_meets_33 o0 o1 (xloop (fun r => f_CellSet_meets_33 o0 o1 r) (fun _ _ _ => none) n) v2 v4 v5 = some res := hf
      have hr33 := ih
      clear ih
      unfold f_CellSet_meets_33 at hf
      refine lv_iload hx hb d_CellSet_meets_33 (lv_at hl 3 rfl) ?_
      refine lv_iload hx hb d_CellSet_meets_35 (lv_at hl 2 rfl) ?_
      refine lv_icmp_ge (tgt := 62) hx hb d_CellSet_meets_37 (by decide) (fun hc => ?_) (fun hc => ?_)
      · replace hf := x_t hc hf
        refine lv_iconst (v := (0 : Int32)) hx hb d_CellSet_meets_62 (by decide) ?_
        replace hf := x_s hf
        subst hf
        subst hQ
        exact W.zret (v := (0 : Int32)) hx hb hr (xz_n (by decide)) (fun t ht hW => ⟨⟨rfl, ht⟩, x_F0 ht⟩) x_l0 d_CellSet_meets_63
      · replace hf := x_f hc hf
        refine lv_aload_n hx hb d_CellSet_meets_40 rfl (lv_at hl 0 rfl) ?_
        refine va_get (D := X.1) (ci := 1) (v := .ref a0_0) (C := "MaskEdges$CellSet") (T := F_CellSet) (N := 1) hx hb ht in_CellSet hown hK hP0 0 rfl rfl 0 (by decide) (ht _ xw_62) (fun _ h9 => h9) rfl d_CellSet_meets_41 ?_
        refine lv_iload hx hb d_CellSet_meets_44 (lv_at hl 3 rfl) ?_
        obtain ⟨g46, hf⟩ := x_g hf
        refine va_lald hx hb hK hP0 1 1 rfl rfl (xin_in g46) d_CellSet_meets_46 ?_
        refine lv_lload_n hx hb d_CellSet_meets_47 rfl (lv_at hl 1 rfl) ?_
        refine lv_land hx hb d_CellSet_meets_48 ?_
        refine lv_lconst (v := (0 : Int64)) hx hb d_CellSet_meets_49 (by decide) ?_
        refine W.lcmp hx hb d_CellSet_meets_50 ?_
        refine lv_if_eq (tgt := 56) hx hb d_CellSet_meets_51 (by decide) (fun hc => ?_) (fun hc => ?_)
        · replace hf := x_t hc hf
          refine lv_iinc (v := (v5 + (1 : Int32))) (lv' := [(5, .int (v5 + (1 : Int32))), (0, .ref h0), (2, .long v2), (4, .int v4)]) hx hb d_CellSet_meets_56 hl (k := 3) rfl rfl (by decide) rfl (fun ls hl => ?_)
          refine lv_goto (tgt := 33) hx hb d_CellSet_meets_59 (by decide) ?_
          exact hr33 v2 v4 (v5 + (1 : Int32))  ls (lv_sub hl [1, 2, 3, 0] rfl) hf
        · replace hf := x_f hc hf
          refine lv_iconst (v := (1 : Int32)) hx hb d_CellSet_meets_54 (by decide) ?_
          replace hf := x_s hf
          subst hf
          subst hQ
          exact W.zret (v := (1 : Int32)) hx hb hr (xz_n (by decide)) (fun t ht hW => ⟨⟨rfl, ht⟩, x_F0 ht⟩) x_l0 d_CellSet_meets_55
  unfold f_CellSet_meets at hf
  refine lv_aload_n hx hb d_CellSet_meets_0 rfl (lv_at hl 1 rfl) ?_
  refine va_get (D := X.1) (ci := 0) (v := .int (Box_left o1)) (C := "MaskEdges$Box") (T := F_Box) (N := 4) hx hb ht in_Box hown hK hP1 0 rfl rfl 0 (by decide) (ht _ xw_85) (fun _ h9 => h9) rfl d_CellSet_meets_1 ?_
  refine lv_aload_n hx hb d_CellSet_meets_4 rfl (lv_at hl 1 rfl) ?_
  refine va_get (D := X.1) (ci := 0) (v := .int (Box_right o1)) (C := "MaskEdges$Box") (T := F_Box) (N := 4) hx hb ht in_Box hown hK hP1 0 rfl rfl 2 (by decide) (ht _ xw_91) (fun _ h9 => h9) rfl d_CellSet_meets_5 ?_
  obtain ⟨c8, e8, hf⟩ := x_b hf
  refine xcR (va_runSN (As := [.int (Box_left o1), .int (Box_right o1)]) (rest := []) ⟨hx, hb, hml, hown, ht⟩ (c_MaskEdges_columnBits l X (Box_left o1) (Box_right o1) e8) ⟨va_cnB 2 ht (xgC xw_247) rfl rfl rfl (hKK.2 _ xn_6) (ht _ xw_37) (by decide +kernel) ⟨Nat.le_of_ble_eq_true rfl, Nat.le_of_ble_eq_true rfl⟩, ht _ xw_246, trivial⟩ (xPS hKK) rfl rfl hl.1 rfl (lv_room (Nat.le_of_ble_eq_true rfl)) d_CellSet_meets_8 ⟨Nat.zero_le _, Nat.zero_le _⟩) ?_
  refine W.eq (g2 := F0 m 11 ls [.long c8]) rfl ?_
  refine lv_lstore_n (lv' := [(2, .long c8), (0, .ref h0), (1, .ref h1)]) hx hb d_CellSet_meets_11 rfl hl (by decide) rfl (fun ls hl => ?_)
  refine lv_aload_n hx hb d_CellSet_meets_12 rfl (lv_at hl 2 rfl) ?_
  refine va_get (D := X.1) (ci := 0) (v := .int (Box_bottom o1)) (C := "MaskEdges$Box") (T := F_Box) (N := 4) hx hb ht in_Box hown hK hP1 0 rfl rfl 3 (by decide) (ht _ xw_94) (fun _ h9 => h9) rfl d_CellSet_meets_13 ?_
  refine lv_bipush (v := (48 : Int32)) hx hb d_CellSet_meets_16 (by decide) ?_
  refine va_mmin hx hb (hml.trans hl.1.symm) hown (ht _ xw_248) (ht _ xw_215) (ht _ xw_44) (ht _ xw_math_min) (Nat.le_of_ble_eq_true rfl) (Nat.le_of_ble_eq_true rfl) (Nat.zero_le _) (Nat.zero_le _) d_CellSet_meets_18 ?_
  refine lv_istore (lv' := [(4, .int (if (48 : Int32) < (Box_bottom o1) then (48 : Int32) else (Box_bottom o1))), (2, .long c8), (0, .ref h0), (1, .ref h1)]) hx hb d_CellSet_meets_21 hl (by decide) rfl (fun ls hl => ?_)
  refine lv_aload_n hx hb d_CellSet_meets_23 rfl (lv_at hl 3 rfl) ?_
  refine va_get (D := X.1) (ci := 0) (v := .int (Box_top o1)) (C := "MaskEdges$Box") (T := F_Box) (N := 4) hx hb ht in_Box hown hK hP1 0 rfl rfl 1 (by decide) (ht _ xw_88) (fun _ h9 => h9) rfl d_CellSet_meets_24 ?_
  refine lv_iconst (v := (0 : Int32)) hx hb d_CellSet_meets_27 (by decide) ?_
  refine va_mmax hx hb (hml.trans hl.1.symm) hown (ht _ xw_249) (ht _ xw_218) (ht _ xw_44) (ht _ xw_math_max) (Nat.le_of_ble_eq_true rfl) (Nat.le_of_ble_eq_true rfl) (Nat.zero_le _) (Nat.zero_le _) d_CellSet_meets_28 ?_
  refine lv_istore (lv' := [(5, .int (if (Box_top o1) < (0 : Int32) then (0 : Int32) else (Box_top o1))), (4, .int (if (48 : Int32) < (Box_bottom o1) then (48 : Int32) else (Box_bottom o1))), (2, .long c8), (0, .ref h0), (1, .ref h1)]) hx hb d_CellSet_meets_31 hl (by decide) rfl (fun ls hl => ?_)
  exact (hL33 100000) c8 (if (48 : Int32) < (Box_bottom o1) then (48 : Int32) else (Box_bottom o1)) (if (Box_top o1) < (0 : Int32) then (0 : Int32) else (Box_top o1))  ls (lv_sub hl [3, 2, 1, 0] rfl) hf
def f_CellSet_countAround_37 (o0 : t_CellSet) (r37 : Int64 → Int32 → Int32 → Int32 → Option (Int32)) (v4 : Int64) (v6 : Int32) (v7 : Int32) (v8 : Int32) : Option (Int32) :=
  if v6 ≤ v8 then
  some v7
else
  if xin v8 48 = true then
    (f_Long_bitCount ((CellSet_rows o0 v8.toNatClampNeg) &&& v4)).bind fun c56 =>
      r37 v4 v6 (v7 + c56) (v8 + (1 : Int32))
  else none
def f_CellSet_countAround (o0 : t_CellSet) (v1 : Int32) (v2 : Int32) (v3 : Int32) : Option (Int32) :=
  (f_MaskEdges_columnBits (v1 - v3) ((v1 + v3) + (1 : Int32))).bind fun c8 =>
  (xloop (fun r => f_CellSet_countAround_37 o0 r) (fun _ _ _ _ => none) 100000) c8 (if (48 : Int32) < ((v2 + v3) + (1 : Int32)) then (48 : Int32) else ((v2 + v3) + (1 : Int32))) (0 : Int32) (if (v2 - v3) < (0 : Int32) then (0 : Int32) else (v2 - v3))
set_option maxHeartbeats 4000000 in
set_option maxRecDepth 100000 in
theorem c_CellSet_countAround (l : Launch) (X : xG) {H : Heap} (h0 a0_0 : Nat) (o0 : t_CellSet) (v1 : Int32) (v2 : Int32) (v3 : Int32) {res : Int32} (hP0 : va_P X.1 vwCl (w_CellSet X h0 a0_0 o0) H) (hf : f_CellSet_countAround o0 v1 v2 v3 = some res) : xM l y_CellSet_countAround (Cond.code y_CellSet_countAround prog_3_method_9_code 9 (some .int) :: xT) ({ frames := 1, cells := 0, slots := 0, locals := 23 } : Room) (xK X) [.ref h0, .int v1, .int v2, .int v3] H xNo (some (.int res)) (fun H1 => H1 = H) := by
  refine Met.ofW (cc := prog_3_method_9_code) (maxL := 9) (ret := (some .int)) (by decide) rfl ?_
  intro p e s m args below meth c s₁ B hml hv
  obtain ⟨ha, hH, hKK⟩ := hv
  subst hH
  have hx := B.exec
  have hb := B.bytes
  have hr := B.returns
  have ht : ∀ w ∈ xT, w.before args s = true := fun w h => atoms_spec (ws := (Cond.code y_CellSet_countAround prog_3_method_9_code 9 (some .int) :: xT)) B.pre w (List.mem_cons_of_mem _ h)
  have hown : s.vm.findClass "MaskEdges$CellSet" = some m.cls := findClass_of_methodNamed B.named
  have hlocks := B.notSynchronized
  have hK := hKK.1
  rw [show entryFrame m args 9 = entryFrame m ([.ref h0, .int v1, .int v2, .int v3] : List Value).toArray 9 from by rw [ha]]
  clear ha
  have hl := lv_entry ([.ref h0, .int v1, .int v2, .int v3]) (n := 9) (Nat.le_of_ble_eq_true rfl)
  rw [lg_entry_eq]
  generalize (lg_sl ([.ref h0, .int v1, .int v2, .int v3]) ++ List.replicate (9 - (lg_sl ([.ref h0, .int v1, .int v2, .int v3])).length) Slot.unset).toArray = ls at hl ⊢
  replace hl : lv_has ls 9 [(0, .ref h0), (1, .int v1), (2, .int v2), (3, .int v3)] := hl
  refine x_Q (fun Q hQ => ?_)
  have hL37 : ∀ (n : Nat), ∀ (v4 : Int64) (v6 : Int32) (v7 : Int32) (v8 : Int32), ∀ (ls : Array Slot), lv_has ls 9 [(0, .ref h0), (4, .long v4), (6, .int v6), (7, .int v7), (8, .int v8)] → (xloop (fun r => f_CellSet_countAround_37 o0 r) (fun _ _ _ _ => none) n) v4 v6 v7 v8 = some res → W p l e (headSpec (Cond.code y_CellSet_countAround prog_3_method_9_code 9 (some .int) :: xT) ({ frames := 1, cells := 0, slots := 0, locals := 23 } : Room)).room s m args below meth c s.heap [] 0 0 Q (F0 m 37 ls []) := by
    intro n
    induction n with
    | zero => intro v4 v6 v7 v8 ls hl hf; cases hf
    | succ n ih =>
      intro v4 v6 v7 v8 ls hl hf
      replace hf : f_CellSet_countAround_37 o0 (xloop (fun r => f_CellSet_countAround_37 o0 r) (fun _ _ _ _ => none) n) v4 v6 v7 v8 = some res := hf
      have hr37 := ih
      clear ih
      unfold f_CellSet_countAround_37 at hf
      refine lv_iload hx hb d_CellSet_countAround_37 (lv_at hl 4 rfl) ?_
      refine lv_iload hx hb d_CellSet_countAround_39 (lv_at hl 2 rfl) ?_
      refine lv_icmp_ge (tgt := 68) hx hb d_CellSet_countAround_41 (by decide) (fun hc => ?_) (fun hc => ?_)
      · replace hf := x_t hc hf
        refine lv_iload hx hb d_CellSet_countAround_68 (lv_at hl 3 rfl) ?_
        replace hf := x_s hf
        subst hf
        subst hQ
        exact W.iret (v := v7) hx hb hr (fun t ht hW => ⟨⟨rfl, ht⟩, x_F0 ht⟩) x_l0 d_CellSet_countAround_70
      · replace hf := x_f hc hf
        refine lv_iload hx hb d_CellSet_countAround_44 (lv_at hl 3 rfl) ?_
        refine lv_aload_n hx hb d_CellSet_countAround_46 rfl (lv_at hl 0 rfl) ?_
        refine va_get (D := X.1) (ci := 1) (v := .ref a0_0) (C := "MaskEdges$CellSet") (T := F_CellSet) (N := 1) hx hb ht in_CellSet hown hK hP0 0 rfl rfl 0 (by decide) (ht _ xw_62) (fun _ h9 => h9) rfl d_CellSet_countAround_47 ?_
        refine lv_iload hx hb d_CellSet_countAround_50 (lv_at hl 4 rfl) ?_
        obtain ⟨g52, hf⟩ := x_g hf
        refine va_lald hx hb hK hP0 1 1 rfl rfl (xin_in g52) d_CellSet_countAround_52 ?_
        refine lv_lload hx hb d_CellSet_countAround_53 (lv_at hl 1 rfl) ?_
        refine lv_land hx hb d_CellSet_countAround_55 ?_
        obtain ⟨c56, e56, hf⟩ := x_b hf
        refine xcR (va_runS (As := [.long ((CellSet_rows o0 v8.toNatClampNeg) &&& v4)]) (rest := [.int v7]) ⟨hx, hb, hml, hown, ht⟩ (c_Long_bitCount l X ((CellSet_rows o0 v8.toNatClampNeg) &&& v4) e56) ⟨callB_of 1 ht (xgC xw_327) rfl rfl rfl (ht _ xw_45) (ht _ xw_325) (by decide +kernel) ⟨Nat.le_of_ble_eq_true rfl, Nat.le_of_ble_eq_true rfl⟩, ht _ xw_326⟩ (xPS hKK) rfl rfl hl.1 rfl (lv_room (Nat.le_of_ble_eq_true rfl)) d_CellSet_countAround_56 ⟨Nat.zero_le _, Nat.zero_le _⟩) ?_
        refine W.eq (g2 := F0 m 59 ls [.int c56, .int v7]) rfl ?_
        refine lv_iadd hx hb d_CellSet_countAround_59 ?_
        refine lv_istore (lv' := [(7, .int (v7 + c56)), (0, .ref h0), (4, .long v4), (6, .int v6), (8, .int v8)]) hx hb d_CellSet_countAround_60 hl (by decide) rfl (fun ls hl => ?_)
        refine lv_iinc (v := (v8 + (1 : Int32))) (lv' := [(8, .int (v8 + (1 : Int32))), (7, .int (v7 + c56)), (0, .ref h0), (4, .long v4), (6, .int v6)]) hx hb d_CellSet_countAround_62 hl (k := 4) rfl rfl (by decide) rfl (fun ls hl => ?_)
        refine lv_goto (tgt := 37) hx hb d_CellSet_countAround_65 (by decide) ?_
        exact hr37 v4 v6 (v7 + c56) (v8 + (1 : Int32))  ls (lv_sub hl [2, 3, 4, 1, 0] rfl) hf
  unfold f_CellSet_countAround at hf
  refine lv_iload_n hx hb d_CellSet_countAround_0 rfl (lv_at hl 1 rfl) ?_
  refine lv_iload_n hx hb d_CellSet_countAround_1 rfl (lv_at hl 3 rfl) ?_
  refine lv_isub hx hb d_CellSet_countAround_2 ?_
  refine lv_iload_n hx hb d_CellSet_countAround_3 rfl (lv_at hl 1 rfl) ?_
  refine lv_iload_n hx hb d_CellSet_countAround_4 rfl (lv_at hl 3 rfl) ?_
  refine lv_iadd hx hb d_CellSet_countAround_5 ?_
  refine lv_iconst (v := (1 : Int32)) hx hb d_CellSet_countAround_6 (by decide) ?_
  refine lv_iadd hx hb d_CellSet_countAround_7 ?_
  obtain ⟨c8, e8, hf⟩ := x_b hf
  refine xcR (va_runSN (As := [.int (v1 - v3), .int ((v1 + v3) + (1 : Int32))]) (rest := []) ⟨hx, hb, hml, hown, ht⟩ (c_MaskEdges_columnBits l X (v1 - v3) ((v1 + v3) + (1 : Int32)) e8) ⟨va_cnB 2 ht (xgC xw_247) rfl rfl rfl (hKK.2 _ xn_6) (ht _ xw_37) (by decide +kernel) ⟨Nat.le_of_ble_eq_true rfl, Nat.le_of_ble_eq_true rfl⟩, ht _ xw_246, trivial⟩ (xPS hKK) rfl rfl hl.1 rfl (lv_room (Nat.le_of_ble_eq_true rfl)) d_CellSet_countAround_8 ⟨Nat.zero_le _, Nat.zero_le _⟩) ?_
  refine W.eq (g2 := F0 m 11 ls [.long c8]) rfl ?_
  refine lv_lstore (lv' := [(4, .long c8), (0, .ref h0), (1, .int v1), (2, .int v2), (3, .int v3)]) hx hb d_CellSet_countAround_11 hl (by decide) rfl (fun ls hl => ?_)
  refine lv_iload_n hx hb d_CellSet_countAround_13 rfl (lv_at hl 3 rfl) ?_
  refine lv_iload_n hx hb d_CellSet_countAround_14 rfl (lv_at hl 4 rfl) ?_
  refine lv_iadd hx hb d_CellSet_countAround_15 ?_
  refine lv_iconst (v := (1 : Int32)) hx hb d_CellSet_countAround_16 (by decide) ?_
  refine lv_iadd hx hb d_CellSet_countAround_17 ?_
  refine lv_bipush (v := (48 : Int32)) hx hb d_CellSet_countAround_18 (by decide) ?_
  refine va_mmin hx hb (hml.trans hl.1.symm) hown (ht _ xw_248) (ht _ xw_215) (ht _ xw_44) (ht _ xw_math_min) (Nat.le_of_ble_eq_true rfl) (Nat.le_of_ble_eq_true rfl) (Nat.zero_le _) (Nat.zero_le _) d_CellSet_countAround_20 ?_
  refine lv_istore (lv' := [(6, .int (if (48 : Int32) < ((v2 + v3) + (1 : Int32)) then (48 : Int32) else ((v2 + v3) + (1 : Int32)))), (4, .long c8), (0, .ref h0), (1, .int v1), (2, .int v2), (3, .int v3)]) hx hb d_CellSet_countAround_23 hl (by decide) rfl (fun ls hl => ?_)
  refine lv_iconst (v := (0 : Int32)) hx hb d_CellSet_countAround_25 (by decide) ?_
  refine lv_istore (lv' := [(7, .int (0 : Int32)), (6, .int (if (48 : Int32) < ((v2 + v3) + (1 : Int32)) then (48 : Int32) else ((v2 + v3) + (1 : Int32)))), (4, .long c8), (0, .ref h0), (1, .int v1), (2, .int v2), (3, .int v3)]) hx hb d_CellSet_countAround_26 hl (by decide) rfl (fun ls hl => ?_)
  refine lv_iload_n hx hb d_CellSet_countAround_28 rfl (lv_at hl 5 rfl) ?_
  refine lv_iload_n hx hb d_CellSet_countAround_29 rfl (lv_at hl 6 rfl) ?_
  refine lv_isub hx hb d_CellSet_countAround_30 ?_
  refine lv_iconst (v := (0 : Int32)) hx hb d_CellSet_countAround_31 (by decide) ?_
  refine va_mmax hx hb (hml.trans hl.1.symm) hown (ht _ xw_249) (ht _ xw_218) (ht _ xw_44) (ht _ xw_math_max) (Nat.le_of_ble_eq_true rfl) (Nat.le_of_ble_eq_true rfl) (Nat.zero_le _) (Nat.zero_le _) d_CellSet_countAround_32 ?_
  refine lv_istore (lv' := [(8, .int (if (v2 - v3) < (0 : Int32) then (0 : Int32) else (v2 - v3))), (7, .int (0 : Int32)), (6, .int (if (48 : Int32) < ((v2 + v3) + (1 : Int32)) then (48 : Int32) else ((v2 + v3) + (1 : Int32)))), (4, .long c8), (0, .ref h0), (1, .int v1), (2, .int v2), (3, .int v3)]) hx hb d_CellSet_countAround_35 hl (by decide) rfl (fun ls hl => ?_)
  exact (hL37 100000) c8 (if (48 : Int32) < ((v2 + v3) + (1 : Int32)) then (48 : Int32) else ((v2 + v3) + (1 : Int32))) (0 : Int32) (if (v2 - v3) < (0 : Int32) then (0 : Int32) else (v2 - v3))  ls (lv_sub hl [4, 3, 2, 1, 0] rfl) hf
end
section
def f_Exposure_addKernel (v1 : Int32) (v2 : Int32) (o0 : t_Exposure) : Option (Int32 × t_Exposure) :=
  if (Exposure_kernels o0) < (6 : Int32) then
  if xin (Exposure_kernels o0) 6 = true then
    if xin (Exposure_kernels (Exposure_u_weights o0 (upd (Exposure_weights o0) (Exposure_kernels o0).toNatClampNeg v1))) 6 = true then
      some (((Exposure_kernels (Exposure_u_kernels (Exposure_u_widths (Exposure_u_weights o0 (upd (Exposure_weights o0) (Exposure_kernels o0).toNatClampNeg v1)) (upd (Exposure_widths (Exposure_u_weights o0 (upd (Exposure_weights o0) (Exposure_kernels o0).toNatClampNeg v1))) (Exposure_kernels (Exposure_u_weights o0 (upd (Exposure_weights o0) (Exposure_kernels o0).toNatClampNeg v1))).toNatClampNeg v2)) ((Exposure_kernels (Exposure_u_widths (Exposure_u_weights o0 (upd (Exposure_weights o0) (Exposure_kernels o0).toNatClampNeg v1)) (upd (Exposure_widths (Exposure_u_weights o0 (upd (Exposure_weights o0) (Exposure_kernels o0).toNatClampNeg v1))) (Exposure_kernels (Exposure_u_weights o0 (upd (Exposure_weights o0) (Exposure_kernels o0).toNatClampNeg v1))).toNatClampNeg v2))) + (1 : Int32)))) - (1 : Int32)), (Exposure_u_kernels (Exposure_u_widths (Exposure_u_weights o0 (upd (Exposure_weights o0) (Exposure_kernels o0).toNatClampNeg v1)) (upd (Exposure_widths (Exposure_u_weights o0 (upd (Exposure_weights o0) (Exposure_kernels o0).toNatClampNeg v1))) (Exposure_kernels (Exposure_u_weights o0 (upd (Exposure_weights o0) (Exposure_kernels o0).toNatClampNeg v1))).toNatClampNeg v2)) ((Exposure_kernels (Exposure_u_widths (Exposure_u_weights o0 (upd (Exposure_weights o0) (Exposure_kernels o0).toNatClampNeg v1)) (upd (Exposure_widths (Exposure_u_weights o0 (upd (Exposure_weights o0) (Exposure_kernels o0).toNatClampNeg v1))) (Exposure_kernels (Exposure_u_weights o0 (upd (Exposure_weights o0) (Exposure_kernels o0).toNatClampNeg v1))).toNatClampNeg v2))) + (1 : Int32))))
    else none
  else none
else
  some ((-4 : Int32), o0)
set_option maxHeartbeats 4000000 in
set_option maxRecDepth 100000 in
theorem c_Exposure_addKernel (l : Launch) (X : xG) {H : Heap} (h0 a0_0 a0_1 : Nat) (o0 : t_Exposure) (v1 : Int32) (v2 : Int32) {res : Int32 × t_Exposure} (hP0 : va_P X.1 vwCl (w_Exposure X h0 a0_0 a0_1 o0) H) (hnd : [h0, a0_0, a0_1].Nodup) (hf : f_Exposure_addKernel v1 v2 o0 = some res) : xM l y_Exposure_addKernel (Cond.code y_Exposure_addKernel prog_4_method_2_code 3 (some .int) :: xT) ({ frames := 0, cells := 0, slots := 0, locals := 0 } : Room) (xK X) [.ref h0, .int v1, .int v2] H (xAl [h0, a0_0, a0_1]) (some (.int res.1)) (fun H1 => va_P X.1 vwCl (w_Exposure X h0 a0_0 a0_1 res.2) H1) := by
  refine Met.ofW (cc := prog_4_method_2_code) (maxL := 3) (ret := (some .int)) (by decide) rfl ?_
  intro p e s m args below meth c s₁ B hml hv
  obtain ⟨ha, hH, hKK⟩ := hv
  subst hH
  have hx := B.exec
  have hb := B.bytes
  have hr := B.returns
  have ht : ∀ w ∈ xT, w.before args s = true := fun w h => atoms_spec (ws := (Cond.code y_Exposure_addKernel prog_4_method_2_code 3 (some .int) :: xT)) B.pre w (List.mem_cons_of_mem _ h)
  have hown : s.vm.findClass "MaskEdges$Exposure" = some m.cls := findClass_of_methodNamed B.named
  have hlocks := B.notSynchronized
  have hK := hKK.1
  rw [show entryFrame m args 3 = entryFrame m ([.ref h0, .int v1, .int v2] : List Value).toArray 3 from by rw [ha]]
  clear ha
  have hP := hP0
  have hD : va_D (xAl [h0, a0_0, a0_1]) (w_Exposure X h0 a0_0 a0_1 o0) := xDl rfl hnd
  have hS : va_S (xAl [h0, a0_0, a0_1]) s.heap s.heap [] := va_S.rf
  have hl := lv_entry ([.ref h0, .int v1, .int v2]) (n := 3) (Nat.le_of_ble_eq_true rfl)
  rw [lg_entry_eq]
  generalize (lg_sl ([.ref h0, .int v1, .int v2]) ++ List.replicate (3 - (lg_sl ([.ref h0, .int v1, .int v2])).length) Slot.unset).toArray = ls at hl ⊢
  replace hl : lv_has ls 3 [(0, .ref h0), (1, .int v1), (2, .int v2)] := hl
  refine x_Q (fun Q hQ => ?_)
  unfold f_Exposure_addKernel at hf
  refine lv_aload_n hx hb d_Exposure_addKernel_0 rfl (lv_at hl 0 rfl) ?_
  refine va_get (D := X.1) (ci := 2) (v := .int (Exposure_kernels o0)) (C := "MaskEdges$Exposure") (T := F_Exposure) (N := 4) hx hb ht in_Exposure hown hK hP 0 rfl rfl 2 (by decide) (ht _ xw_73) (fun _ h9 => h9) rfl d_Exposure_addKernel_1 ?_
  refine lv_bipush (v := (6 : Int32)) hx hb d_Exposure_addKernel_4 (by decide) ?_
  refine lv_icmp_lt (tgt := 12) hx hb d_Exposure_addKernel_6 (by decide) (fun hc => ?_) (fun hc => ?_)
  · replace hf := x_t hc hf
    refine lv_aload_n hx hb d_Exposure_addKernel_12 rfl (lv_at hl 0 rfl) ?_
    refine va_get (D := X.1) (ci := 2) (v := .ref a0_0) (C := "MaskEdges$Exposure") (T := F_Exposure) (N := 4) hx hb ht in_Exposure hown hK hP 0 rfl rfl 0 (by decide) (ht _ xw_71) (fun _ h9 => h9) rfl d_Exposure_addKernel_13 ?_
    refine lv_aload_n hx hb d_Exposure_addKernel_16 rfl (lv_at hl 0 rfl) ?_
    refine va_get (D := X.1) (ci := 2) (v := .int (Exposure_kernels o0)) (C := "MaskEdges$Exposure") (T := F_Exposure) (N := 4) hx hb ht in_Exposure hown hK hP 0 rfl rfl 2 (by decide) (ht _ xw_73) (fun _ h9 => h9) rfl d_Exposure_addKernel_17 ?_
    refine lv_iload_n hx hb d_Exposure_addKernel_20 rfl (lv_at hl 1 rfl) ?_
    obtain ⟨g21, hf⟩ := x_g hf
    refine va_iast hx hb hK hP hD hS 1 0 rfl rfl (xin_in g21) d_Exposure_addKernel_21 (fun H locs hP hD hS => ?_)
    replace hP : va_P X.1 vwCl (w_Exposure X h0 a0_0 a0_1 (Exposure_u_weights o0 (upd (Exposure_weights o0) (Exposure_kernels o0).toNatClampNeg v1))) H := hP
    replace hD : va_D _ (w_Exposure X h0 a0_0 a0_1 (Exposure_u_weights o0 (upd (Exposure_weights o0) (Exposure_kernels o0).toNatClampNeg v1))) := hD
    refine lv_aload_n hx hb d_Exposure_addKernel_22 rfl (lv_at hl 0 rfl) ?_
    refine va_get (D := X.1) (ci := 2) (v := .ref a0_1) (C := "MaskEdges$Exposure") (T := F_Exposure) (N := 4) hx hb ht in_Exposure hown hK hP 0 rfl rfl 1 (by decide) (ht _ xw_72) (fun _ h9 => h9) rfl d_Exposure_addKernel_23 ?_
    refine lv_aload_n hx hb d_Exposure_addKernel_26 rfl (lv_at hl 0 rfl) ?_
    refine va_get (D := X.1) (ci := 2) (v := .int (Exposure_kernels (Exposure_u_weights o0 (upd (Exposure_weights o0) (Exposure_kernels o0).toNatClampNeg v1)))) (C := "MaskEdges$Exposure") (T := F_Exposure) (N := 4) hx hb ht in_Exposure hown hK hP 0 rfl rfl 2 (by decide) (ht _ xw_73) (fun _ h9 => h9) rfl d_Exposure_addKernel_27 ?_
    refine lv_iload_n hx hb d_Exposure_addKernel_30 rfl (lv_at hl 2 rfl) ?_
    obtain ⟨g31, hf⟩ := x_g hf
    refine va_iast hx hb hK hP hD hS 2 0 rfl rfl (xin_in g31) d_Exposure_addKernel_31 (fun H locs hP hD hS => ?_)
    replace hP : va_P X.1 vwCl (w_Exposure X h0 a0_0 a0_1 (Exposure_u_widths (Exposure_u_weights o0 (upd (Exposure_weights o0) (Exposure_kernels o0).toNatClampNeg v1)) (upd (Exposure_widths (Exposure_u_weights o0 (upd (Exposure_weights o0) (Exposure_kernels o0).toNatClampNeg v1))) (Exposure_kernels (Exposure_u_weights o0 (upd (Exposure_weights o0) (Exposure_kernels o0).toNatClampNeg v1))).toNatClampNeg v2))) H := hP
    replace hD : va_D _ (w_Exposure X h0 a0_0 a0_1 (Exposure_u_widths (Exposure_u_weights o0 (upd (Exposure_weights o0) (Exposure_kernels o0).toNatClampNeg v1)) (upd (Exposure_widths (Exposure_u_weights o0 (upd (Exposure_weights o0) (Exposure_kernels o0).toNatClampNeg v1))) (Exposure_kernels (Exposure_u_weights o0 (upd (Exposure_weights o0) (Exposure_kernels o0).toNatClampNeg v1))).toNatClampNeg v2))) := hD
    refine lv_aload_n hx hb d_Exposure_addKernel_32 rfl (lv_at hl 0 rfl) ?_
    refine lv_dup hx hb d_Exposure_addKernel_33 rfl ?_
    refine va_get (D := X.1) (ci := 2) (v := .int (Exposure_kernels (Exposure_u_widths (Exposure_u_weights o0 (upd (Exposure_weights o0) (Exposure_kernels o0).toNatClampNeg v1)) (upd (Exposure_widths (Exposure_u_weights o0 (upd (Exposure_weights o0) (Exposure_kernels o0).toNatClampNeg v1))) (Exposure_kernels (Exposure_u_weights o0 (upd (Exposure_weights o0) (Exposure_kernels o0).toNatClampNeg v1))).toNatClampNeg v2)))) (C := "MaskEdges$Exposure") (T := F_Exposure) (N := 4) hx hb ht in_Exposure hown hK hP 0 rfl rfl 2 (by decide) (ht _ xw_73) (fun _ h9 => h9) rfl d_Exposure_addKernel_34 ?_
    refine lv_iconst (v := (1 : Int32)) hx hb d_Exposure_addKernel_37 (by decide) ?_
    refine lv_iadd hx hb d_Exposure_addKernel_38 ?_
    refine va_put (D := X.1) (ci := 2) (v := .int ((Exposure_kernels (Exposure_u_widths (Exposure_u_weights o0 (upd (Exposure_weights o0) (Exposure_kernels o0).toNatClampNeg v1)) (upd (Exposure_widths (Exposure_u_weights o0 (upd (Exposure_weights o0) (Exposure_kernels o0).toNatClampNeg v1))) (Exposure_kernels (Exposure_u_weights o0 (upd (Exposure_weights o0) (Exposure_kernels o0).toNatClampNeg v1))).toNatClampNeg v2))) + (1 : Int32))) (ty := .int) (C := "MaskEdges$Exposure") (T := F_Exposure) (N := 4) hx hb ht in_Exposure ty_Exposure tyk_Exposure nm_Exposure hown hK hP hD hS 0 rfl rfl 2 (by decide) (ht _ xw_73) (fun _ h9 => h9) rfl (by decide +kernel) rfl rfl (Nat.le_of_ble_eq_true rfl) d_Exposure_addKernel_39 (fun H locs hP hD hS => ?_)
    replace hP : va_P X.1 vwCl (w_Exposure X h0 a0_0 a0_1 (Exposure_u_kernels (Exposure_u_widths (Exposure_u_weights o0 (upd (Exposure_weights o0) (Exposure_kernels o0).toNatClampNeg v1)) (upd (Exposure_widths (Exposure_u_weights o0 (upd (Exposure_weights o0) (Exposure_kernels o0).toNatClampNeg v1))) (Exposure_kernels (Exposure_u_weights o0 (upd (Exposure_weights o0) (Exposure_kernels o0).toNatClampNeg v1))).toNatClampNeg v2)) ((Exposure_kernels (Exposure_u_widths (Exposure_u_weights o0 (upd (Exposure_weights o0) (Exposure_kernels o0).toNatClampNeg v1)) (upd (Exposure_widths (Exposure_u_weights o0 (upd (Exposure_weights o0) (Exposure_kernels o0).toNatClampNeg v1))) (Exposure_kernels (Exposure_u_weights o0 (upd (Exposure_weights o0) (Exposure_kernels o0).toNatClampNeg v1))).toNatClampNeg v2))) + (1 : Int32)))) H := hP
    replace hD : va_D _ (w_Exposure X h0 a0_0 a0_1 (Exposure_u_kernels (Exposure_u_widths (Exposure_u_weights o0 (upd (Exposure_weights o0) (Exposure_kernels o0).toNatClampNeg v1)) (upd (Exposure_widths (Exposure_u_weights o0 (upd (Exposure_weights o0) (Exposure_kernels o0).toNatClampNeg v1))) (Exposure_kernels (Exposure_u_weights o0 (upd (Exposure_weights o0) (Exposure_kernels o0).toNatClampNeg v1))).toNatClampNeg v2)) ((Exposure_kernels (Exposure_u_widths (Exposure_u_weights o0 (upd (Exposure_weights o0) (Exposure_kernels o0).toNatClampNeg v1)) (upd (Exposure_widths (Exposure_u_weights o0 (upd (Exposure_weights o0) (Exposure_kernels o0).toNatClampNeg v1))) (Exposure_kernels (Exposure_u_weights o0 (upd (Exposure_weights o0) (Exposure_kernels o0).toNatClampNeg v1))).toNatClampNeg v2))) + (1 : Int32)))) := hD
    refine lv_aload_n hx hb d_Exposure_addKernel_42 rfl (lv_at hl 0 rfl) ?_
    refine va_get (D := X.1) (ci := 2) (v := .int (Exposure_kernels (Exposure_u_kernels (Exposure_u_widths (Exposure_u_weights o0 (upd (Exposure_weights o0) (Exposure_kernels o0).toNatClampNeg v1)) (upd (Exposure_widths (Exposure_u_weights o0 (upd (Exposure_weights o0) (Exposure_kernels o0).toNatClampNeg v1))) (Exposure_kernels (Exposure_u_weights o0 (upd (Exposure_weights o0) (Exposure_kernels o0).toNatClampNeg v1))).toNatClampNeg v2)) ((Exposure_kernels (Exposure_u_widths (Exposure_u_weights o0 (upd (Exposure_weights o0) (Exposure_kernels o0).toNatClampNeg v1)) (upd (Exposure_widths (Exposure_u_weights o0 (upd (Exposure_weights o0) (Exposure_kernels o0).toNatClampNeg v1))) (Exposure_kernels (Exposure_u_weights o0 (upd (Exposure_weights o0) (Exposure_kernels o0).toNatClampNeg v1))).toNatClampNeg v2))) + (1 : Int32))))) (C := "MaskEdges$Exposure") (T := F_Exposure) (N := 4) hx hb ht in_Exposure hown hK hP 0 rfl rfl 2 (by decide) (ht _ xw_73) (fun _ h9 => h9) rfl d_Exposure_addKernel_43 ?_
    refine lv_iconst (v := (1 : Int32)) hx hb d_Exposure_addKernel_46 (by decide) ?_
    refine lv_isub hx hb d_Exposure_addKernel_47 ?_
    replace hf := x_s hf
    subst hf
    subst hQ
    exact W.iret (v := ((Exposure_kernels (Exposure_u_kernels (Exposure_u_widths (Exposure_u_weights o0 (upd (Exposure_weights o0) (Exposure_kernels o0).toNatClampNeg v1)) (upd (Exposure_widths (Exposure_u_weights o0 (upd (Exposure_weights o0) (Exposure_kernels o0).toNatClampNeg v1))) (Exposure_kernels (Exposure_u_weights o0 (upd (Exposure_weights o0) (Exposure_kernels o0).toNatClampNeg v1))).toNatClampNeg v2)) ((Exposure_kernels (Exposure_u_widths (Exposure_u_weights o0 (upd (Exposure_weights o0) (Exposure_kernels o0).toNatClampNeg v1)) (upd (Exposure_widths (Exposure_u_weights o0 (upd (Exposure_weights o0) (Exposure_kernels o0).toNatClampNeg v1))) (Exposure_kernels (Exposure_u_weights o0 (upd (Exposure_weights o0) (Exposure_kernels o0).toNatClampNeg v1))).toNatClampNeg v2))) + (1 : Int32)))) - (1 : Int32))) hx hb hr (fun t ht hW => ⟨⟨rfl, by rw [ht]; exact hP⟩, hS.F ht⟩) hS.2.2 d_Exposure_addKernel_48
  · replace hf := x_f hc hf
    refine lv_bipush (v := (-4 : Int32)) hx hb d_Exposure_addKernel_9 (by decide) ?_
    replace hf := x_s hf
    subst hf
    subst hQ
    exact W.iret (v := (-4 : Int32)) hx hb hr (fun t ht hW => ⟨⟨rfl, by rw [ht]; exact hP⟩, hS.F ht⟩) hS.2.2 d_Exposure_addKernel_11
def f_Exposure_imageAt_6 (o0 : t_Exposure) (o1 : t_CellSet) (r6 : Int32 → Int32 → Int32 → Int32 → Option (Int32)) (v2 : Int32) (v3 : Int32) (v4 : Int32) (v5 : Int32) : Option (Int32) :=
  if (Exposure_kernels o0) ≤ v5 then
  some v4
else
  if xin v5 6 = true then
    if xin v5 6 = true then
      (f_CellSet_countAround o1 v2 v3 (Exposure_widths o0 v5.toNatClampNeg)).bind fun c34 =>
        r6 v2 v3 (v4 + ((Exposure_weights o0 v5.toNatClampNeg) * c34)) (v5 + (1 : Int32))
    else none
  else none
def f_Exposure_imageAt (o0 : t_Exposure) (o1 : t_CellSet) (v2 : Int32) (v3 : Int32) : Option (Int32) :=
  (xloop (fun r => f_Exposure_imageAt_6 o0 o1 r) (fun _ _ _ _ => none) 100000) v2 v3 (0 : Int32) (0 : Int32)
set_option maxHeartbeats 4000000 in
set_option maxRecDepth 100000 in
theorem c_Exposure_imageAt (l : Launch) (X : xG) {H : Heap} (h0 a0_0 a0_1 : Nat) (o0 : t_Exposure) (h1 a1_0 : Nat) (o1 : t_CellSet) (v2 : Int32) (v3 : Int32) {res : Int32} (hP0 : va_P X.1 vwCl (w_Exposure X h0 a0_0 a0_1 o0) H) (hP1 : va_P X.1 vwCl (w_CellSet X h1 a1_0 o1) H) (hf : f_Exposure_imageAt o0 o1 v2 v3 = some res) : xM l y_Exposure_imageAt (Cond.code y_Exposure_imageAt prog_4_method_3_code 6 (some .int) :: xT) ({ frames := 2, cells := 0, slots := 0, locals := 51 } : Room) (xK X) [.ref h0, .ref h1, .int v2, .int v3] H xNo (some (.int res)) (fun H1 => H1 = H) := by
  refine Met.ofW (cc := prog_4_method_3_code) (maxL := 6) (ret := (some .int)) (by decide) rfl ?_
  intro p e s m args below meth c s₁ B hml hv
  obtain ⟨ha, hH, hKK⟩ := hv
  subst hH
  have hx := B.exec
  have hb := B.bytes
  have hr := B.returns
  have ht : ∀ w ∈ xT, w.before args s = true := fun w h => atoms_spec (ws := (Cond.code y_Exposure_imageAt prog_4_method_3_code 6 (some .int) :: xT)) B.pre w (List.mem_cons_of_mem _ h)
  have hown : s.vm.findClass "MaskEdges$Exposure" = some m.cls := findClass_of_methodNamed B.named
  have hlocks := B.notSynchronized
  have hK := hKK.1
  rw [show entryFrame m args 6 = entryFrame m ([.ref h0, .ref h1, .int v2, .int v3] : List Value).toArray 6 from by rw [ha]]
  clear ha
  have hl := lv_entry ([.ref h0, .ref h1, .int v2, .int v3]) (n := 6) (Nat.le_of_ble_eq_true rfl)
  rw [lg_entry_eq]
  generalize (lg_sl ([.ref h0, .ref h1, .int v2, .int v3]) ++ List.replicate (6 - (lg_sl ([.ref h0, .ref h1, .int v2, .int v3])).length) Slot.unset).toArray = ls at hl ⊢
  replace hl : lv_has ls 6 [(0, .ref h0), (1, .ref h1), (2, .int v2), (3, .int v3)] := hl
  refine x_Q (fun Q hQ => ?_)
  have hL6 : ∀ (n : Nat), ∀ (v2 : Int32) (v3 : Int32) (v4 : Int32) (v5 : Int32), ∀ (ls : Array Slot), lv_has ls 6 [(0, .ref h0), (1, .ref h1), (2, .int v2), (3, .int v3), (4, .int v4), (5, .int v5)] → (xloop (fun r => f_Exposure_imageAt_6 o0 o1 r) (fun _ _ _ _ => none) n) v2 v3 v4 v5 = some res → W p l e (headSpec (Cond.code y_Exposure_imageAt prog_4_method_3_code 6 (some .int) :: xT) ({ frames := 2, cells := 0, slots := 0, locals := 51 } : Room)).room s m args below meth c s.heap [] 0 0 Q (F0 m 6 ls []) := by
    intro n
    induction n with
    | zero => intro v2 v3 v4 v5 ls hl hf; cases hf
    | succ n ih =>
      intro v2 v3 v4 v5 ls hl hf
      replace hf : f_Exposure_imageAt_6 o0 o1 (xloop (fun r => f_Exposure_imageAt_6 o0 o1 r) (fun _ _ _ _ => none) n) v2 v3 v4 v5 = some res := hf
      have hr6 := ih
      clear ih
      unfold f_Exposure_imageAt_6 at hf
      refine lv_iload hx hb d_Exposure_imageAt_6 (lv_at hl 5 rfl) ?_
      refine lv_aload_n hx hb d_Exposure_imageAt_8 rfl (lv_at hl 0 rfl) ?_
      refine va_get (D := X.1) (ci := 2) (v := .int (Exposure_kernels o0)) (C := "MaskEdges$Exposure") (T := F_Exposure) (N := 4) hx hb ht in_Exposure hown hK hP0 0 rfl rfl 2 (by decide) (ht _ xw_73) (fun _ h9 => h9) rfl d_Exposure_imageAt_9 ?_
      refine lv_icmp_ge (tgt := 47) hx hb d_Exposure_imageAt_12 (by decide) (fun hc => ?_) (fun hc => ?_)
      · replace hf := x_t hc hf
        refine lv_iload hx hb d_Exposure_imageAt_47 (lv_at hl 4 rfl) ?_
        replace hf := x_s hf
        subst hf
        subst hQ
        exact W.iret (v := v4) hx hb hr (fun t ht hW => ⟨⟨rfl, ht⟩, x_F0 ht⟩) x_l0 d_Exposure_imageAt_49
      · replace hf := x_f hc hf
        refine lv_iload hx hb d_Exposure_imageAt_15 (lv_at hl 4 rfl) ?_
        refine lv_aload_n hx hb d_Exposure_imageAt_17 rfl (lv_at hl 0 rfl) ?_
        refine va_get (D := X.1) (ci := 2) (v := .ref a0_0) (C := "MaskEdges$Exposure") (T := F_Exposure) (N := 4) hx hb ht in_Exposure hown hK hP0 0 rfl rfl 0 (by decide) (ht _ xw_71) (fun _ h9 => h9) rfl d_Exposure_imageAt_18 ?_
        refine lv_iload hx hb d_Exposure_imageAt_21 (lv_at hl 5 rfl) ?_
        obtain ⟨g23, hf⟩ := x_g hf
        refine va_iald hx hb hK hP0 1 0 rfl rfl (xin_in g23) d_Exposure_imageAt_23 ?_
        refine lv_aload_n hx hb d_Exposure_imageAt_24 rfl (lv_at hl 1 rfl) ?_
        refine lv_iload_n hx hb d_Exposure_imageAt_25 rfl (lv_at hl 2 rfl) ?_
        refine lv_iload_n hx hb d_Exposure_imageAt_26 rfl (lv_at hl 3 rfl) ?_
        refine lv_aload_n hx hb d_Exposure_imageAt_27 rfl (lv_at hl 0 rfl) ?_
        refine va_get (D := X.1) (ci := 2) (v := .ref a0_1) (C := "MaskEdges$Exposure") (T := F_Exposure) (N := 4) hx hb ht in_Exposure hown hK hP0 0 rfl rfl 1 (by decide) (ht _ xw_72) (fun _ h9 => h9) rfl d_Exposure_imageAt_28 ?_
        refine lv_iload hx hb d_Exposure_imageAt_31 (lv_at hl 5 rfl) ?_
        obtain ⟨g33, hf⟩ := x_g hf
        refine va_iald hx hb hK hP0 2 0 rfl rfl (xin_in g33) d_Exposure_imageAt_33 ?_
        obtain ⟨c34, e34, hf⟩ := x_b hf
        refine xcR (va_runV (As := [.int v2, .int v3, .int (Exposure_widths o0 v5.toNatClampNeg)]) (rest := [.int (Exposure_weights o0 v5.toNatClampNeg), .int v4]) ⟨hx, hb, hml, hown, ht⟩ (c_CellSet_countAround l X h1 a1_0 o1 v2 v3 (Exposure_widths o0 v5.toNatClampNeg) hP1 e34) (cwV 3 ht (xgV xw_321 xw_322 xw_323 xw_38 xw_324) rfl rfl rfl (by decide +kernel) ⟨Nat.le_of_ble_eq_true rfl, Nat.le_of_ble_eq_true rfl⟩) (xPV hKK (va_recv hK hP1 (ci := 1) (q0 := 0) rfl rfl)) rfl rfl hl.1 rfl (lv_room (Nat.le_of_ble_eq_true rfl)) d_Exposure_imageAt_34 ⟨Nat.zero_le _, Nat.zero_le _⟩) ?_
        refine W.eq (g2 := F0 m 37 ls [.int c34, .int (Exposure_weights o0 v5.toNatClampNeg), .int v4]) rfl ?_
        refine lv_imul hx hb d_Exposure_imageAt_37 ?_
        refine lv_iadd hx hb d_Exposure_imageAt_38 ?_
        refine lv_istore (lv' := [(4, .int (v4 + ((Exposure_weights o0 v5.toNatClampNeg) * c34))), (0, .ref h0), (1, .ref h1), (2, .int v2), (3, .int v3), (5, .int v5)]) hx hb d_Exposure_imageAt_39 hl (by decide) rfl (fun ls hl => ?_)
        refine lv_iinc (v := (v5 + (1 : Int32))) (lv' := [(5, .int (v5 + (1 : Int32))), (4, .int (v4 + ((Exposure_weights o0 v5.toNatClampNeg) * c34))), (0, .ref h0), (1, .ref h1), (2, .int v2), (3, .int v3)]) hx hb d_Exposure_imageAt_41 hl (k := 5) rfl rfl (by decide) rfl (fun ls hl => ?_)
        refine lv_goto (tgt := 6) hx hb d_Exposure_imageAt_44 (by decide) ?_
        exact hr6 v2 v3 (v4 + ((Exposure_weights o0 v5.toNatClampNeg) * c34)) (v5 + (1 : Int32))  ls (lv_sub hl [2, 3, 4, 5, 1, 0] rfl) hf
  unfold f_Exposure_imageAt at hf
  refine lv_iconst (v := (0 : Int32)) hx hb d_Exposure_imageAt_0 (by decide) ?_
  refine lv_istore (lv' := [(4, .int (0 : Int32)), (0, .ref h0), (1, .ref h1), (2, .int v2), (3, .int v3)]) hx hb d_Exposure_imageAt_1 hl (by decide) rfl (fun ls hl => ?_)
  refine lv_iconst (v := (0 : Int32)) hx hb d_Exposure_imageAt_3 (by decide) ?_
  refine lv_istore (lv' := [(5, .int (0 : Int32)), (4, .int (0 : Int32)), (0, .ref h0), (1, .ref h1), (2, .int v2), (3, .int v3)]) hx hb d_Exposure_imageAt_4 hl (by decide) rfl (fun ls hl => ?_)
  exact (hL6 100000) v2 v3 (0 : Int32) (0 : Int32)  ls (lv_sub hl [2, 3, 4, 5, 1, 0] rfl) hf
def f_Exposure_printsAt (o0 : t_Exposure) (o1 : t_CellSet) (v2 : Int32) (v3 : Int32) (v4 : Int32) : Option (Int32) :=
  (f_MaskEdges_onGrid v2 v3).bind fun c2 =>
  if c2 = 0 then
  some (0 : Int32)
else
  (f_Exposure_imageAt o0 o1 v2 v3).bind fun c12 =>
    if (c12 * v4) < ((100 : Int32) * (Exposure_threshold o0)) then
    some (0 : Int32)
  else
    some (1 : Int32)
set_option maxHeartbeats 4000000 in
set_option maxRecDepth 100000 in
theorem c_Exposure_printsAt (l : Launch) (X : xG) {H : Heap} (h0 a0_0 a0_1 : Nat) (o0 : t_Exposure) (h1 a1_0 : Nat) (o1 : t_CellSet) (v2 : Int32) (v3 : Int32) (v4 : Int32) {res : Int32} (hP0 : va_P X.1 vwCl (w_Exposure X h0 a0_0 a0_1 o0) H) (hP1 : va_P X.1 vwCl (w_CellSet X h1 a1_0 o1) H) (hf : f_Exposure_printsAt o0 o1 v2 v3 v4 = some res) : xM l y_Exposure_printsAt (Cond.code y_Exposure_printsAt prog_4_method_4_code 5 (some .boolean) :: xT) ({ frames := 3, cells := 0, slots := 0, locals := 76 } : Room) (xK X) [.ref h0, .ref h1, .int v2, .int v3, .int v4] H xNo (some (.int res)) (fun H1 => H1 = H) := by
  refine Met.ofW (cc := prog_4_method_4_code) (maxL := 5) (ret := (some .boolean)) (by decide) rfl ?_
  intro p e s m args below meth c s₁ B hml hv
  obtain ⟨ha, hH, hKK⟩ := hv
  subst hH
  have hx := B.exec
  have hb := B.bytes
  have hr := B.returns
  have ht : ∀ w ∈ xT, w.before args s = true := fun w h => atoms_spec (ws := (Cond.code y_Exposure_printsAt prog_4_method_4_code 5 (some .boolean) :: xT)) B.pre w (List.mem_cons_of_mem _ h)
  have hown : s.vm.findClass "MaskEdges$Exposure" = some m.cls := findClass_of_methodNamed B.named
  have hlocks := B.notSynchronized
  have hK := hKK.1
  rw [show entryFrame m args 5 = entryFrame m ([.ref h0, .ref h1, .int v2, .int v3, .int v4] : List Value).toArray 5 from by rw [ha]]
  clear ha
  have hl := lv_entry ([.ref h0, .ref h1, .int v2, .int v3, .int v4]) (n := 5) (Nat.le_of_ble_eq_true rfl)
  rw [lg_entry_eq]
  generalize (lg_sl ([.ref h0, .ref h1, .int v2, .int v3, .int v4]) ++ List.replicate (5 - (lg_sl ([.ref h0, .ref h1, .int v2, .int v3, .int v4])).length) Slot.unset).toArray = ls at hl ⊢
  replace hl : lv_has ls 5 [(0, .ref h0), (1, .ref h1), (2, .int v2), (3, .int v3), (4, .int v4)] := hl
  refine x_Q (fun Q hQ => ?_)
  unfold f_Exposure_printsAt at hf
  refine lv_iload_n hx hb d_Exposure_printsAt_0 rfl (lv_at hl 2 rfl) ?_
  refine lv_iload_n hx hb d_Exposure_printsAt_1 rfl (lv_at hl 3 rfl) ?_
  obtain ⟨c2, e2, hf⟩ := x_b hf
  refine xcR (va_runSN (As := [.int v2, .int v3]) (rest := []) ⟨hx, hb, hml, hown, ht⟩ (c_MaskEdges_onGrid l X v2 v3 e2) ⟨va_cnB 2 ht (xgC xw_225) rfl rfl rfl (hKK.2 _ xn_7) (ht _ xw_37) (by decide +kernel) ⟨Nat.le_of_ble_eq_true rfl, Nat.le_of_ble_eq_true rfl⟩, ht _ xw_224, trivial⟩ (xPS hKK) rfl rfl hl.1 rfl (lv_room (Nat.le_of_ble_eq_true rfl)) d_Exposure_printsAt_2 ⟨Nat.zero_le _, Nat.zero_le _⟩) ?_
  refine W.eq (g2 := F0 m 5 ls [.int c2]) rfl ?_
  refine lv_if_eq (tgt := 32) hx hb d_Exposure_printsAt_5 (by decide) (fun hc => ?_) (fun hc => ?_)
  · replace hf := x_t hc hf
    refine lv_iconst (v := (0 : Int32)) hx hb d_Exposure_printsAt_32 (by decide) ?_
    replace hf := x_s hf
    subst hf
    subst hQ
    exact W.zret (v := (0 : Int32)) hx hb hr (xz_n (by decide)) (fun t ht hW => ⟨⟨rfl, ht⟩, x_F0 ht⟩) x_l0 d_Exposure_printsAt_33
  · replace hf := x_f hc hf
    refine lv_aload_n hx hb d_Exposure_printsAt_8 rfl (lv_at hl 0 rfl) ?_
    refine lv_aload_n hx hb d_Exposure_printsAt_9 rfl (lv_at hl 1 rfl) ?_
    refine lv_iload_n hx hb d_Exposure_printsAt_10 rfl (lv_at hl 2 rfl) ?_
    refine lv_iload_n hx hb d_Exposure_printsAt_11 rfl (lv_at hl 3 rfl) ?_
    obtain ⟨c12, e12, hf⟩ := x_b hf
    refine xcR (va_runV (As := [.ref h1, .int v2, .int v3]) (rest := []) ⟨hx, hb, hml, hown, ht⟩ (c_Exposure_imageAt l X h0 a0_0 a0_1 o0 h1 a1_0 o1 v2 v3 hP0 hP1 e12) (cwV 3 ht (xgV xw_349 xw_318 xw_319 xw_39 xw_320) rfl rfl rfl (by decide +kernel) ⟨Nat.le_of_ble_eq_true rfl, Nat.le_of_ble_eq_true rfl⟩) (xPV hKK (va_recv hK hP0 (ci := 2) (q0 := 0) rfl rfl)) rfl rfl hl.1 rfl (lv_room (Nat.le_of_ble_eq_true rfl)) d_Exposure_printsAt_12 ⟨Nat.zero_le _, Nat.zero_le _⟩) ?_
    refine W.eq (g2 := F0 m 15 ls [.int c12]) rfl ?_
    refine lv_iload hx hb d_Exposure_printsAt_15 (lv_at hl 4 rfl) ?_
    refine lv_imul hx hb d_Exposure_printsAt_17 ?_
    refine lv_bipush (v := (100 : Int32)) hx hb d_Exposure_printsAt_18 (by decide) ?_
    refine lv_aload_n hx hb d_Exposure_printsAt_20 rfl (lv_at hl 0 rfl) ?_
    refine va_get (D := X.1) (ci := 2) (v := .int (Exposure_threshold o0)) (C := "MaskEdges$Exposure") (T := F_Exposure) (N := 4) hx hb ht in_Exposure hown hK hP0 0 rfl rfl 3 (by decide) (ht _ xw_74) (fun _ h9 => h9) rfl d_Exposure_printsAt_21 ?_
    refine lv_imul hx hb d_Exposure_printsAt_24 ?_
    refine lv_icmp_lt (tgt := 32) hx hb d_Exposure_printsAt_25 (by decide) (fun hc => ?_) (fun hc => ?_)
    · replace hf := x_t hc hf
      refine lv_iconst (v := (0 : Int32)) hx hb d_Exposure_printsAt_32 (by decide) ?_
      replace hf := x_s hf
      subst hf
      subst hQ
      exact W.zret (v := (0 : Int32)) hx hb hr (xz_n (by decide)) (fun t ht hW => ⟨⟨rfl, ht⟩, x_F0 ht⟩) x_l0 d_Exposure_printsAt_33
    · replace hf := x_f hc hf
      refine lv_iconst (v := (1 : Int32)) hx hb d_Exposure_printsAt_28 (by decide) ?_
      refine lv_goto (tgt := 33) hx hb d_Exposure_printsAt_29 (by decide) ?_
      replace hf := x_s hf
      subst hf
      subst hQ
      exact W.zret (v := (1 : Int32)) hx hb hr (xz_n (by decide)) (fun t ht hW => ⟨⟨rfl, ht⟩, x_F0 ht⟩) x_l0 d_Exposure_printsAt_33
end
section
def f_Piece_isFlat (o0 : t_Piece) : Option (Int32) :=
  if (Piece_outward o0) = 0 then
  some (1 : Int32)
else
  some (0 : Int32)
set_option maxHeartbeats 4000000 in
set_option maxRecDepth 100000 in
theorem c_Piece_isFlat (l : Launch) (X : xG) {H : Heap} (h0 : Nat) (o0 : t_Piece) {res : Int32} (hP0 : va_P X.1 vwCl (w_Piece X h0 o0) H) (hf : f_Piece_isFlat o0 = some res) : xM l y_Piece_isFlat (Cond.code y_Piece_isFlat prog_6_method_5_code 1 (some .boolean) :: xT) ({ frames := 0, cells := 0, slots := 0, locals := 0 } : Room) (xK X) [.ref h0] H xNo (some (.int res)) (fun H1 => H1 = H) := by
  refine Met.ofW (cc := prog_6_method_5_code) (maxL := 1) (ret := (some .boolean)) (by decide) rfl ?_
  intro p e s m args below meth c s₁ B hml hv
  obtain ⟨ha, hH, hKK⟩ := hv
  subst hH
  have hx := B.exec
  have hb := B.bytes
  have hr := B.returns
  have ht : ∀ w ∈ xT, w.before args s = true := fun w h => atoms_spec (ws := (Cond.code y_Piece_isFlat prog_6_method_5_code 1 (some .boolean) :: xT)) B.pre w (List.mem_cons_of_mem _ h)
  have hown : s.vm.findClass "MaskEdges$Piece" = some m.cls := findClass_of_methodNamed B.named
  have hlocks := B.notSynchronized
  have hK := hKK.1
  rw [show entryFrame m args 1 = entryFrame m ([.ref h0] : List Value).toArray 1 from by rw [ha]]
  clear ha
  have hl := lv_entry ([.ref h0]) (n := 1) (Nat.le_of_ble_eq_true rfl)
  rw [lg_entry_eq]
  generalize (lg_sl ([.ref h0]) ++ List.replicate (1 - (lg_sl ([.ref h0])).length) Slot.unset).toArray = ls at hl ⊢
  replace hl : lv_has ls 1 [(0, .ref h0)] := hl
  refine x_Q (fun Q hQ => ?_)
  unfold f_Piece_isFlat at hf
  refine lv_aload_n hx hb d_Piece_isFlat_0 rfl (lv_at hl 0 rfl) ?_
  refine va_get (D := X.1) (ci := 4) (v := .int (Piece_outward o0)) (C := "MaskEdges$Piece") (T := F_Piece) (N := 12) hx hb ht in_Piece hown hK hP0 0 rfl rfl 8 (by decide) (ht _ xw_135) (fun _ h9 => h9) rfl d_Piece_isFlat_1 ?_
  refine lv_if_ne (tgt := 11) hx hb d_Piece_isFlat_4 (by decide) (fun hc => ?_) (fun hc => ?_)
  · replace hf := x_f hc hf
    refine lv_iconst (v := (0 : Int32)) hx hb d_Piece_isFlat_11 (by decide) ?_
    replace hf := x_s hf
    subst hf
    subst hQ
    exact W.zret (v := (0 : Int32)) hx hb hr (xz_n (by decide)) (fun t ht hW => ⟨⟨rfl, ht⟩, x_F0 ht⟩) x_l0 d_Piece_isFlat_12
  · replace hf := x_t hc hf
    refine lv_iconst (v := (1 : Int32)) hx hb d_Piece_isFlat_7 (by decide) ?_
    refine lv_goto (tgt := 12) hx hb d_Piece_isFlat_8 (by decide) ?_
    replace hf := x_s hf
    subst hf
    subst hQ
    exact W.zret (v := (1 : Int32)) hx hb hr (xz_n (by decide)) (fun t ht hW => ⟨⟨rfl, ht⟩, x_F0 ht⟩) x_l0 d_Piece_isFlat_12
def f_Piece_facesLike (o0 : t_Piece) (o1 : t_Piece) : Option (Int32) :=
  if (Piece_alongX o0) = (Piece_alongX o1) then
  if (Piece_outward o0) = (Piece_outward o1) then
    some (1 : Int32)
  else
    some (0 : Int32)
else
  some (0 : Int32)
set_option maxHeartbeats 4000000 in
set_option maxRecDepth 100000 in
theorem c_Piece_facesLike (l : Launch) (X : xG) {H : Heap} (h0 : Nat) (o0 : t_Piece) (h1 : Nat) (o1 : t_Piece) {res : Int32} (hP0 : va_P X.1 vwCl (w_Piece X h0 o0) H) (hP1 : va_P X.1 vwCl (w_Piece X h1 o1) H) (hf : f_Piece_facesLike o0 o1 = some res) : xM l y_Piece_facesLike (Cond.code y_Piece_facesLike prog_6_method_6_code 2 (some .boolean) :: xT) ({ frames := 0, cells := 0, slots := 0, locals := 0 } : Room) (xK X) [.ref h0, .ref h1] H xNo (some (.int res)) (fun H1 => H1 = H) := by
  refine Met.ofW (cc := prog_6_method_6_code) (maxL := 2) (ret := (some .boolean)) (by decide) rfl ?_
  intro p e s m args below meth c s₁ B hml hv
  obtain ⟨ha, hH, hKK⟩ := hv
  subst hH
  have hx := B.exec
  have hb := B.bytes
  have hr := B.returns
  have ht : ∀ w ∈ xT, w.before args s = true := fun w h => atoms_spec (ws := (Cond.code y_Piece_facesLike prog_6_method_6_code 2 (some .boolean) :: xT)) B.pre w (List.mem_cons_of_mem _ h)
  have hown : s.vm.findClass "MaskEdges$Piece" = some m.cls := findClass_of_methodNamed B.named
  have hlocks := B.notSynchronized
  have hK := hKK.1
  rw [show entryFrame m args 2 = entryFrame m ([.ref h0, .ref h1] : List Value).toArray 2 from by rw [ha]]
  clear ha
  have hl := lv_entry ([.ref h0, .ref h1]) (n := 2) (Nat.le_of_ble_eq_true rfl)
  rw [lg_entry_eq]
  generalize (lg_sl ([.ref h0, .ref h1]) ++ List.replicate (2 - (lg_sl ([.ref h0, .ref h1])).length) Slot.unset).toArray = ls at hl ⊢
  replace hl : lv_has ls 2 [(0, .ref h0), (1, .ref h1)] := hl
  refine x_Q (fun Q hQ => ?_)
  unfold f_Piece_facesLike at hf
  refine lv_aload_n hx hb d_Piece_facesLike_0 rfl (lv_at hl 0 rfl) ?_
  refine va_get (D := X.1) (ci := 4) (v := .int (Piece_alongX o0)) (C := "MaskEdges$Piece") (T := F_Piece) (N := 12) hx hb ht in_Piece hown hK hP0 0 rfl rfl 0 (by decide) (ht _ xw_120) (fun _ h9 => h9) rfl d_Piece_facesLike_1 ?_
  refine lv_aload_n hx hb d_Piece_facesLike_4 rfl (lv_at hl 1 rfl) ?_
  refine va_get (D := X.1) (ci := 4) (v := .int (Piece_alongX o1)) (C := "MaskEdges$Piece") (T := F_Piece) (N := 12) hx hb ht in_Piece hown hK hP1 0 rfl rfl 0 (by decide) (ht _ xw_120) (fun _ h9 => h9) rfl d_Piece_facesLike_5 ?_
  refine lv_icmp_ne (tgt := 26) hx hb d_Piece_facesLike_8 (by decide) (fun hc => ?_) (fun hc => ?_)
  · replace hf := x_f hc hf
    refine lv_iconst (v := (0 : Int32)) hx hb d_Piece_facesLike_26 (by decide) ?_
    replace hf := x_s hf
    subst hf
    subst hQ
    exact W.zret (v := (0 : Int32)) hx hb hr (xz_n (by decide)) (fun t ht hW => ⟨⟨rfl, ht⟩, x_F0 ht⟩) x_l0 d_Piece_facesLike_27
  · replace hf := x_t hc hf
    refine lv_aload_n hx hb d_Piece_facesLike_11 rfl (lv_at hl 0 rfl) ?_
    refine va_get (D := X.1) (ci := 4) (v := .int (Piece_outward o0)) (C := "MaskEdges$Piece") (T := F_Piece) (N := 12) hx hb ht in_Piece hown hK hP0 0 rfl rfl 8 (by decide) (ht _ xw_135) (fun _ h9 => h9) rfl d_Piece_facesLike_12 ?_
    refine lv_aload_n hx hb d_Piece_facesLike_15 rfl (lv_at hl 1 rfl) ?_
    refine va_get (D := X.1) (ci := 4) (v := .int (Piece_outward o1)) (C := "MaskEdges$Piece") (T := F_Piece) (N := 12) hx hb ht in_Piece hown hK hP1 0 rfl rfl 8 (by decide) (ht _ xw_135) (fun _ h9 => h9) rfl d_Piece_facesLike_16 ?_
    refine lv_icmp_ne (tgt := 26) hx hb d_Piece_facesLike_19 (by decide) (fun hc => ?_) (fun hc => ?_)
    · replace hf := x_f hc hf
      refine lv_iconst (v := (0 : Int32)) hx hb d_Piece_facesLike_26 (by decide) ?_
      replace hf := x_s hf
      subst hf
      subst hQ
      exact W.zret (v := (0 : Int32)) hx hb hr (xz_n (by decide)) (fun t ht hW => ⟨⟨rfl, ht⟩, x_F0 ht⟩) x_l0 d_Piece_facesLike_27
    · replace hf := x_t hc hf
      refine lv_iconst (v := (1 : Int32)) hx hb d_Piece_facesLike_22 (by decide) ?_
      refine lv_goto (tgt := 27) hx hb d_Piece_facesLike_23 (by decide) ?_
      replace hf := x_s hf
      subst hf
      subst hQ
      exact W.zret (v := (1 : Int32)) hx hb hr (xz_n (by decide)) (fun t ht hW => ⟨⟨rfl, ht⟩, x_F0 ht⟩) x_l0 d_Piece_facesLike_27
def f_Piece_mayHaveBar (o0 : t_Piece) : Option (Int32) :=
  if (Piece_first o0) = 0 then
  some (0 : Int32)
else
  (f_Piece_isFlat o0).bind fun c8 =>
    if c8 = 0 then
    if ((Piece_sideHigh o0) - (Piece_sideLow o0)) < (6 : Int32) then
      some (0 : Int32)
    else
      some (1 : Int32)
  else
    some (0 : Int32)
set_option maxHeartbeats 4000000 in
set_option maxRecDepth 100000 in
theorem c_Piece_mayHaveBar (l : Launch) (X : xG) {H : Heap} (h0 : Nat) (o0 : t_Piece) {res : Int32} (hP0 : va_P X.1 vwCl (w_Piece X h0 o0) H) (hf : f_Piece_mayHaveBar o0 = some res) : xM l y_Piece_mayHaveBar (Cond.code y_Piece_mayHaveBar prog_6_method_7_code 1 (some .boolean) :: xT) ({ frames := 1, cells := 0, slots := 0, locals := 20 } : Room) (xK X) [.ref h0] H xNo (some (.int res)) (fun H1 => H1 = H) := by
  refine Met.ofW (cc := prog_6_method_7_code) (maxL := 1) (ret := (some .boolean)) (by decide) rfl ?_
  intro p e s m args below meth c s₁ B hml hv
  obtain ⟨ha, hH, hKK⟩ := hv
  subst hH
  have hx := B.exec
  have hb := B.bytes
  have hr := B.returns
  have ht : ∀ w ∈ xT, w.before args s = true := fun w h => atoms_spec (ws := (Cond.code y_Piece_mayHaveBar prog_6_method_7_code 1 (some .boolean) :: xT)) B.pre w (List.mem_cons_of_mem _ h)
  have hown : s.vm.findClass "MaskEdges$Piece" = some m.cls := findClass_of_methodNamed B.named
  have hlocks := B.notSynchronized
  have hK := hKK.1
  rw [show entryFrame m args 1 = entryFrame m ([.ref h0] : List Value).toArray 1 from by rw [ha]]
  clear ha
  have hl := lv_entry ([.ref h0]) (n := 1) (Nat.le_of_ble_eq_true rfl)
  rw [lg_entry_eq]
  generalize (lg_sl ([.ref h0]) ++ List.replicate (1 - (lg_sl ([.ref h0])).length) Slot.unset).toArray = ls at hl ⊢
  replace hl : lv_has ls 1 [(0, .ref h0)] := hl
  refine x_Q (fun Q hQ => ?_)
  unfold f_Piece_mayHaveBar at hf
  refine lv_aload_n hx hb d_Piece_mayHaveBar_0 rfl (lv_at hl 0 rfl) ?_
  refine va_get (D := X.1) (ci := 4) (v := .int (Piece_first o0)) (C := "MaskEdges$Piece") (T := F_Piece) (N := 12) hx hb ht in_Piece hown hK hP0 0 rfl rfl 6 (by decide) (ht _ xw_133) (fun _ h9 => h9) rfl d_Piece_mayHaveBar_1 ?_
  refine lv_if_eq (tgt := 32) hx hb d_Piece_mayHaveBar_4 (by decide) (fun hc => ?_) (fun hc => ?_)
  · replace hf := x_t hc hf
    refine lv_iconst (v := (0 : Int32)) hx hb d_Piece_mayHaveBar_32 (by decide) ?_
    replace hf := x_s hf
    subst hf
    subst hQ
    exact W.zret (v := (0 : Int32)) hx hb hr (xz_n (by decide)) (fun t ht hW => ⟨⟨rfl, ht⟩, x_F0 ht⟩) x_l0 d_Piece_mayHaveBar_33
  · replace hf := x_f hc hf
    refine lv_aload_n hx hb d_Piece_mayHaveBar_7 rfl (lv_at hl 0 rfl) ?_
    obtain ⟨c8, e8, hf⟩ := x_b hf
    refine xcR (va_runV (As := []) (rest := []) ⟨hx, hb, hml, hown, ht⟩ (c_Piece_isFlat l X h0 o0 hP0 e8) (cwV 0 ht (xgV xw_371 xw_342 xw_343 xw_42 xw_344) rfl rfl rfl (by decide +kernel) ⟨Nat.le_of_ble_eq_true rfl, Nat.le_of_ble_eq_true rfl⟩) (xPV hKK (va_recv hK hP0 (ci := 4) (q0 := 0) rfl rfl)) rfl rfl hl.1 rfl (lv_room (Nat.le_of_ble_eq_true rfl)) d_Piece_mayHaveBar_8 ⟨Nat.zero_le _, Nat.zero_le _⟩) ?_
    refine W.eq (g2 := F0 m 11 ls [.int c8]) rfl ?_
    refine lv_if_ne (tgt := 32) hx hb d_Piece_mayHaveBar_11 (by decide) (fun hc => ?_) (fun hc => ?_)
    · replace hf := x_f hc hf
      refine lv_iconst (v := (0 : Int32)) hx hb d_Piece_mayHaveBar_32 (by decide) ?_
      replace hf := x_s hf
      subst hf
      subst hQ
      exact W.zret (v := (0 : Int32)) hx hb hr (xz_n (by decide)) (fun t ht hW => ⟨⟨rfl, ht⟩, x_F0 ht⟩) x_l0 d_Piece_mayHaveBar_33
    · replace hf := x_t hc hf
      refine lv_aload_n hx hb d_Piece_mayHaveBar_14 rfl (lv_at hl 0 rfl) ?_
      refine va_get (D := X.1) (ci := 4) (v := .int (Piece_sideHigh o0)) (C := "MaskEdges$Piece") (T := F_Piece) (N := 12) hx hb ht in_Piece hown hK hP0 0 rfl rfl 5 (by decide) (ht _ xw_131) (fun _ h9 => h9) rfl d_Piece_mayHaveBar_15 ?_
      refine lv_aload_n hx hb d_Piece_mayHaveBar_18 rfl (lv_at hl 0 rfl) ?_
      refine va_get (D := X.1) (ci := 4) (v := .int (Piece_sideLow o0)) (C := "MaskEdges$Piece") (T := F_Piece) (N := 12) hx hb ht in_Piece hown hK hP0 0 rfl rfl 4 (by decide) (ht _ xw_129) (fun _ h9 => h9) rfl d_Piece_mayHaveBar_19 ?_
      refine lv_isub hx hb d_Piece_mayHaveBar_22 ?_
      refine lv_bipush (v := (6 : Int32)) hx hb d_Piece_mayHaveBar_23 (by decide) ?_
      refine lv_icmp_lt (tgt := 32) hx hb d_Piece_mayHaveBar_25 (by decide) (fun hc => ?_) (fun hc => ?_)
      · replace hf := x_t hc hf
        refine lv_iconst (v := (0 : Int32)) hx hb d_Piece_mayHaveBar_32 (by decide) ?_
        replace hf := x_s hf
        subst hf
        subst hQ
        exact W.zret (v := (0 : Int32)) hx hb hr (xz_n (by decide)) (fun t ht hW => ⟨⟨rfl, ht⟩, x_F0 ht⟩) x_l0 d_Piece_mayHaveBar_33
      · replace hf := x_f hc hf
        refine lv_iconst (v := (1 : Int32)) hx hb d_Piece_mayHaveBar_28 (by decide) ?_
        refine lv_goto (tgt := 33) hx hb d_Piece_mayHaveBar_29 (by decide) ?_
        replace hf := x_s hf
        subst hf
        subst hQ
        exact W.zret (v := (1 : Int32)) hx hb hr (xz_n (by decide)) (fun t ht hW => ⟨⟨rfl, ht⟩, x_F0 ht⟩) x_l0 d_Piece_mayHaveBar_33
def f_Piece_fitsRule (o0 : t_Piece) (v1 : Int32) : Option (Int32) :=
  if v1 = (0 : Int32) then
  some (1 : Int32)
else
  if v1 = (1 : Int32) then
    if xz (Piece_alongX o0) = true then
      some (Piece_alongX o0)
    else none
  else
    if v1 = (2 : Int32) then
      if (Piece_alongX o0) = 0 then
        some (1 : Int32)
      else
        some (0 : Int32)
    else
      if v1 = (3 : Int32) then
        if (Piece_first o0) = 0 then
          if (Piece_last o0) = 0 then
            some (0 : Int32)
          else
            some (1 : Int32)
        else
          some (1 : Int32)
      else
        some (0 : Int32)
set_option maxHeartbeats 4000000 in
set_option maxRecDepth 100000 in
theorem c_Piece_fitsRule (l : Launch) (X : xG) {H : Heap} (h0 : Nat) (o0 : t_Piece) (v1 : Int32) {res : Int32} (hP0 : va_P X.1 vwCl (w_Piece X h0 o0) H) (hf : f_Piece_fitsRule o0 v1 = some res) : xM l y_Piece_fitsRule (Cond.code y_Piece_fitsRule prog_6_method_8_code 2 (some .boolean) :: xT) ({ frames := 0, cells := 0, slots := 0, locals := 0 } : Room) (xK X) [.ref h0, .int v1] H xNo (some (.int res)) (fun H1 => H1 = H) := by
  refine Met.ofW (cc := prog_6_method_8_code) (maxL := 2) (ret := (some .boolean)) (by decide) rfl ?_
  intro p e s m args below meth c s₁ B hml hv
  obtain ⟨ha, hH, hKK⟩ := hv
  subst hH
  have hx := B.exec
  have hb := B.bytes
  have hr := B.returns
  have ht : ∀ w ∈ xT, w.before args s = true := fun w h => atoms_spec (ws := (Cond.code y_Piece_fitsRule prog_6_method_8_code 2 (some .boolean) :: xT)) B.pre w (List.mem_cons_of_mem _ h)
  have hown : s.vm.findClass "MaskEdges$Piece" = some m.cls := findClass_of_methodNamed B.named
  have hlocks := B.notSynchronized
  have hK := hKK.1
  rw [show entryFrame m args 2 = entryFrame m ([.ref h0, .int v1] : List Value).toArray 2 from by rw [ha]]
  clear ha
  have hl := lv_entry ([.ref h0, .int v1]) (n := 2) (Nat.le_of_ble_eq_true rfl)
  rw [lg_entry_eq]
  generalize (lg_sl ([.ref h0, .int v1]) ++ List.replicate (2 - (lg_sl ([.ref h0, .int v1])).length) Slot.unset).toArray = ls at hl ⊢
  replace hl : lv_has ls 2 [(0, .ref h0), (1, .int v1)] := hl
  refine x_Q (fun Q hQ => ?_)
  unfold f_Piece_fitsRule at hf
  refine lv_iload_n hx hb d_Piece_fitsRule_0 rfl (lv_at hl 1 rfl) ?_
  by_cases c1 : v1 = (0 : Int32)
  · replace hf := x_t c1 hf
    refine lv_tableIn (x := v1) (off := 31) (tgt := 32) hx hb d_Piece_fitsRule_1 (by rw [c1]; decide) (by rw [c1]; decide) (by rw [c1]; decide +kernel) (by decide) ?_
    refine lv_iconst (v := (1 : Int32)) hx hb d_Piece_fitsRule_32 (by decide) ?_
    replace hf := x_s hf
    subst hf
    subst hQ
    exact W.zret (v := (1 : Int32)) hx hb hr (xz_n (by decide)) (fun t ht hW => ⟨⟨rfl, ht⟩, x_F0 ht⟩) x_l0 d_Piece_fitsRule_33
  replace hf := x_f c1 hf
  have n1_0 := c1
  clear c1
  by_cases c1 : v1 = (1 : Int32)
  · replace hf := x_t c1 hf
    refine lv_tableIn (x := v1) (off := 33) (tgt := 34) hx hb d_Piece_fitsRule_1 (by rw [c1]; decide) (by rw [c1]; decide) (by rw [c1]; decide +kernel) (by decide) ?_
    refine lv_aload_n hx hb d_Piece_fitsRule_34 rfl (lv_at hl 0 rfl) ?_
    refine va_get (D := X.1) (ci := 4) (v := .int (Piece_alongX o0)) (C := "MaskEdges$Piece") (T := F_Piece) (N := 12) hx hb ht in_Piece hown hK hP0 0 rfl rfl 0 (by decide) (ht _ xw_120) (fun _ h9 => h9) rfl d_Piece_fitsRule_35 ?_
    obtain ⟨zr, hf⟩ := x_g hf
    replace hf := x_s hf
    subst hf
    subst hQ
    exact W.zret (v := (Piece_alongX o0)) hx hb hr (xz_n zr) (fun t ht hW => ⟨⟨rfl, ht⟩, x_F0 ht⟩) x_l0 d_Piece_fitsRule_38
  replace hf := x_f c1 hf
  have n1_1 := c1
  clear c1
  by_cases c1 : v1 = (2 : Int32)
  · replace hf := x_t c1 hf
    refine lv_tableIn (x := v1) (off := 38) (tgt := 39) hx hb d_Piece_fitsRule_1 (by rw [c1]; decide) (by rw [c1]; decide) (by rw [c1]; decide +kernel) (by decide) ?_
    refine lv_aload_n hx hb d_Piece_fitsRule_39 rfl (lv_at hl 0 rfl) ?_
    refine va_get (D := X.1) (ci := 4) (v := .int (Piece_alongX o0)) (C := "MaskEdges$Piece") (T := F_Piece) (N := 12) hx hb ht in_Piece hown hK hP0 0 rfl rfl 0 (by decide) (ht _ xw_120) (fun _ h9 => h9) rfl d_Piece_fitsRule_40 ?_
    refine lv_if_ne (tgt := 50) hx hb d_Piece_fitsRule_43 (by decide) (fun hc => ?_) (fun hc => ?_)
    · replace hf := x_f hc hf
      refine lv_iconst (v := (0 : Int32)) hx hb d_Piece_fitsRule_50 (by decide) ?_
      replace hf := x_s hf
      subst hf
      subst hQ
      exact W.zret (v := (0 : Int32)) hx hb hr (xz_n (by decide)) (fun t ht hW => ⟨⟨rfl, ht⟩, x_F0 ht⟩) x_l0 d_Piece_fitsRule_51
    · replace hf := x_t hc hf
      refine lv_iconst (v := (1 : Int32)) hx hb d_Piece_fitsRule_46 (by decide) ?_
      refine lv_goto (tgt := 51) hx hb d_Piece_fitsRule_47 (by decide) ?_
      replace hf := x_s hf
      subst hf
      subst hQ
      exact W.zret (v := (1 : Int32)) hx hb hr (xz_n (by decide)) (fun t ht hW => ⟨⟨rfl, ht⟩, x_F0 ht⟩) x_l0 d_Piece_fitsRule_51
  replace hf := x_f c1 hf
  have n1_2 := c1
  clear c1
  by_cases c1 : v1 = (3 : Int32)
  · replace hf := x_t c1 hf
    refine lv_tableIn (x := v1) (off := 51) (tgt := 52) hx hb d_Piece_fitsRule_1 (by rw [c1]; decide) (by rw [c1]; decide) (by rw [c1]; decide +kernel) (by decide) ?_
    refine lv_aload_n hx hb d_Piece_fitsRule_52 rfl (lv_at hl 0 rfl) ?_
    refine va_get (D := X.1) (ci := 4) (v := .int (Piece_first o0)) (C := "MaskEdges$Piece") (T := F_Piece) (N := 12) hx hb ht in_Piece hown hK hP0 0 rfl rfl 6 (by decide) (ht _ xw_133) (fun _ h9 => h9) rfl d_Piece_fitsRule_53 ?_
    refine lv_if_ne (tgt := 66) hx hb d_Piece_fitsRule_56 (by decide) (fun hc => ?_) (fun hc => ?_)
    · replace hf := x_f hc hf
      refine lv_iconst (v := (1 : Int32)) hx hb d_Piece_fitsRule_66 (by decide) ?_
      refine lv_goto (tgt := 71) hx hb d_Piece_fitsRule_67 (by decide) ?_
      replace hf := x_s hf
      subst hf
      subst hQ
      exact W.zret (v := (1 : Int32)) hx hb hr (xz_n (by decide)) (fun t ht hW => ⟨⟨rfl, ht⟩, x_F0 ht⟩) x_l0 d_Piece_fitsRule_71
    · replace hf := x_t hc hf
      refine lv_aload_n hx hb d_Piece_fitsRule_59 rfl (lv_at hl 0 rfl) ?_
      refine va_get (D := X.1) (ci := 4) (v := .int (Piece_last o0)) (C := "MaskEdges$Piece") (T := F_Piece) (N := 12) hx hb ht in_Piece hown hK hP0 0 rfl rfl 7 (by decide) (ht _ xw_134) (fun _ h9 => h9) rfl d_Piece_fitsRule_60 ?_
      refine lv_if_eq (tgt := 70) hx hb d_Piece_fitsRule_63 (by decide) (fun hc => ?_) (fun hc => ?_)
      · replace hf := x_t hc hf
        refine lv_iconst (v := (0 : Int32)) hx hb d_Piece_fitsRule_70 (by decide) ?_
        replace hf := x_s hf
        subst hf
        subst hQ
        exact W.zret (v := (0 : Int32)) hx hb hr (xz_n (by decide)) (fun t ht hW => ⟨⟨rfl, ht⟩, x_F0 ht⟩) x_l0 d_Piece_fitsRule_71
      · replace hf := x_f hc hf
        refine lv_iconst (v := (1 : Int32)) hx hb d_Piece_fitsRule_66 (by decide) ?_
        refine lv_goto (tgt := 71) hx hb d_Piece_fitsRule_67 (by decide) ?_
        replace hf := x_s hf
        subst hf
        subst hQ
        exact W.zret (v := (1 : Int32)) hx hb hr (xz_n (by decide)) (fun t ht hW => ⟨⟨rfl, ht⟩, x_F0 ht⟩) x_l0 d_Piece_fitsRule_71
  replace hf := x_f c1 hf
  have n1_3 := c1
  clear c1
  refine lv_tableOut (x := v1) (tgt := 72) hx hb d_Piece_fitsRule_1 (x_out (by decide) (by decide) (fun j h1 h2 => by
        obtain h | h | h | h : j = 0 ∨ j = 1 ∨ j = 2 ∨ j = 3 := by omega
        · subst h; exact n1_0
        · subst h; exact n1_1
        · subst h; exact n1_2
        · subst h; exact n1_3)) (by decide) ?_
  refine lv_iconst (v := (0 : Int32)) hx hb d_Piece_fitsRule_72 (by decide) ?_
  replace hf := x_s hf
  subst hf
  subst hQ
  exact W.zret (v := (0 : Int32)) hx hb hr (xz_n (by decide)) (fun t ht hW => ⟨⟨rfl, ht⟩, x_F0 ht⟩) x_l0 d_Piece_fitsRule_73
def f_Piece_moveTo (v1 : Int32) (v2 : Int32) (o0 : t_Piece) : Option (Int32 × t_Piece) :=
  (f_Piece_isFlat o0).bind fun c1 =>
  if c1 = 0 then
  (f_MaskEdges_clamp v1 v2).bind fun c17 =>
    if (Piece_move (Piece_u_move o0 c17)) = (Piece_move o0) then
    some ((0 : Int32), (Piece_u_move o0 c17))
  else
    some ((1 : Int32), (Piece_u_move o0 c17))
else
  some ((0 : Int32), o0)
set_option maxHeartbeats 4000000 in
set_option maxRecDepth 100000 in
theorem c_Piece_moveTo (l : Launch) (X : xG) {H : Heap} (h0 : Nat) (o0 : t_Piece) (v1 : Int32) (v2 : Int32) {res : Int32 × t_Piece} (hP0 : va_P X.1 vwCl (w_Piece X h0 o0) H) (hnd : [h0].Nodup) (hf : f_Piece_moveTo v1 v2 o0 = some res) : xM l y_Piece_moveTo (Cond.code y_Piece_moveTo prog_6_method_9_code 4 (some .boolean) :: xT) ({ frames := 2, cells := 0, slots := 0, locals := 42 } : Room) (xK X) [.ref h0, .int v1, .int v2] H (xAl [h0]) (some (.int res.1)) (fun H1 => va_P X.1 vwCl (w_Piece X h0 res.2) H1) := by
  refine Met.ofW (cc := prog_6_method_9_code) (maxL := 4) (ret := (some .boolean)) (by decide) rfl ?_
  intro p e s m args below meth c s₁ B hml hv
  obtain ⟨ha, hH, hKK⟩ := hv
  subst hH
  have hx := B.exec
  have hb := B.bytes
  have hr := B.returns
  have ht : ∀ w ∈ xT, w.before args s = true := fun w h => atoms_spec (ws := (Cond.code y_Piece_moveTo prog_6_method_9_code 4 (some .boolean) :: xT)) B.pre w (List.mem_cons_of_mem _ h)
  have hown : s.vm.findClass "MaskEdges$Piece" = some m.cls := findClass_of_methodNamed B.named
  have hlocks := B.notSynchronized
  have hK := hKK.1
  rw [show entryFrame m args 4 = entryFrame m ([.ref h0, .int v1, .int v2] : List Value).toArray 4 from by rw [ha]]
  clear ha
  have hP := hP0
  have hD : va_D (xAl [h0]) (w_Piece X h0 o0) := xDl rfl hnd
  have hS : va_S (xAl [h0]) s.heap s.heap [] := va_S.rf
  have hl := lv_entry ([.ref h0, .int v1, .int v2]) (n := 4) (Nat.le_of_ble_eq_true rfl)
  rw [lg_entry_eq]
  generalize (lg_sl ([.ref h0, .int v1, .int v2]) ++ List.replicate (4 - (lg_sl ([.ref h0, .int v1, .int v2])).length) Slot.unset).toArray = ls at hl ⊢
  replace hl : lv_has ls 4 [(0, .ref h0), (1, .int v1), (2, .int v2)] := hl
  refine x_Q (fun Q hQ => ?_)
  unfold f_Piece_moveTo at hf
  refine lv_aload_n hx hb d_Piece_moveTo_0 rfl (lv_at hl 0 rfl) ?_
  obtain ⟨c1, e1, hf⟩ := x_b hf
  refine xcR (va_runV (As := []) (rest := []) ⟨hx, hb, hml, hown, ht⟩ (c_Piece_isFlat l X h0 o0 hP e1) (cwV 0 ht (xgV xw_371 xw_342 xw_343 xw_42 xw_344) rfl rfl rfl (by decide +kernel) ⟨Nat.le_of_ble_eq_true rfl, Nat.le_of_ble_eq_true rfl⟩) (xPV hKK (va_recv hK hP (ci := 4) (q0 := 0) rfl rfl)) rfl rfl hl.1 rfl (lv_room (Nat.le_of_ble_eq_true rfl)) d_Piece_moveTo_1 ⟨Nat.zero_le _, Nat.zero_le _⟩) ?_
  refine W.eq (g2 := F0 m 4 ls [.int c1]) rfl ?_
  refine lv_if_eq (tgt := 9) hx hb d_Piece_moveTo_4 (by decide) (fun hc => ?_) (fun hc => ?_)
  · replace hf := x_t hc hf
    refine lv_aload_n hx hb d_Piece_moveTo_9 rfl (lv_at hl 0 rfl) ?_
    refine va_get (D := X.1) (ci := 4) (v := .int (Piece_move o0)) (C := "MaskEdges$Piece") (T := F_Piece) (N := 12) hx hb ht in_Piece hown hK hP 0 rfl rfl 11 (by decide) (ht _ xw_141) (fun _ h9 => h9) rfl d_Piece_moveTo_10 ?_
    refine lv_istore_n (lv' := [(3, .int (Piece_move o0)), (0, .ref h0), (1, .int v1), (2, .int v2)]) hx hb d_Piece_moveTo_13 rfl hl (by decide) rfl (fun ls hl => ?_)
    refine lv_aload_n hx hb d_Piece_moveTo_14 rfl (lv_at hl 1 rfl) ?_
    refine lv_iload_n hx hb d_Piece_moveTo_15 rfl (lv_at hl 2 rfl) ?_
    refine lv_iload_n hx hb d_Piece_moveTo_16 rfl (lv_at hl 3 rfl) ?_
    obtain ⟨c17, e17, hf⟩ := x_b hf
    refine xcR (va_runSN (As := [.int v1, .int v2]) (rest := [.ref h0]) ⟨hx, hb, hml, hown, ht⟩ (c_MaskEdges_clamp l X v1 v2 e17) ⟨va_cnB 2 ht (xgC xw_365) rfl rfl rfl (hKK.2 _ xn_8) (ht _ xw_37) (by decide +kernel) ⟨Nat.le_of_ble_eq_true rfl, Nat.le_of_ble_eq_true rfl⟩, ht _ xw_364, trivial⟩ (xPS hKK) rfl rfl hl.1 rfl (lv_room (Nat.le_of_ble_eq_true rfl)) d_Piece_moveTo_17 ⟨Nat.zero_le _, Nat.zero_le _⟩) ?_
    refine W.eq (g2 := F0 m 20 ls [.int c17, .ref h0]) rfl ?_
    refine va_put (D := X.1) (ci := 4) (v := .int c17) (ty := .int) (C := "MaskEdges$Piece") (T := F_Piece) (N := 12) hx hb ht in_Piece ty_Piece tyk_Piece nm_Piece hown hK hP hD hS 0 rfl rfl 11 (by decide) (ht _ xw_141) (fun _ h9 => h9) rfl (by decide +kernel) rfl rfl (Nat.le_of_ble_eq_true rfl) d_Piece_moveTo_20 (fun H locs hP hD hS => ?_)
    replace hP : va_P X.1 vwCl (w_Piece X h0 (Piece_u_move o0 c17)) H := hP
    replace hD : va_D _ (w_Piece X h0 (Piece_u_move o0 c17)) := hD
    refine lv_aload_n hx hb d_Piece_moveTo_23 rfl (lv_at hl 1 rfl) ?_
    refine va_get (D := X.1) (ci := 4) (v := .int (Piece_move (Piece_u_move o0 c17))) (C := "MaskEdges$Piece") (T := F_Piece) (N := 12) hx hb ht in_Piece hown hK hP 0 rfl rfl 11 (by decide) (ht _ xw_141) (fun _ h9 => h9) rfl d_Piece_moveTo_24 ?_
    refine lv_iload_n hx hb d_Piece_moveTo_27 rfl (lv_at hl 0 rfl) ?_
    refine lv_icmp_eq (tgt := 35) hx hb d_Piece_moveTo_28 (by decide) (fun hc => ?_) (fun hc => ?_)
    · replace hf := x_t hc hf
      refine lv_iconst (v := (0 : Int32)) hx hb d_Piece_moveTo_35 (by decide) ?_
      replace hf := x_s hf
      subst hf
      subst hQ
      exact W.zret (v := (0 : Int32)) hx hb hr (xz_n (by decide)) (fun t ht hW => ⟨⟨rfl, by rw [ht]; exact hP⟩, hS.F ht⟩) hS.2.2 d_Piece_moveTo_36
    · replace hf := x_f hc hf
      refine lv_iconst (v := (1 : Int32)) hx hb d_Piece_moveTo_31 (by decide) ?_
      refine lv_goto (tgt := 36) hx hb d_Piece_moveTo_32 (by decide) ?_
      replace hf := x_s hf
      subst hf
      subst hQ
      exact W.zret (v := (1 : Int32)) hx hb hr (xz_n (by decide)) (fun t ht hW => ⟨⟨rfl, by rw [ht]; exact hP⟩, hS.F ht⟩) hS.2.2 d_Piece_moveTo_36
  · replace hf := x_f hc hf
    refine lv_iconst (v := (0 : Int32)) hx hb d_Piece_moveTo_7 (by decide) ?_
    replace hf := x_s hf
    subst hf
    subst hQ
    exact W.zret (v := (0 : Int32)) hx hb hr (xz_n (by decide)) (fun t ht hW => ⟨⟨rfl, by rw [ht]; exact hP⟩, hS.F ht⟩) hS.2.2 d_Piece_moveTo_8
def f_Piece_pointAt (v0 : Int32) (v1 : Int32) (v2 : Int32) (v3 : Int32) : Option (Int32) :=
  if (1 : Int32) ≤ v3 then
  if v3 = 0 then none else
    if v1 ≤ v0 then
    some (v0 - (((if 0 ≤ (v1 - v0) then (v1 - v0) else 0 - (v1 - v0)) * v2) / v3))
  else
    some (v0 + (((if 0 ≤ (v1 - v0) then (v1 - v0) else 0 - (v1 - v0)) * v2) / v3))
else
  some v0
set_option maxHeartbeats 4000000 in
set_option maxRecDepth 100000 in
theorem c_Piece_pointAt (l : Launch) (X : xG) {H : Heap} (v0 : Int32) (v1 : Int32) (v2 : Int32) (v3 : Int32) {res : Int32} (hf : f_Piece_pointAt v0 v1 v2 v3 = some res) : xM l y_Piece_pointAt (Cond.code y_Piece_pointAt prog_6_method_3_code 5 (some .int) :: xT) ({ frames := 1, cells := 0, slots := 0, locals := 21 } : Room) (xK X) [.int v0, .int v1, .int v2, .int v3] H xNo (some (.int res)) (fun H1 => H1 = H) := by
  refine Met.ofW (cc := prog_6_method_3_code) (maxL := 5) (ret := (some .int)) (by decide) rfl ?_
  intro p e s m args below meth c s₁ B hml hv
  obtain ⟨ha, hH, hKK⟩ := hv
  subst hH
  have hx := B.exec
  have hb := B.bytes
  have hr := B.returns
  have ht : ∀ w ∈ xT, w.before args s = true := fun w h => atoms_spec (ws := (Cond.code y_Piece_pointAt prog_6_method_3_code 5 (some .int) :: xT)) B.pre w (List.mem_cons_of_mem _ h)
  have hown : s.vm.findClass "MaskEdges$Piece" = some m.cls := findClass_of_methodNamed B.named
  have hlocks := B.notSynchronized
  have hK := hKK.1
  rw [show entryFrame m args 5 = entryFrame m ([.int v0, .int v1, .int v2, .int v3] : List Value).toArray 5 from by rw [ha]]
  clear ha
  have hl := lv_entry ([.int v0, .int v1, .int v2, .int v3]) (n := 5) (Nat.le_of_ble_eq_true rfl)
  rw [lg_entry_eq]
  generalize (lg_sl ([.int v0, .int v1, .int v2, .int v3]) ++ List.replicate (5 - (lg_sl ([.int v0, .int v1, .int v2, .int v3])).length) Slot.unset).toArray = ls at hl ⊢
  replace hl : lv_has ls 5 [(0, .int v0), (1, .int v1), (2, .int v2), (3, .int v3)] := hl
  refine x_Q (fun Q hQ => ?_)
  unfold f_Piece_pointAt at hf
  refine lv_iload_n hx hb d_Piece_pointAt_0 rfl (lv_at hl 3 rfl) ?_
  refine lv_iconst (v := (1 : Int32)) hx hb d_Piece_pointAt_1 (by decide) ?_
  refine lv_icmp_ge (tgt := 7) hx hb d_Piece_pointAt_2 (by decide) (fun hc => ?_) (fun hc => ?_)
  · replace hf := x_t hc hf
    refine lv_iload_n hx hb d_Piece_pointAt_7 rfl (lv_at hl 1 rfl) ?_
    refine lv_iload_n hx hb d_Piece_pointAt_8 rfl (lv_at hl 0 rfl) ?_
    refine lv_isub hx hb d_Piece_pointAt_9 ?_
    refine va_mabs hx hb (hml.trans hl.1.symm) hown (ht _ xw_307) (ht _ xw_290) (ht _ xw_44) (ht _ xw_math_abs) (Nat.le_of_ble_eq_true rfl) (Nat.le_of_ble_eq_true rfl) (Nat.zero_le _) (Nat.zero_le _) d_Piece_pointAt_10 ?_
    refine lv_iload_n hx hb d_Piece_pointAt_13 rfl (lv_at hl 2 rfl) ?_
    refine lv_imul hx hb d_Piece_pointAt_14 ?_
    refine lv_iload_n hx hb d_Piece_pointAt_15 rfl (lv_at hl 3 rfl) ?_
    obtain ⟨z16, hf⟩ := x_n hf
    refine lv_idiv hx hb d_Piece_pointAt_16 z16 ?_
    refine lv_istore (lv' := [(4, .int (((if 0 ≤ (v1 - v0) then (v1 - v0) else 0 - (v1 - v0)) * v2) / v3)), (0, .int v0), (1, .int v1), (2, .int v2), (3, .int v3)]) hx hb d_Piece_pointAt_17 hl (by decide) rfl (fun ls hl => ?_)
    refine lv_iload_n hx hb d_Piece_pointAt_19 rfl (lv_at hl 2 rfl) ?_
    refine lv_iload_n hx hb d_Piece_pointAt_20 rfl (lv_at hl 1 rfl) ?_
    refine lv_icmp_le (tgt := 31) hx hb d_Piece_pointAt_21 (by decide) (fun hc => ?_) (fun hc => ?_)
    · replace hf := x_t hc hf
      refine lv_iload_n hx hb d_Piece_pointAt_31 rfl (lv_at hl 1 rfl) ?_
      refine lv_iload hx hb d_Piece_pointAt_32 (lv_at hl 0 rfl) ?_
      refine lv_isub hx hb d_Piece_pointAt_34 ?_
      replace hf := x_s hf
      subst hf
      subst hQ
      exact W.iret (v := (v0 - (((if 0 ≤ (v1 - v0) then (v1 - v0) else 0 - (v1 - v0)) * v2) / v3))) hx hb hr (fun t ht hW => ⟨⟨rfl, ht⟩, x_F0 ht⟩) x_l0 d_Piece_pointAt_35
    · replace hf := x_f hc hf
      refine lv_iload_n hx hb d_Piece_pointAt_24 rfl (lv_at hl 1 rfl) ?_
      refine lv_iload hx hb d_Piece_pointAt_25 (lv_at hl 0 rfl) ?_
      refine lv_iadd hx hb d_Piece_pointAt_27 ?_
      refine lv_goto (tgt := 35) hx hb d_Piece_pointAt_28 (by decide) ?_
      replace hf := x_s hf
      subst hf
      subst hQ
      exact W.iret (v := (v0 + (((if 0 ≤ (v1 - v0) then (v1 - v0) else 0 - (v1 - v0)) * v2) / v3))) hx hb hr (fun t ht hW => ⟨⟨rfl, ht⟩, x_F0 ht⟩) x_l0 d_Piece_pointAt_35
  · replace hf := x_f hc hf
    refine lv_iload_n hx hb d_Piece_pointAt_5 rfl (lv_at hl 0 rfl) ?_
    replace hf := x_s hf
    subst hf
    subst hQ
    exact W.iret (v := v0) hx hb hr (fun t ht hW => ⟨⟨rfl, ht⟩, x_F0 ht⟩) x_l0 d_Piece_pointAt_6
def f_Piece_faceOutward_151 (o1 : t_Outline) (s0 : Int32) (o0 : t_Piece) : Option (t_Piece) :=
  some (Piece_u_insideY o0 s0)
def f_Piece_faceOutward_134 (o1 : t_Outline) (v2 : Int32) (v5 : Int32) (s0 : Int32) (o0 : t_Piece) : Option (t_Piece) :=
  if (Piece_alongX (Piece_u_insideX o0 s0)) = 0 then
  (f_Piece_faceOutward_151 o1) v2 (Piece_u_insideX o0 s0)
else
  (f_Piece_faceOutward_151 o1) v5 (Piece_u_insideX o0 s0)
def f_Piece_faceOutward_118 (o1 : t_Outline) (v2 : Int32) (s0 : Int32) (o0 : t_Piece) : Option (t_Piece) :=
  if (Piece_alongX o0) = 0 then
  (f_Piece_faceOutward_134 o1) v2 s0 s0 o0
else
  (f_Piece_faceOutward_134 o1) v2 s0 v2 o0
def f_Piece_faceOutward_101 (o1 : t_Outline) (v2 : Int32) (v3 : Int32) (o0 : t_Piece) : Option (t_Piece) :=
  if v3 = 0 then
  (f_Piece_faceOutward_118 o1) v2 (Piece_line o0) o0
else
  (f_Piece_faceOutward_118 o1) v2 ((Piece_line o0) - (1 : Int32)) o0
def f_Piece_faceOutward_98 (o1 : t_Outline) (v2 : Int32) (v3 : Int32) (s0 : Int32) (o0 : t_Piece) : Option (t_Piece) :=
  (f_Piece_faceOutward_101 o1) v2 v3 (Piece_u_outward o0 s0)
def f_Piece_faceOutward_75 (o1 : t_Outline) (v2 : Int32) (v3 : Int32) (s0 : Int32) (o0 : t_Piece) : Option (t_Piece) :=
  if v3 = s0 then
  (f_Piece_faceOutward_101 o1) v2 v3 (Piece_u_outward o0 (0 : Int32))
else
  if v3 = 0 then
    (f_Piece_faceOutward_98 o1) v2 v3 (-1 : Int32) (Piece_u_outward o0 (0 : Int32))
  else
    (f_Piece_faceOutward_98 o1) v2 v3 (1 : Int32) (Piece_u_outward o0 (0 : Int32))
def f_Piece_faceOutward_46 (o1 : t_Outline) (v2 : Int32) (s0 : Int32) (o0 : t_Piece) : Option (t_Piece) :=
  if (Piece_alongX o0) = 0 then
  (f_Outline_holds o1 (Piece_line o0) v2).bind fun c72 =>
    (f_Piece_faceOutward_75 o1) v2 s0 c72 o0
else
  (f_Outline_holds o1 v2 (Piece_line o0)).bind fun c60 =>
    (f_Piece_faceOutward_75 o1) v2 s0 c60 o0
def f_Piece_faceOutward (o1 : t_Outline) (o0 : t_Piece) : Option (t_Piece) :=
  if (Piece_alongX o0) = 0 then
  (f_Outline_holds o1 ((Piece_line o0) - (1 : Int32)) ((((Piece_low o0) + (Piece_high o0)) - (1 : Int32)) / (2 : Int32))).bind fun c43 =>
    (f_Piece_faceOutward_46 o1) ((((Piece_low o0) + (Piece_high o0)) - (1 : Int32)) / (2 : Int32)) c43 o0
else
  (f_Outline_holds o1 ((((Piece_low o0) + (Piece_high o0)) - (1 : Int32)) / (2 : Int32)) ((Piece_line o0) - (1 : Int32))).bind fun c29 =>
    (f_Piece_faceOutward_46 o1) ((((Piece_low o0) + (Piece_high o0)) - (1 : Int32)) / (2 : Int32)) c29 o0
set_option maxHeartbeats 4000000 in
set_option maxRecDepth 100000 in
theorem c_Piece_faceOutward (l : Launch) (X : xG) {H : Heap} (h0 : Nat) (o0 : t_Piece) (h1 a1_0 a1_1 : Nat) (o1 : t_Outline) {res : t_Piece} (hP0 : va_P X.1 vwCl (w_Piece X h0 o0) H) (hP1 : va_P X.1 vwCl (w_Outline X h1 a1_0 a1_1 o1) H) (hnd : [h0].Nodup) (hno1 : ∀ q ∈ [h1, a1_0, a1_1], ¬ xAl [h0] q) (hf : f_Piece_faceOutward o1 o0 = some res) : xM l y_Piece_faceOutward (Cond.code y_Piece_faceOutward prog_6_method_4_code 6 none :: xT) ({ frames := 2, cells := 0, slots := 0, locals := 47 } : Room) (xK X) [.ref h0, .ref h1] H (xAl [h0]) none (fun H1 => va_P X.1 vwCl (w_Piece X h0 res) H1) := by
  refine Met.ofW (cc := prog_6_method_4_code) (maxL := 6) (ret := none) (by decide) rfl ?_
  intro p e s m args below meth c s₁ B hml hv
  obtain ⟨ha, hH, hKK⟩ := hv
  subst hH
  have hx := B.exec
  have hb := B.bytes
  have hr := B.returns
  have ht : ∀ w ∈ xT, w.before args s = true := fun w h => atoms_spec (ws := (Cond.code y_Piece_faceOutward prog_6_method_4_code 6 none :: xT)) B.pre w (List.mem_cons_of_mem _ h)
  have hown : s.vm.findClass "MaskEdges$Piece" = some m.cls := findClass_of_methodNamed B.named
  have hlocks := B.notSynchronized
  have hK := hKK.1
  rw [show entryFrame m args 6 = entryFrame m ([.ref h0, .ref h1] : List Value).toArray 6 from by rw [ha]]
  clear ha
  have hP := hP0
  have hD : va_D (xAl [h0]) (w_Piece X h0 o0) := xDl rfl hnd
  have hS : va_S (xAl [h0]) s.heap s.heap [] := va_S.rf
  have hl := lv_entry ([.ref h0, .ref h1]) (n := 6) (Nat.le_of_ble_eq_true rfl)
  rw [lg_entry_eq]
  generalize (lg_sl ([.ref h0, .ref h1]) ++ List.replicate (6 - (lg_sl ([.ref h0, .ref h1])).length) Slot.unset).toArray = ls at hl ⊢
  replace hl : lv_has ls 6 [(0, .ref h0), (1, .ref h1)] := hl
  refine x_Q (fun Q hQ => ?_)
  have hL151 : ∀ (s0 : Int32) (o0 : t_Piece), ∀ (H : Heap) (locs : List Loc), va_P X.1 vwCl (w_Piece X h0 o0) H → va_S (xAl [h0]) s.heap H locs → ∀ (ls : Array Slot), lv_has ls 6 [] → f_Piece_faceOutward_151 o1 s0 o0 = some res → W p l e (headSpec (Cond.code y_Piece_faceOutward prog_6_method_4_code 6 none :: xT) ({ frames := 2, cells := 0, slots := 0, locals := 47 } : Room)).room s m args below meth c H locs 0 0 Q (F0 m 151 ls [.int s0, .ref h0]) := by
    intro s0 o0 H locs hP hS ls hl hf
    unfold f_Piece_faceOutward_151 at hf
    have hD : va_D (xAl [h0]) (w_Piece X h0 o0) := xDl rfl hnd
    refine va_put (D := X.1) (ci := 4) (v := .int s0) (ty := .int) (C := "MaskEdges$Piece") (T := F_Piece) (N := 12) hx hb ht in_Piece ty_Piece tyk_Piece nm_Piece hown hK hP hD hS 0 rfl rfl 10 (by decide) (ht _ xw_139) (fun _ h9 => h9) rfl (by decide +kernel) rfl rfl (Nat.le_of_ble_eq_true rfl) d_Piece_faceOutward_151 (fun H locs hP hD hS => ?_)
    replace hP : va_P X.1 vwCl (w_Piece X h0 (Piece_u_insideY o0 s0)) H := hP
    replace hD : va_D _ (w_Piece X h0 (Piece_u_insideY o0 s0)) := hD
    replace hf := x_s hf
    subst hf
    subst hQ
    exact W.vret hx hb hr (fun t ht hW => ⟨⟨rfl, by rw [ht]; exact hP⟩, hS.F ht⟩) hS.2.2 d_Piece_faceOutward_154
  have hL134 : ∀ (v2 : Int32) (v5 : Int32) (s0 : Int32) (o0 : t_Piece), ∀ (H : Heap) (locs : List Loc), va_P X.1 vwCl (w_Piece X h0 o0) H → va_S (xAl [h0]) s.heap H locs → ∀ (ls : Array Slot), lv_has ls 6 [(0, .ref h0), (2, .int v2), (5, .int v5)] → f_Piece_faceOutward_134 o1 v2 v5 s0 o0 = some res → W p l e (headSpec (Cond.code y_Piece_faceOutward prog_6_method_4_code 6 none :: xT) ({ frames := 2, cells := 0, slots := 0, locals := 47 } : Room)).room s m args below meth c H locs 0 0 Q (F0 m 134 ls [.int s0, .ref h0]) := by
    intro v2 v5 s0 o0 H locs hP hS ls hl hf
    unfold f_Piece_faceOutward_134 at hf
    have hD : va_D (xAl [h0]) (w_Piece X h0 o0) := xDl rfl hnd
    refine va_put (D := X.1) (ci := 4) (v := .int s0) (ty := .int) (C := "MaskEdges$Piece") (T := F_Piece) (N := 12) hx hb ht in_Piece ty_Piece tyk_Piece nm_Piece hown hK hP hD hS 0 rfl rfl 9 (by decide) (ht _ xw_137) (fun _ h9 => h9) rfl (by decide +kernel) rfl rfl (Nat.le_of_ble_eq_true rfl) d_Piece_faceOutward_134 (fun H locs hP hD hS => ?_)
    replace hP : va_P X.1 vwCl (w_Piece X h0 (Piece_u_insideX o0 s0)) H := hP
    replace hD : va_D _ (w_Piece X h0 (Piece_u_insideX o0 s0)) := hD
    refine lv_aload_n hx hb d_Piece_faceOutward_137 rfl (lv_at hl 0 rfl) ?_
    refine lv_aload_n hx hb d_Piece_faceOutward_138 rfl (lv_at hl 0 rfl) ?_
    refine va_get (D := X.1) (ci := 4) (v := .int (Piece_alongX (Piece_u_insideX o0 s0))) (C := "MaskEdges$Piece") (T := F_Piece) (N := 12) hx hb ht in_Piece hown hK hP 0 rfl rfl 0 (by decide) (ht _ xw_120) (fun _ h9 => h9) rfl d_Piece_faceOutward_139 ?_
    refine lv_if_eq (tgt := 150) hx hb d_Piece_faceOutward_142 (by decide) (fun hc => ?_) (fun hc => ?_)
    · replace hf := x_t hc hf
      refine lv_iload_n hx hb d_Piece_faceOutward_150 rfl (lv_at hl 1 rfl) ?_
      exact hL151 v2 (Piece_u_insideX o0 s0) _ _ hP hS ls (lv_sub hl [] rfl) hf
    · replace hf := x_f hc hf
      refine lv_iload hx hb d_Piece_faceOutward_145 (lv_at hl 2 rfl) ?_
      refine lv_goto (tgt := 151) hx hb d_Piece_faceOutward_147 (by decide) ?_
      exact hL151 v5 (Piece_u_insideX o0 s0) _ _ hP hS ls (lv_sub hl [] rfl) hf
  have hL118 : ∀ (v2 : Int32) (s0 : Int32) (o0 : t_Piece), ∀ (H : Heap) (locs : List Loc), va_P X.1 vwCl (w_Piece X h0 o0) H → va_S (xAl [h0]) s.heap H locs → ∀ (ls : Array Slot), lv_has ls 6 [(0, .ref h0), (2, .int v2)] → f_Piece_faceOutward_118 o1 v2 s0 o0 = some res → W p l e (headSpec (Cond.code y_Piece_faceOutward prog_6_method_4_code 6 none :: xT) ({ frames := 2, cells := 0, slots := 0, locals := 47 } : Room)).room s m args below meth c H locs 0 0 Q (F0 m 118 ls [.int s0]) := by
    intro v2 s0 o0 H locs hP hS ls hl hf
    unfold f_Piece_faceOutward_118 at hf
    have hD : va_D (xAl [h0]) (w_Piece X h0 o0) := xDl rfl hnd
    refine lv_istore (lv' := [(5, .int s0), (0, .ref h0), (2, .int v2)]) hx hb d_Piece_faceOutward_118 hl (by decide) rfl (fun ls hl => ?_)
    refine lv_aload_n hx hb d_Piece_faceOutward_120 rfl (lv_at hl 1 rfl) ?_
    refine lv_aload_n hx hb d_Piece_faceOutward_121 rfl (lv_at hl 1 rfl) ?_
    refine va_get (D := X.1) (ci := 4) (v := .int (Piece_alongX o0)) (C := "MaskEdges$Piece") (T := F_Piece) (N := 12) hx hb ht in_Piece hown hK hP 0 rfl rfl 0 (by decide) (ht _ xw_120) (fun _ h9 => h9) rfl d_Piece_faceOutward_122 ?_
    refine lv_if_eq (tgt := 132) hx hb d_Piece_faceOutward_125 (by decide) (fun hc => ?_) (fun hc => ?_)
    · replace hf := x_t hc hf
      refine lv_iload hx hb d_Piece_faceOutward_132 (lv_at hl 0 rfl) ?_
      exact hL134 v2 s0 s0 o0 _ _ hP hS ls (lv_sub hl [1, 2, 0] rfl) hf
    · replace hf := x_f hc hf
      refine lv_iload_n hx hb d_Piece_faceOutward_128 rfl (lv_at hl 2 rfl) ?_
      refine lv_goto (tgt := 134) hx hb d_Piece_faceOutward_129 (by decide) ?_
      exact hL134 v2 s0 v2 o0 _ _ hP hS ls (lv_sub hl [1, 2, 0] rfl) hf
  have hL101 : ∀ (v2 : Int32) (v3 : Int32) (o0 : t_Piece), ∀ (H : Heap) (locs : List Loc), va_P X.1 vwCl (w_Piece X h0 o0) H → va_S (xAl [h0]) s.heap H locs → ∀ (ls : Array Slot), lv_has ls 6 [(0, .ref h0), (2, .int v2), (3, .int v3)] → f_Piece_faceOutward_101 o1 v2 v3 o0 = some res → W p l e (headSpec (Cond.code y_Piece_faceOutward prog_6_method_4_code 6 none :: xT) ({ frames := 2, cells := 0, slots := 0, locals := 47 } : Room)).room s m args below meth c H locs 0 0 Q (F0 m 101 ls []) := by
    intro v2 v3 o0 H locs hP hS ls hl hf
    unfold f_Piece_faceOutward_101 at hf
    have hD : va_D (xAl [h0]) (w_Piece X h0 o0) := xDl rfl hnd
    refine lv_iload_n hx hb d_Piece_faceOutward_101 rfl (lv_at hl 2 rfl) ?_
    refine lv_if_eq (tgt := 114) hx hb d_Piece_faceOutward_102 (by decide) (fun hc => ?_) (fun hc => ?_)
    · replace hf := x_t hc hf
      refine lv_aload_n hx hb d_Piece_faceOutward_114 rfl (lv_at hl 0 rfl) ?_
      refine va_get (D := X.1) (ci := 4) (v := .int (Piece_line o0)) (C := "MaskEdges$Piece") (T := F_Piece) (N := 12) hx hb ht in_Piece hown hK hP 0 rfl rfl 1 (by decide) (ht _ xw_124) (fun _ h9 => h9) rfl d_Piece_faceOutward_115 ?_
      exact hL118 v2 (Piece_line o0) o0 _ _ hP hS ls (lv_sub hl [0, 1] rfl) hf
    · replace hf := x_f hc hf
      refine lv_aload_n hx hb d_Piece_faceOutward_105 rfl (lv_at hl 0 rfl) ?_
      refine va_get (D := X.1) (ci := 4) (v := .int (Piece_line o0)) (C := "MaskEdges$Piece") (T := F_Piece) (N := 12) hx hb ht in_Piece hown hK hP 0 rfl rfl 1 (by decide) (ht _ xw_124) (fun _ h9 => h9) rfl d_Piece_faceOutward_106 ?_
      refine lv_iconst (v := (1 : Int32)) hx hb d_Piece_faceOutward_109 (by decide) ?_
      refine lv_isub hx hb d_Piece_faceOutward_110 ?_
      refine lv_goto (tgt := 118) hx hb d_Piece_faceOutward_111 (by decide) ?_
      exact hL118 v2 ((Piece_line o0) - (1 : Int32)) o0 _ _ hP hS ls (lv_sub hl [0, 1] rfl) hf
  have hL98 : ∀ (v2 : Int32) (v3 : Int32) (s0 : Int32) (o0 : t_Piece), ∀ (H : Heap) (locs : List Loc), va_P X.1 vwCl (w_Piece X h0 o0) H → va_S (xAl [h0]) s.heap H locs → ∀ (ls : Array Slot), lv_has ls 6 [(0, .ref h0), (2, .int v2), (3, .int v3)] → f_Piece_faceOutward_98 o1 v2 v3 s0 o0 = some res → W p l e (headSpec (Cond.code y_Piece_faceOutward prog_6_method_4_code 6 none :: xT) ({ frames := 2, cells := 0, slots := 0, locals := 47 } : Room)).room s m args below meth c H locs 0 0 Q (F0 m 98 ls [.int s0, .ref h0]) := by
    intro v2 v3 s0 o0 H locs hP hS ls hl hf
    unfold f_Piece_faceOutward_98 at hf
    have hD : va_D (xAl [h0]) (w_Piece X h0 o0) := xDl rfl hnd
    refine va_put (D := X.1) (ci := 4) (v := .int s0) (ty := .int) (C := "MaskEdges$Piece") (T := F_Piece) (N := 12) hx hb ht in_Piece ty_Piece tyk_Piece nm_Piece hown hK hP hD hS 0 rfl rfl 8 (by decide) (ht _ xw_135) (fun _ h9 => h9) rfl (by decide +kernel) rfl rfl (Nat.le_of_ble_eq_true rfl) d_Piece_faceOutward_98 (fun H locs hP hD hS => ?_)
    replace hP : va_P X.1 vwCl (w_Piece X h0 (Piece_u_outward o0 s0)) H := hP
    replace hD : va_D _ (w_Piece X h0 (Piece_u_outward o0 s0)) := hD
    exact hL101 v2 v3 (Piece_u_outward o0 s0) _ _ hP hS ls (lv_sub hl [0, 1, 2] rfl) hf
  have hL75 : ∀ (v2 : Int32) (v3 : Int32) (s0 : Int32) (o0 : t_Piece), ∀ (H : Heap) (locs : List Loc), va_P X.1 vwCl (w_Piece X h0 o0) H → va_S (xAl [h0]) s.heap H locs → ∀ (ls : Array Slot), lv_has ls 6 [(0, .ref h0), (2, .int v2), (3, .int v3)] → f_Piece_faceOutward_75 o1 v2 v3 s0 o0 = some res → W p l e (headSpec (Cond.code y_Piece_faceOutward prog_6_method_4_code 6 none :: xT) ({ frames := 2, cells := 0, slots := 0, locals := 47 } : Room)).room s m args below meth c H locs 0 0 Q (F0 m 75 ls [.int s0]) := by
    intro v2 v3 s0 o0 H locs hP hS ls hl hf
    unfold f_Piece_faceOutward_75 at hf
    have hD : va_D (xAl [h0]) (w_Piece X h0 o0) := xDl rfl hnd
    refine lv_istore (lv' := [(4, .int s0), (0, .ref h0), (2, .int v2), (3, .int v3)]) hx hb d_Piece_faceOutward_75 hl (by decide) rfl (fun ls hl => ?_)
    refine lv_aload_n hx hb d_Piece_faceOutward_77 rfl (lv_at hl 1 rfl) ?_
    refine lv_iconst (v := (0 : Int32)) hx hb d_Piece_faceOutward_78 (by decide) ?_
    refine va_put (D := X.1) (ci := 4) (v := .int (0 : Int32)) (ty := .int) (C := "MaskEdges$Piece") (T := F_Piece) (N := 12) hx hb ht in_Piece ty_Piece tyk_Piece nm_Piece hown hK hP hD hS 0 rfl rfl 8 (by decide) (ht _ xw_135) (fun _ h9 => h9) rfl (by decide +kernel) rfl rfl (Nat.le_of_ble_eq_true rfl) d_Piece_faceOutward_79 (fun H locs hP hD hS => ?_)
    replace hP : va_P X.1 vwCl (w_Piece X h0 (Piece_u_outward o0 (0 : Int32))) H := hP
    replace hD : va_D _ (w_Piece X h0 (Piece_u_outward o0 (0 : Int32))) := hD
    refine lv_iload_n hx hb d_Piece_faceOutward_82 rfl (lv_at hl 3 rfl) ?_
    refine lv_iload hx hb d_Piece_faceOutward_83 (lv_at hl 0 rfl) ?_
    refine lv_icmp_eq (tgt := 101) hx hb d_Piece_faceOutward_85 (by decide) (fun hc => ?_) (fun hc => ?_)
    · replace hf := x_t hc hf
      exact hL101 v2 v3 (Piece_u_outward o0 (0 : Int32)) _ _ hP hS ls (lv_sub hl [1, 2, 3] rfl) hf
    · replace hf := x_f hc hf
      refine lv_aload_n hx hb d_Piece_faceOutward_88 rfl (lv_at hl 1 rfl) ?_
      refine lv_iload_n hx hb d_Piece_faceOutward_89 rfl (lv_at hl 3 rfl) ?_
      refine lv_if_eq (tgt := 97) hx hb d_Piece_faceOutward_90 (by decide) (fun hc => ?_) (fun hc => ?_)
      · replace hf := x_t hc hf
        refine lv_iconst (v := (-1 : Int32)) hx hb d_Piece_faceOutward_97 (by decide) ?_
        exact hL98 v2 v3 (-1 : Int32) (Piece_u_outward o0 (0 : Int32)) _ _ hP hS ls (lv_sub hl [1, 2, 3] rfl) hf
      · replace hf := x_f hc hf
        refine lv_iconst (v := (1 : Int32)) hx hb d_Piece_faceOutward_93 (by decide) ?_
        refine lv_goto (tgt := 98) hx hb d_Piece_faceOutward_94 (by decide) ?_
        exact hL98 v2 v3 (1 : Int32) (Piece_u_outward o0 (0 : Int32)) _ _ hP hS ls (lv_sub hl [1, 2, 3] rfl) hf
  have hL46 : ∀ (v2 : Int32) (s0 : Int32) (o0 : t_Piece), ∀ (H : Heap) (locs : List Loc), va_P X.1 vwCl (w_Piece X h0 o0) H → va_S (xAl [h0]) s.heap H locs → ∀ (ls : Array Slot), lv_has ls 6 [(0, .ref h0), (1, .ref h1), (2, .int v2)] → f_Piece_faceOutward_46 o1 v2 s0 o0 = some res → W p l e (headSpec (Cond.code y_Piece_faceOutward prog_6_method_4_code 6 none :: xT) ({ frames := 2, cells := 0, slots := 0, locals := 47 } : Room)).room s m args below meth c H locs 0 0 Q (F0 m 46 ls [.int s0]) := by
    intro v2 s0 o0 H locs hP hS ls hl hf
    unfold f_Piece_faceOutward_46 at hf
    have hD : va_D (xAl [h0]) (w_Piece X h0 o0) := xDl rfl hnd
    refine lv_istore_n (lv' := [(3, .int s0), (0, .ref h0), (1, .ref h1), (2, .int v2)]) hx hb d_Piece_faceOutward_46 rfl hl (by decide) rfl (fun ls hl => ?_)
    refine lv_aload_n hx hb d_Piece_faceOutward_47 rfl (lv_at hl 1 rfl) ?_
    refine va_get (D := X.1) (ci := 4) (v := .int (Piece_alongX o0)) (C := "MaskEdges$Piece") (T := F_Piece) (N := 12) hx hb ht in_Piece hown hK hP 0 rfl rfl 0 (by decide) (ht _ xw_120) (fun _ h9 => h9) rfl d_Piece_faceOutward_48 ?_
    refine lv_if_eq (tgt := 66) hx hb d_Piece_faceOutward_51 (by decide) (fun hc => ?_) (fun hc => ?_)
    · replace hf := x_t hc hf
      refine lv_aload_n hx hb d_Piece_faceOutward_66 rfl (lv_at hl 2 rfl) ?_
      refine lv_aload_n hx hb d_Piece_faceOutward_67 rfl (lv_at hl 1 rfl) ?_
      refine va_get (D := X.1) (ci := 4) (v := .int (Piece_line o0)) (C := "MaskEdges$Piece") (T := F_Piece) (N := 12) hx hb ht in_Piece hown hK hP 0 rfl rfl 1 (by decide) (ht _ xw_124) (fun _ h9 => h9) rfl d_Piece_faceOutward_68 ?_
      refine lv_iload_n hx hb d_Piece_faceOutward_71 rfl (lv_at hl 3 rfl) ?_
      obtain ⟨c72, e72, hf⟩ := x_b hf
      refine xcR (va_runV (As := [.int (Piece_line o0), .int v2]) (rest := []) ⟨hx, hb, hml, hown, ht⟩ (c_Outline_holds l X h1 a1_0 a1_1 o1 (Piece_line o0) v2 (xkept hP1 hno1 hS) e72) (cwV 2 ht (xgV xw_311 xw_211 xw_212 xw_41 xw_213) rfl rfl rfl (by decide +kernel) ⟨Nat.le_of_ble_eq_true rfl, Nat.le_of_ble_eq_true rfl⟩) (xPV hKK (va_recv hK (xkept hP1 hno1 hS) (ci := 3) (q0 := 0) rfl rfl)) rfl rfl hl.1 rfl (lv_room (Nat.le_of_ble_eq_true rfl)) d_Piece_faceOutward_72 ⟨Nat.zero_le _, Nat.zero_le _⟩) ?_
      refine W.eq (g2 := F0 m 75 ls [.int c72]) rfl ?_
      exact hL75 v2 s0 c72 o0 _ _ hP hS ls (lv_sub hl [1, 3, 0] rfl) hf
    · replace hf := x_f hc hf
      refine lv_aload_n hx hb d_Piece_faceOutward_54 rfl (lv_at hl 2 rfl) ?_
      refine lv_iload_n hx hb d_Piece_faceOutward_55 rfl (lv_at hl 3 rfl) ?_
      refine lv_aload_n hx hb d_Piece_faceOutward_56 rfl (lv_at hl 1 rfl) ?_
      refine va_get (D := X.1) (ci := 4) (v := .int (Piece_line o0)) (C := "MaskEdges$Piece") (T := F_Piece) (N := 12) hx hb ht in_Piece hown hK hP 0 rfl rfl 1 (by decide) (ht _ xw_124) (fun _ h9 => h9) rfl d_Piece_faceOutward_57 ?_
      obtain ⟨c60, e60, hf⟩ := x_b hf
      refine xcR (va_runV (As := [.int v2, .int (Piece_line o0)]) (rest := []) ⟨hx, hb, hml, hown, ht⟩ (c_Outline_holds l X h1 a1_0 a1_1 o1 v2 (Piece_line o0) (xkept hP1 hno1 hS) e60) (cwV 2 ht (xgV xw_311 xw_211 xw_212 xw_41 xw_213) rfl rfl rfl (by decide +kernel) ⟨Nat.le_of_ble_eq_true rfl, Nat.le_of_ble_eq_true rfl⟩) (xPV hKK (va_recv hK (xkept hP1 hno1 hS) (ci := 3) (q0 := 0) rfl rfl)) rfl rfl hl.1 rfl (lv_room (Nat.le_of_ble_eq_true rfl)) d_Piece_faceOutward_60 ⟨Nat.zero_le _, Nat.zero_le _⟩) ?_
      refine W.eq (g2 := F0 m 63 ls [.int c60]) rfl ?_
      refine lv_goto (tgt := 75) hx hb d_Piece_faceOutward_63 (by decide) ?_
      exact hL75 v2 s0 c60 o0 _ _ hP hS ls (lv_sub hl [1, 3, 0] rfl) hf
  unfold f_Piece_faceOutward at hf
  refine lv_aload_n hx hb d_Piece_faceOutward_0 rfl (lv_at hl 0 rfl) ?_
  refine va_get (D := X.1) (ci := 4) (v := .int (Piece_low o0)) (C := "MaskEdges$Piece") (T := F_Piece) (N := 12) hx hb ht in_Piece hown hK hP 0 rfl rfl 2 (by decide) (ht _ xw_125) (fun _ h9 => h9) rfl d_Piece_faceOutward_1 ?_
  refine lv_aload_n hx hb d_Piece_faceOutward_4 rfl (lv_at hl 0 rfl) ?_
  refine va_get (D := X.1) (ci := 4) (v := .int (Piece_high o0)) (C := "MaskEdges$Piece") (T := F_Piece) (N := 12) hx hb ht in_Piece hown hK hP 0 rfl rfl 3 (by decide) (ht _ xw_127) (fun _ h9 => h9) rfl d_Piece_faceOutward_5 ?_
  refine lv_iadd hx hb d_Piece_faceOutward_8 ?_
  refine lv_iconst (v := (1 : Int32)) hx hb d_Piece_faceOutward_9 (by decide) ?_
  refine lv_isub hx hb d_Piece_faceOutward_10 ?_
  refine lv_iconst (v := (2 : Int32)) hx hb d_Piece_faceOutward_11 (by decide) ?_
  refine lv_idiv hx hb d_Piece_faceOutward_12 (by decide) ?_
  refine lv_istore_n (lv' := [(2, .int ((((Piece_low o0) + (Piece_high o0)) - (1 : Int32)) / (2 : Int32))), (0, .ref h0), (1, .ref h1)]) hx hb d_Piece_faceOutward_13 rfl hl (by decide) rfl (fun ls hl => ?_)
  refine lv_aload_n hx hb d_Piece_faceOutward_14 rfl (lv_at hl 1 rfl) ?_
  refine va_get (D := X.1) (ci := 4) (v := .int (Piece_alongX o0)) (C := "MaskEdges$Piece") (T := F_Piece) (N := 12) hx hb ht in_Piece hown hK hP 0 rfl rfl 0 (by decide) (ht _ xw_120) (fun _ h9 => h9) rfl d_Piece_faceOutward_15 ?_
  refine lv_if_eq (tgt := 35) hx hb d_Piece_faceOutward_18 (by decide) (fun hc => ?_) (fun hc => ?_)
  · replace hf := x_t hc hf
    refine lv_aload_n hx hb d_Piece_faceOutward_35 rfl (lv_at hl 2 rfl) ?_
    refine lv_aload_n hx hb d_Piece_faceOutward_36 rfl (lv_at hl 1 rfl) ?_
    refine va_get (D := X.1) (ci := 4) (v := .int (Piece_line o0)) (C := "MaskEdges$Piece") (T := F_Piece) (N := 12) hx hb ht in_Piece hown hK hP 0 rfl rfl 1 (by decide) (ht _ xw_124) (fun _ h9 => h9) rfl d_Piece_faceOutward_37 ?_
    refine lv_iconst (v := (1 : Int32)) hx hb d_Piece_faceOutward_40 (by decide) ?_
    refine lv_isub hx hb d_Piece_faceOutward_41 ?_
    refine lv_iload_n hx hb d_Piece_faceOutward_42 rfl (lv_at hl 0 rfl) ?_
    obtain ⟨c43, e43, hf⟩ := x_b hf
    refine xcR (va_runV (As := [.int ((Piece_line o0) - (1 : Int32)), .int ((((Piece_low o0) + (Piece_high o0)) - (1 : Int32)) / (2 : Int32))]) (rest := []) ⟨hx, hb, hml, hown, ht⟩ (c_Outline_holds l X h1 a1_0 a1_1 o1 ((Piece_line o0) - (1 : Int32)) ((((Piece_low o0) + (Piece_high o0)) - (1 : Int32)) / (2 : Int32)) (xkept hP1 hno1 hS) e43) (cwV 2 ht (xgV xw_311 xw_211 xw_212 xw_41 xw_213) rfl rfl rfl (by decide +kernel) ⟨Nat.le_of_ble_eq_true rfl, Nat.le_of_ble_eq_true rfl⟩) (xPV hKK (va_recv hK (xkept hP1 hno1 hS) (ci := 3) (q0 := 0) rfl rfl)) rfl rfl hl.1 rfl (lv_room (Nat.le_of_ble_eq_true rfl)) d_Piece_faceOutward_43 ⟨Nat.zero_le _, Nat.zero_le _⟩) ?_
    refine W.eq (g2 := F0 m 46 ls [.int c43]) rfl ?_
    exact hL46 ((((Piece_low o0) + (Piece_high o0)) - (1 : Int32)) / (2 : Int32)) c43 o0 _ _ hP hS ls (lv_sub hl [1, 2, 0] rfl) hf
  · replace hf := x_f hc hf
    refine lv_aload_n hx hb d_Piece_faceOutward_21 rfl (lv_at hl 2 rfl) ?_
    refine lv_iload_n hx hb d_Piece_faceOutward_22 rfl (lv_at hl 0 rfl) ?_
    refine lv_aload_n hx hb d_Piece_faceOutward_23 rfl (lv_at hl 1 rfl) ?_
    refine va_get (D := X.1) (ci := 4) (v := .int (Piece_line o0)) (C := "MaskEdges$Piece") (T := F_Piece) (N := 12) hx hb ht in_Piece hown hK hP 0 rfl rfl 1 (by decide) (ht _ xw_124) (fun _ h9 => h9) rfl d_Piece_faceOutward_24 ?_
    refine lv_iconst (v := (1 : Int32)) hx hb d_Piece_faceOutward_27 (by decide) ?_
    refine lv_isub hx hb d_Piece_faceOutward_28 ?_
    obtain ⟨c29, e29, hf⟩ := x_b hf
    refine xcR (va_runV (As := [.int ((((Piece_low o0) + (Piece_high o0)) - (1 : Int32)) / (2 : Int32)), .int ((Piece_line o0) - (1 : Int32))]) (rest := []) ⟨hx, hb, hml, hown, ht⟩ (c_Outline_holds l X h1 a1_0 a1_1 o1 ((((Piece_low o0) + (Piece_high o0)) - (1 : Int32)) / (2 : Int32)) ((Piece_line o0) - (1 : Int32)) (xkept hP1 hno1 hS) e29) (cwV 2 ht (xgV xw_311 xw_211 xw_212 xw_41 xw_213) rfl rfl rfl (by decide +kernel) ⟨Nat.le_of_ble_eq_true rfl, Nat.le_of_ble_eq_true rfl⟩) (xPV hKK (va_recv hK (xkept hP1 hno1 hS) (ci := 3) (q0 := 0) rfl rfl)) rfl rfl hl.1 rfl (lv_room (Nat.le_of_ble_eq_true rfl)) d_Piece_faceOutward_29 ⟨Nat.zero_le _, Nat.zero_le _⟩) ?_
    refine W.eq (g2 := F0 m 32 ls [.int c29]) rfl ?_
    refine lv_goto (tgt := 46) hx hb d_Piece_faceOutward_32 (by decide) ?_
    exact hL46 ((((Piece_low o0) + (Piece_high o0)) - (1 : Int32)) / (2 : Int32)) c29 o0 _ _ hP hS ls (lv_sub hl [1, 2, 0] rfl) hf
def f_Piece_lieOn_98 (o1 : t_Outline) (v3 : Int32) (v4 : Int32) (v5 : Int32) (v6 : Int32) (s0 : Int32) (o0 : t_Piece) : Option (t_Piece) :=
  if xz s0 = true then
  (f_Piece_pointAt v5 v6 v3 v4).bind fun c113 =>
    (f_Piece_pointAt v5 v6 (v3 + (1 : Int32)) v4).bind fun c127 =>
    (f_Piece_faceOutward o1 (Piece_u_high (Piece_u_low (Piece_u_move (Piece_u_last o0 s0) (0 : Int32)) (if c127 < c113 then c127 else c113)) (if c113 < c127 then c127 else c113))).bind fun c156 =>
    some c156
else none
def f_Piece_lieOn_81 (o1 : t_Outline) (v3 : Int32) (v4 : Int32) (v5 : Int32) (v6 : Int32) (s0 : Int32) (o0 : t_Piece) : Option (t_Piece) :=
  if xz s0 = true then
  if v3 = (v4 - (1 : Int32)) then
    (f_Piece_lieOn_98 o1) v3 v4 v5 v6 (1 : Int32) (Piece_u_first o0 s0)
  else
    (f_Piece_lieOn_98 o1) v3 v4 v5 v6 (0 : Int32) (Piece_u_first o0 s0)
else none
def f_Piece_lieOn_46 (o1 : t_Outline) (v3 : Int32) (v4 : Int32) (v5 : Int32) (v6 : Int32) (s0 : Int32) (o0 : t_Piece) : Option (t_Piece) :=
  if v3 = 0 then
  (f_Piece_lieOn_81 o1) v3 v4 v5 v6 (1 : Int32) (Piece_u_sideHigh (Piece_u_sideLow (Piece_u_line o0 s0) (if v6 < v5 then v6 else v5)) (if v5 < v6 then v6 else v5))
else
  (f_Piece_lieOn_81 o1) v3 v4 v5 v6 (0 : Int32) (Piece_u_sideHigh (Piece_u_sideLow (Piece_u_line o0 s0) (if v6 < v5 then v6 else v5)) (if v5 < v6 then v6 else v5))
def f_Piece_lieOn (o1 : t_Outline) (v2 : Int32) (v3 : Int32) (v4 : Int32) (o0 : t_Piece) : Option (t_Piece) :=
  (f_Outline_sideStart o1 v2).bind fun c2 =>
  (f_Outline_sideEnd o1 v2).bind fun c9 =>
  (f_Outline_isAlongX o1 v2).bind fun c17 =>
  if xz c17 = true then
  if (Piece_alongX (Piece_u_alongX o0 c17)) = 0 then
    if xin v2 16 = true then
      (f_Piece_lieOn_46 o1) v3 v4 c2 c9 (Outline_xs o1 v2.toNatClampNeg) (Piece_u_alongX o0 c17)
    else none
  else
    if xin v2 16 = true then
      (f_Piece_lieOn_46 o1) v3 v4 c2 c9 (Outline_ys o1 v2.toNatClampNeg) (Piece_u_alongX o0 c17)
    else none
else none
set_option maxHeartbeats 4000000 in
set_option maxRecDepth 100000 in
theorem c_Piece_lieOn (l : Launch) (X : xG) {H : Heap} (h0 : Nat) (o0 : t_Piece) (h1 a1_0 a1_1 : Nat) (o1 : t_Outline) (v2 : Int32) (v3 : Int32) (v4 : Int32) {res : t_Piece} (hP0 : va_P X.1 vwCl (w_Piece X h0 o0) H) (hP1 : va_P X.1 vwCl (w_Outline X h1 a1_0 a1_1 o1) H) (hnd : [h0].Nodup) (hno1 : ∀ q ∈ [h1, a1_0, a1_1], ¬ xAl [h0] q) (hf : f_Piece_lieOn o1 v2 v3 v4 o0 = some res) : xM l y_Piece_lieOn (Cond.code y_Piece_lieOn prog_6_method_2_code 9 none :: xT) ({ frames := 3, cells := 0, slots := 0, locals := 72 } : Room) (xK X) [.ref h0, .ref h1, .int v2, .int v3, .int v4] H (xAl [h0]) none (fun H1 => va_P X.1 vwCl (w_Piece X h0 res) H1) := by
  refine Met.ofW (cc := prog_6_method_2_code) (maxL := 9) (ret := none) (by decide) rfl ?_
  intro p e s m args below meth c s₁ B hml hv
  obtain ⟨ha, hH, hKK⟩ := hv
  subst hH
  have hx := B.exec
  have hb := B.bytes
  have hr := B.returns
  have ht : ∀ w ∈ xT, w.before args s = true := fun w h => atoms_spec (ws := (Cond.code y_Piece_lieOn prog_6_method_2_code 9 none :: xT)) B.pre w (List.mem_cons_of_mem _ h)
  have hown : s.vm.findClass "MaskEdges$Piece" = some m.cls := findClass_of_methodNamed B.named
  have hlocks := B.notSynchronized
  have hK := hKK.1
  rw [show entryFrame m args 9 = entryFrame m ([.ref h0, .ref h1, .int v2, .int v3, .int v4] : List Value).toArray 9 from by rw [ha]]
  clear ha
  have hP := hP0
  have hD : va_D (xAl [h0]) (w_Piece X h0 o0) := xDl rfl hnd
  have hS : va_S (xAl [h0]) s.heap s.heap [] := va_S.rf
  have hl := lv_entry ([.ref h0, .ref h1, .int v2, .int v3, .int v4]) (n := 9) (Nat.le_of_ble_eq_true rfl)
  rw [lg_entry_eq]
  generalize (lg_sl ([.ref h0, .ref h1, .int v2, .int v3, .int v4]) ++ List.replicate (9 - (lg_sl ([.ref h0, .ref h1, .int v2, .int v3, .int v4])).length) Slot.unset).toArray = ls at hl ⊢
  replace hl : lv_has ls 9 [(0, .ref h0), (1, .ref h1), (2, .int v2), (3, .int v3), (4, .int v4)] := hl
  refine x_Q (fun Q hQ => ?_)
  have hL98 : ∀ (v3 : Int32) (v4 : Int32) (v5 : Int32) (v6 : Int32) (s0 : Int32) (o0 : t_Piece), ∀ (H : Heap) (locs : List Loc), va_P X.1 vwCl (w_Piece X h0 o0) H → va_S (xAl [h0]) s.heap H locs → ∀ (ls : Array Slot), lv_has ls 9 [(0, .ref h0), (1, .ref h1), (3, .int v3), (4, .int v4), (5, .int v5), (6, .int v6)] → f_Piece_lieOn_98 o1 v3 v4 v5 v6 s0 o0 = some res → W p l e (headSpec (Cond.code y_Piece_lieOn prog_6_method_2_code 9 none :: xT) ({ frames := 3, cells := 0, slots := 0, locals := 72 } : Room)).room s m args below meth c H locs 0 0 Q (F0 m 98 ls [.int s0, .ref h0]) := by
    intro v3 v4 v5 v6 s0 o0 H locs hP hS ls hl hf
    unfold f_Piece_lieOn_98 at hf
    have hD : va_D (xAl [h0]) (w_Piece X h0 o0) := xDl rfl hnd
    obtain ⟨z98, hf⟩ := x_g hf
    refine va_put (D := X.1) (ci := 4) (v := .int s0) (ty := .boolean) (C := "MaskEdges$Piece") (T := F_Piece) (N := 12) hx hb ht in_Piece ty_Piece tyk_Piece nm_Piece hown hK hP hD hS 0 rfl rfl 7 (by decide) (ht _ xw_134) (fun _ h9 => h9) rfl (by decide +kernel) (xz_n z98) (xz_f z98) (Nat.le_of_ble_eq_true rfl) d_Piece_lieOn_98 (fun H locs hP hD hS => ?_)
    replace hP : va_P X.1 vwCl (w_Piece X h0 (Piece_u_last o0 s0)) H := hP
    replace hD : va_D _ (w_Piece X h0 (Piece_u_last o0 s0)) := hD
    refine lv_aload_n hx hb d_Piece_lieOn_101 rfl (lv_at hl 0 rfl) ?_
    refine lv_iconst (v := (0 : Int32)) hx hb d_Piece_lieOn_102 (by decide) ?_
    refine va_put (D := X.1) (ci := 4) (v := .int (0 : Int32)) (ty := .int) (C := "MaskEdges$Piece") (T := F_Piece) (N := 12) hx hb ht in_Piece ty_Piece tyk_Piece nm_Piece hown hK hP hD hS 0 rfl rfl 11 (by decide) (ht _ xw_141) (fun _ h9 => h9) rfl (by decide +kernel) rfl rfl (Nat.le_of_ble_eq_true rfl) d_Piece_lieOn_103 (fun H locs hP hD hS => ?_)
    replace hP : va_P X.1 vwCl (w_Piece X h0 (Piece_u_move (Piece_u_last o0 s0) (0 : Int32))) H := hP
    replace hD : va_D _ (w_Piece X h0 (Piece_u_move (Piece_u_last o0 s0) (0 : Int32))) := hD
    refine lv_iload hx hb d_Piece_lieOn_106 (lv_at hl 4 rfl) ?_
    refine lv_iload hx hb d_Piece_lieOn_108 (lv_at hl 5 rfl) ?_
    refine lv_iload_n hx hb d_Piece_lieOn_110 rfl (lv_at hl 2 rfl) ?_
    refine lv_iload hx hb d_Piece_lieOn_111 (lv_at hl 3 rfl) ?_
    obtain ⟨c113, e113, hf⟩ := x_b hf
    refine xcR (va_runS (As := [.int v5, .int v6, .int v3, .int v4]) (rest := []) ⟨hx, hb, hml, hown, ht⟩ (c_Piece_pointAt l X v5 v6 v3 v4 e113) (cwS 4 ht (xgS xw_304 xw_305 xw_42 xw_306) rfl rfl rfl (by decide +kernel) ⟨Nat.le_of_ble_eq_true rfl, Nat.le_of_ble_eq_true rfl⟩) (xPS hKK) rfl rfl hl.1 rfl (lv_room (Nat.le_of_ble_eq_true rfl)) d_Piece_lieOn_113 ⟨Nat.zero_le _, Nat.zero_le _⟩) ?_
    refine W.eq (g2 := F0 m 116 ls [.int c113]) rfl ?_
    refine lv_istore (lv' := [(7, .int c113), (0, .ref h0), (1, .ref h1), (3, .int v3), (4, .int v4), (5, .int v5), (6, .int v6)]) hx hb d_Piece_lieOn_116 hl (by decide) rfl (fun ls hl => ?_)
    refine lv_iload hx hb d_Piece_lieOn_118 (lv_at hl 5 rfl) ?_
    refine lv_iload hx hb d_Piece_lieOn_120 (lv_at hl 6 rfl) ?_
    refine lv_iload_n hx hb d_Piece_lieOn_122 rfl (lv_at hl 3 rfl) ?_
    refine lv_iconst (v := (1 : Int32)) hx hb d_Piece_lieOn_123 (by decide) ?_
    refine lv_iadd hx hb d_Piece_lieOn_124 ?_
    refine lv_iload hx hb d_Piece_lieOn_125 (lv_at hl 4 rfl) ?_
    obtain ⟨c127, e127, hf⟩ := x_b hf
    refine xcR (va_runS (As := [.int v5, .int v6, .int (v3 + (1 : Int32)), .int v4]) (rest := []) ⟨hx, hb, hml, hown, ht⟩ (c_Piece_pointAt l X v5 v6 (v3 + (1 : Int32)) v4 e127) (cwS 4 ht (xgS xw_304 xw_305 xw_42 xw_306) rfl rfl rfl (by decide +kernel) ⟨Nat.le_of_ble_eq_true rfl, Nat.le_of_ble_eq_true rfl⟩) (xPS hKK) rfl rfl hl.1 rfl (lv_room (Nat.le_of_ble_eq_true rfl)) d_Piece_lieOn_127 ⟨Nat.zero_le _, Nat.zero_le _⟩) ?_
    refine W.eq (g2 := F0 m 130 ls [.int c127]) rfl ?_
    refine lv_istore (lv' := [(8, .int c127), (7, .int c113), (0, .ref h0), (1, .ref h1), (3, .int v3), (4, .int v4), (5, .int v5), (6, .int v6)]) hx hb d_Piece_lieOn_130 hl (by decide) rfl (fun ls hl => ?_)
    refine lv_aload_n hx hb d_Piece_lieOn_132 rfl (lv_at hl 2 rfl) ?_
    refine lv_iload hx hb d_Piece_lieOn_133 (lv_at hl 1 rfl) ?_
    refine lv_iload hx hb d_Piece_lieOn_135 (lv_at hl 0 rfl) ?_
    refine va_mmin hx hb (hml.trans hl.1.symm) hown (ht _ xw_302) (ht _ xw_215) (ht _ xw_44) (ht _ xw_math_min) (Nat.le_of_ble_eq_true rfl) (Nat.le_of_ble_eq_true rfl) (Nat.zero_le _) (Nat.zero_le _) d_Piece_lieOn_137 ?_
    refine va_put (D := X.1) (ci := 4) (v := .int (if c127 < c113 then c127 else c113)) (ty := .int) (C := "MaskEdges$Piece") (T := F_Piece) (N := 12) hx hb ht in_Piece ty_Piece tyk_Piece nm_Piece hown hK hP hD hS 0 rfl rfl 2 (by decide) (ht _ xw_125) (fun _ h9 => h9) rfl (by decide +kernel) rfl rfl (Nat.le_of_ble_eq_true rfl) d_Piece_lieOn_140 (fun H locs hP hD hS => ?_)
    replace hP : va_P X.1 vwCl (w_Piece X h0 (Piece_u_low (Piece_u_move (Piece_u_last o0 s0) (0 : Int32)) (if c127 < c113 then c127 else c113))) H := hP
    replace hD : va_D _ (w_Piece X h0 (Piece_u_low (Piece_u_move (Piece_u_last o0 s0) (0 : Int32)) (if c127 < c113 then c127 else c113))) := hD
    refine lv_aload_n hx hb d_Piece_lieOn_143 rfl (lv_at hl 2 rfl) ?_
    refine lv_iload hx hb d_Piece_lieOn_144 (lv_at hl 1 rfl) ?_
    refine lv_iload hx hb d_Piece_lieOn_146 (lv_at hl 0 rfl) ?_
    refine va_mmax hx hb (hml.trans hl.1.symm) hown (ht _ xw_303) (ht _ xw_218) (ht _ xw_44) (ht _ xw_math_max) (Nat.le_of_ble_eq_true rfl) (Nat.le_of_ble_eq_true rfl) (Nat.zero_le _) (Nat.zero_le _) d_Piece_lieOn_148 ?_
    refine va_put (D := X.1) (ci := 4) (v := .int (if c113 < c127 then c127 else c113)) (ty := .int) (C := "MaskEdges$Piece") (T := F_Piece) (N := 12) hx hb ht in_Piece ty_Piece tyk_Piece nm_Piece hown hK hP hD hS 0 rfl rfl 3 (by decide) (ht _ xw_127) (fun _ h9 => h9) rfl (by decide +kernel) rfl rfl (Nat.le_of_ble_eq_true rfl) d_Piece_lieOn_151 (fun H locs hP hD hS => ?_)
    replace hP : va_P X.1 vwCl (w_Piece X h0 (Piece_u_high (Piece_u_low (Piece_u_move (Piece_u_last o0 s0) (0 : Int32)) (if c127 < c113 then c127 else c113)) (if c113 < c127 then c127 else c113))) H := hP
    replace hD : va_D _ (w_Piece X h0 (Piece_u_high (Piece_u_low (Piece_u_move (Piece_u_last o0 s0) (0 : Int32)) (if c127 < c113 then c127 else c113)) (if c113 < c127 then c127 else c113))) := hD
    refine lv_aload_n hx hb d_Piece_lieOn_154 rfl (lv_at hl 2 rfl) ?_
    refine lv_aload_n hx hb d_Piece_lieOn_155 rfl (lv_at hl 3 rfl) ?_
    obtain ⟨c156, e156, hf⟩ := x_b hf
    refine xc (va_runV (As := [.ref h1]) (rest := []) ⟨hx, hb, hml, hown, ht⟩ (c_Piece_faceOutward l X h0 (Piece_u_high (Piece_u_low (Piece_u_move (Piece_u_last o0 s0) (0 : Int32)) (if c127 < c113 then c127 else c113)) (if c113 < c127 then c127 else c113)) h1 a1_0 a1_1 o1 hP (xkept hP1 hno1 hS) hnd hno1 e156) (cwV 1 ht (xgV xw_308 xw_309 xw_6 xw_42 xw_310) rfl rfl rfl (by decide +kernel) ⟨Nat.le_of_ble_eq_true rfl, Nat.le_of_ble_eq_true rfl⟩) (xPV hKK (va_recv hK hP (ci := 4) (q0 := 0) rfl rfl)) rfl rfl hl.1 rfl (lv_room (Nat.le_of_ble_eq_true rfl)) d_Piece_lieOn_156 ⟨Nat.zero_le _, Nat.zero_le _⟩) (fun H1 L hq hz => ?_)
    replace hS := xS_call hS hz (fun _ h => h)
    replace hP : va_P X.1 vwCl (w_Piece X h0 c156) H1 := hq
    replace hD : va_D _ (w_Piece X h0 c156) := xDl rfl hnd
    clear hq hz
    refine W.eq (g2 := F0 m 159 ls []) rfl ?_
    replace hf := x_s hf
    subst hf
    subst hQ
    exact W.vret hx hb hr (fun t ht hW => ⟨⟨rfl, by rw [ht]; exact hP⟩, hS.F ht⟩) hS.2.2 d_Piece_lieOn_159
  have hL81 : ∀ (v3 : Int32) (v4 : Int32) (v5 : Int32) (v6 : Int32) (s0 : Int32) (o0 : t_Piece), ∀ (H : Heap) (locs : List Loc), va_P X.1 vwCl (w_Piece X h0 o0) H → va_S (xAl [h0]) s.heap H locs → ∀ (ls : Array Slot), lv_has ls 9 [(0, .ref h0), (1, .ref h1), (3, .int v3), (4, .int v4), (5, .int v5), (6, .int v6)] → f_Piece_lieOn_81 o1 v3 v4 v5 v6 s0 o0 = some res → W p l e (headSpec (Cond.code y_Piece_lieOn prog_6_method_2_code 9 none :: xT) ({ frames := 3, cells := 0, slots := 0, locals := 72 } : Room)).room s m args below meth c H locs 0 0 Q (F0 m 81 ls [.int s0, .ref h0]) := by
    intro v3 v4 v5 v6 s0 o0 H locs hP hS ls hl hf
    unfold f_Piece_lieOn_81 at hf
    have hD : va_D (xAl [h0]) (w_Piece X h0 o0) := xDl rfl hnd
    obtain ⟨z81, hf⟩ := x_g hf
    refine va_put (D := X.1) (ci := 4) (v := .int s0) (ty := .boolean) (C := "MaskEdges$Piece") (T := F_Piece) (N := 12) hx hb ht in_Piece ty_Piece tyk_Piece nm_Piece hown hK hP hD hS 0 rfl rfl 6 (by decide) (ht _ xw_133) (fun _ h9 => h9) rfl (by decide +kernel) (xz_n z81) (xz_f z81) (Nat.le_of_ble_eq_true rfl) d_Piece_lieOn_81 (fun H locs hP hD hS => ?_)
    replace hP : va_P X.1 vwCl (w_Piece X h0 (Piece_u_first o0 s0)) H := hP
    replace hD : va_D _ (w_Piece X h0 (Piece_u_first o0 s0)) := hD
    refine lv_aload_n hx hb d_Piece_lieOn_84 rfl (lv_at hl 0 rfl) ?_
    refine lv_iload_n hx hb d_Piece_lieOn_85 rfl (lv_at hl 2 rfl) ?_
    refine lv_iload hx hb d_Piece_lieOn_86 (lv_at hl 3 rfl) ?_
    refine lv_iconst (v := (1 : Int32)) hx hb d_Piece_lieOn_88 (by decide) ?_
    refine lv_isub hx hb d_Piece_lieOn_89 ?_
    refine lv_icmp_ne (tgt := 97) hx hb d_Piece_lieOn_90 (by decide) (fun hc => ?_) (fun hc => ?_)
    · replace hf := x_f hc hf
      refine lv_iconst (v := (0 : Int32)) hx hb d_Piece_lieOn_97 (by decide) ?_
      exact hL98 v3 v4 v5 v6 (0 : Int32) (Piece_u_first o0 s0) _ _ hP hS ls (lv_sub hl [0, 1, 2, 3, 4, 5] rfl) hf
    · replace hf := x_t hc hf
      refine lv_iconst (v := (1 : Int32)) hx hb d_Piece_lieOn_93 (by decide) ?_
      refine lv_goto (tgt := 98) hx hb d_Piece_lieOn_94 (by decide) ?_
      exact hL98 v3 v4 v5 v6 (1 : Int32) (Piece_u_first o0 s0) _ _ hP hS ls (lv_sub hl [0, 1, 2, 3, 4, 5] rfl) hf
  have hL46 : ∀ (v3 : Int32) (v4 : Int32) (v5 : Int32) (v6 : Int32) (s0 : Int32) (o0 : t_Piece), ∀ (H : Heap) (locs : List Loc), va_P X.1 vwCl (w_Piece X h0 o0) H → va_S (xAl [h0]) s.heap H locs → ∀ (ls : Array Slot), lv_has ls 9 [(0, .ref h0), (1, .ref h1), (3, .int v3), (4, .int v4), (5, .int v5), (6, .int v6)] → f_Piece_lieOn_46 o1 v3 v4 v5 v6 s0 o0 = some res → W p l e (headSpec (Cond.code y_Piece_lieOn prog_6_method_2_code 9 none :: xT) ({ frames := 3, cells := 0, slots := 0, locals := 72 } : Room)).room s m args below meth c H locs 0 0 Q (F0 m 46 ls [.int s0, .ref h0]) := by
    intro v3 v4 v5 v6 s0 o0 H locs hP hS ls hl hf
    unfold f_Piece_lieOn_46 at hf
    have hD : va_D (xAl [h0]) (w_Piece X h0 o0) := xDl rfl hnd
    refine va_put (D := X.1) (ci := 4) (v := .int s0) (ty := .int) (C := "MaskEdges$Piece") (T := F_Piece) (N := 12) hx hb ht in_Piece ty_Piece tyk_Piece nm_Piece hown hK hP hD hS 0 rfl rfl 1 (by decide) (ht _ xw_124) (fun _ h9 => h9) rfl (by decide +kernel) rfl rfl (Nat.le_of_ble_eq_true rfl) d_Piece_lieOn_46 (fun H locs hP hD hS => ?_)
    replace hP : va_P X.1 vwCl (w_Piece X h0 (Piece_u_line o0 s0)) H := hP
    replace hD : va_D _ (w_Piece X h0 (Piece_u_line o0 s0)) := hD
    refine lv_aload_n hx hb d_Piece_lieOn_49 rfl (lv_at hl 0 rfl) ?_
    refine lv_iload hx hb d_Piece_lieOn_50 (lv_at hl 4 rfl) ?_
    refine lv_iload hx hb d_Piece_lieOn_52 (lv_at hl 5 rfl) ?_
    refine va_mmin hx hb (hml.trans hl.1.symm) hown (ht _ xw_302) (ht _ xw_215) (ht _ xw_44) (ht _ xw_math_min) (Nat.le_of_ble_eq_true rfl) (Nat.le_of_ble_eq_true rfl) (Nat.zero_le _) (Nat.zero_le _) d_Piece_lieOn_54 ?_
    refine va_put (D := X.1) (ci := 4) (v := .int (if v6 < v5 then v6 else v5)) (ty := .int) (C := "MaskEdges$Piece") (T := F_Piece) (N := 12) hx hb ht in_Piece ty_Piece tyk_Piece nm_Piece hown hK hP hD hS 0 rfl rfl 4 (by decide) (ht _ xw_129) (fun _ h9 => h9) rfl (by decide +kernel) rfl rfl (Nat.le_of_ble_eq_true rfl) d_Piece_lieOn_57 (fun H locs hP hD hS => ?_)
    replace hP : va_P X.1 vwCl (w_Piece X h0 (Piece_u_sideLow (Piece_u_line o0 s0) (if v6 < v5 then v6 else v5))) H := hP
    replace hD : va_D _ (w_Piece X h0 (Piece_u_sideLow (Piece_u_line o0 s0) (if v6 < v5 then v6 else v5))) := hD
    refine lv_aload_n hx hb d_Piece_lieOn_60 rfl (lv_at hl 0 rfl) ?_
    refine lv_iload hx hb d_Piece_lieOn_61 (lv_at hl 4 rfl) ?_
    refine lv_iload hx hb d_Piece_lieOn_63 (lv_at hl 5 rfl) ?_
    refine va_mmax hx hb (hml.trans hl.1.symm) hown (ht _ xw_303) (ht _ xw_218) (ht _ xw_44) (ht _ xw_math_max) (Nat.le_of_ble_eq_true rfl) (Nat.le_of_ble_eq_true rfl) (Nat.zero_le _) (Nat.zero_le _) d_Piece_lieOn_65 ?_
    refine va_put (D := X.1) (ci := 4) (v := .int (if v5 < v6 then v6 else v5)) (ty := .int) (C := "MaskEdges$Piece") (T := F_Piece) (N := 12) hx hb ht in_Piece ty_Piece tyk_Piece nm_Piece hown hK hP hD hS 0 rfl rfl 5 (by decide) (ht _ xw_131) (fun _ h9 => h9) rfl (by decide +kernel) rfl rfl (Nat.le_of_ble_eq_true rfl) d_Piece_lieOn_68 (fun H locs hP hD hS => ?_)
    replace hP : va_P X.1 vwCl (w_Piece X h0 (Piece_u_sideHigh (Piece_u_sideLow (Piece_u_line o0 s0) (if v6 < v5 then v6 else v5)) (if v5 < v6 then v6 else v5))) H := hP
    replace hD : va_D _ (w_Piece X h0 (Piece_u_sideHigh (Piece_u_sideLow (Piece_u_line o0 s0) (if v6 < v5 then v6 else v5)) (if v5 < v6 then v6 else v5))) := hD
    refine lv_aload_n hx hb d_Piece_lieOn_71 rfl (lv_at hl 0 rfl) ?_
    refine lv_iload_n hx hb d_Piece_lieOn_72 rfl (lv_at hl 2 rfl) ?_
    refine lv_if_ne (tgt := 80) hx hb d_Piece_lieOn_73 (by decide) (fun hc => ?_) (fun hc => ?_)
    · replace hf := x_f hc hf
      refine lv_iconst (v := (0 : Int32)) hx hb d_Piece_lieOn_80 (by decide) ?_
      exact hL81 v3 v4 v5 v6 (0 : Int32) (Piece_u_sideHigh (Piece_u_sideLow (Piece_u_line o0 s0) (if v6 < v5 then v6 else v5)) (if v5 < v6 then v6 else v5)) _ _ hP hS ls (lv_sub hl [0, 1, 2, 3, 4, 5] rfl) hf
    · replace hf := x_t hc hf
      refine lv_iconst (v := (1 : Int32)) hx hb d_Piece_lieOn_76 (by decide) ?_
      refine lv_goto (tgt := 81) hx hb d_Piece_lieOn_77 (by decide) ?_
      exact hL81 v3 v4 v5 v6 (1 : Int32) (Piece_u_sideHigh (Piece_u_sideLow (Piece_u_line o0 s0) (if v6 < v5 then v6 else v5)) (if v5 < v6 then v6 else v5)) _ _ hP hS ls (lv_sub hl [0, 1, 2, 3, 4, 5] rfl) hf
  unfold f_Piece_lieOn at hf
  refine lv_aload_n hx hb d_Piece_lieOn_0 rfl (lv_at hl 1 rfl) ?_
  refine lv_iload_n hx hb d_Piece_lieOn_1 rfl (lv_at hl 2 rfl) ?_
  obtain ⟨c2, e2, hf⟩ := x_b hf
  refine xcR (va_runV (As := [.int v2]) (rest := []) ⟨hx, hb, hml, hown, ht⟩ (c_Outline_sideStart l X h1 a1_0 a1_1 o1 v2 (xkept hP1 hno1 hS) e2) (cwV 1 ht (xgV xw_299 xw_286 xw_287 xw_41 xw_288) rfl rfl rfl (by decide +kernel) ⟨Nat.le_of_ble_eq_true rfl, Nat.le_of_ble_eq_true rfl⟩) (xPV hKK (va_recv hK (xkept hP1 hno1 hS) (ci := 3) (q0 := 0) rfl rfl)) rfl rfl hl.1 rfl (lv_room (Nat.le_of_ble_eq_true rfl)) d_Piece_lieOn_2 ⟨Nat.zero_le _, Nat.zero_le _⟩) ?_
  refine W.eq (g2 := F0 m 5 ls [.int c2]) rfl ?_
  refine lv_istore (lv' := [(5, .int c2), (0, .ref h0), (1, .ref h1), (2, .int v2), (3, .int v3), (4, .int v4)]) hx hb d_Piece_lieOn_5 hl (by decide) rfl (fun ls hl => ?_)
  refine lv_aload_n hx hb d_Piece_lieOn_7 rfl (lv_at hl 2 rfl) ?_
  refine lv_iload_n hx hb d_Piece_lieOn_8 rfl (lv_at hl 3 rfl) ?_
  obtain ⟨c9, e9, hf⟩ := x_b hf
  refine xcR (va_runV (As := [.int v2]) (rest := []) ⟨hx, hb, hml, hown, ht⟩ (c_Outline_sideEnd l X h1 a1_0 a1_1 o1 v2 (xkept hP1 hno1 hS) e9) (cwV 1 ht (xgV xw_300 xw_282 xw_283 xw_41 xw_284) rfl rfl rfl (by decide +kernel) ⟨Nat.le_of_ble_eq_true rfl, Nat.le_of_ble_eq_true rfl⟩) (xPV hKK (va_recv hK (xkept hP1 hno1 hS) (ci := 3) (q0 := 0) rfl rfl)) rfl rfl hl.1 rfl (lv_room (Nat.le_of_ble_eq_true rfl)) d_Piece_lieOn_9 ⟨Nat.zero_le _, Nat.zero_le _⟩) ?_
  refine W.eq (g2 := F0 m 12 ls [.int c9]) rfl ?_
  refine lv_istore (lv' := [(6, .int c9), (5, .int c2), (0, .ref h0), (1, .ref h1), (2, .int v2), (3, .int v3), (4, .int v4)]) hx hb d_Piece_lieOn_12 hl (by decide) rfl (fun ls hl => ?_)
  refine lv_aload_n hx hb d_Piece_lieOn_14 rfl (lv_at hl 2 rfl) ?_
  refine lv_aload_n hx hb d_Piece_lieOn_15 rfl (lv_at hl 3 rfl) ?_
  refine lv_iload_n hx hb d_Piece_lieOn_16 rfl (lv_at hl 4 rfl) ?_
  obtain ⟨c17, e17, hf⟩ := x_b hf
  refine xcR (va_runV (As := [.int v2]) (rest := [.ref h0]) ⟨hx, hb, hml, hown, ht⟩ (c_Outline_isAlongX l X h1 a1_0 a1_1 o1 v2 (xkept hP1 hno1 hS) e17) (cwV 1 ht (xgV xw_301 xw_200 xw_201 xw_41 xw_202) rfl rfl rfl (by decide +kernel) ⟨Nat.le_of_ble_eq_true rfl, Nat.le_of_ble_eq_true rfl⟩) (xPV hKK (va_recv hK (xkept hP1 hno1 hS) (ci := 3) (q0 := 0) rfl rfl)) rfl rfl hl.1 rfl (lv_room (Nat.le_of_ble_eq_true rfl)) d_Piece_lieOn_17 ⟨Nat.zero_le _, Nat.zero_le _⟩) ?_
  refine W.eq (g2 := F0 m 20 ls [.int c17, .ref h0]) rfl ?_
  obtain ⟨z20, hf⟩ := x_g hf
  refine va_put (D := X.1) (ci := 4) (v := .int c17) (ty := .boolean) (C := "MaskEdges$Piece") (T := F_Piece) (N := 12) hx hb ht in_Piece ty_Piece tyk_Piece nm_Piece hown hK hP hD hS 0 rfl rfl 0 (by decide) (ht _ xw_120) (fun _ h9 => h9) rfl (by decide +kernel) (xz_n z20) (xz_f z20) (Nat.le_of_ble_eq_true rfl) d_Piece_lieOn_20 (fun H locs hP hD hS => ?_)
  replace hP : va_P X.1 vwCl (w_Piece X h0 (Piece_u_alongX o0 c17)) H := hP
  replace hD : va_D _ (w_Piece X h0 (Piece_u_alongX o0 c17)) := hD
  refine lv_aload_n hx hb d_Piece_lieOn_23 rfl (lv_at hl 2 rfl) ?_
  refine lv_aload_n hx hb d_Piece_lieOn_24 rfl (lv_at hl 2 rfl) ?_
  refine va_get (D := X.1) (ci := 4) (v := .int (Piece_alongX (Piece_u_alongX o0 c17))) (C := "MaskEdges$Piece") (T := F_Piece) (N := 12) hx hb ht in_Piece hown hK hP 0 rfl rfl 0 (by decide) (ht _ xw_120) (fun _ h9 => h9) rfl d_Piece_lieOn_25 ?_
  refine lv_if_eq (tgt := 40) hx hb d_Piece_lieOn_28 (by decide) (fun hc => ?_) (fun hc => ?_)
  · replace hf := x_t hc hf
    refine lv_aload_n hx hb d_Piece_lieOn_40 rfl (lv_at hl 3 rfl) ?_
    refine va_get (D := X.1) (ci := 3) (v := .ref a1_0) (C := "MaskEdges$Outline") (T := F_Outline) (N := 4) hx hb ht in_Outline hown hK (xkept hP1 hno1 hS) 0 rfl rfl 0 (by decide) (ht _ xw_105) (fun _ h9 => h9) rfl d_Piece_lieOn_41 ?_
    refine lv_iload_n hx hb d_Piece_lieOn_44 rfl (lv_at hl 4 rfl) ?_
    obtain ⟨g45, hf⟩ := x_g hf
    refine va_iald hx hb hK (xkept hP1 hno1 hS) 1 0 rfl rfl (xin_in g45) d_Piece_lieOn_45 ?_
    exact hL46 v3 v4 c2 c9 (Outline_xs o1 v2.toNatClampNeg) (Piece_u_alongX o0 c17) _ _ hP hS ls (lv_sub hl [2, 3, 5, 6, 1, 0] rfl) hf
  · replace hf := x_f hc hf
    refine lv_aload_n hx hb d_Piece_lieOn_31 rfl (lv_at hl 3 rfl) ?_
    refine va_get (D := X.1) (ci := 3) (v := .ref a1_1) (C := "MaskEdges$Outline") (T := F_Outline) (N := 4) hx hb ht in_Outline hown hK (xkept hP1 hno1 hS) 0 rfl rfl 1 (by decide) (ht _ xw_107) (fun _ h9 => h9) rfl d_Piece_lieOn_32 ?_
    refine lv_iload_n hx hb d_Piece_lieOn_35 rfl (lv_at hl 4 rfl) ?_
    obtain ⟨g36, hf⟩ := x_g hf
    refine va_iald hx hb hK (xkept hP1 hno1 hS) 2 0 rfl rfl (xin_in g36) d_Piece_lieOn_36 ?_
    refine lv_goto (tgt := 46) hx hb d_Piece_lieOn_37 (by decide) ?_
    exact hL46 v3 v4 c2 c9 (Outline_ys o1 v2.toNatClampNeg) (Piece_u_alongX o0 c17) _ _ hP hS ls (lv_sub hl [2, 3, 5, 6, 1, 0] rfl) hf
end
