-- ===== PART A: goes FIRST, ahead of the names: the tables' words, and 'selects' of the private methods out of them =====
/-- a private method of a class that the tables say can be made, by its rows of tables_1 -/
def lw_okq (q : MethodName × Nat) : Prop := (q.1.cls ≠ "java/lang/invoke/MethodHandle" ∧ q.1.cls ≠ "java/lang/invoke/VarHandle") ∧ Cond.instantiable q.1.cls q.2 ∈ tables_1 ∧ Cond.privateMethod q.1 ∈ tables_1 ∧ Cond.instanceMethod q.1 ∈ tables_1
theorem lw_p0 : lw_okq (⟨"MaskEdges$Outline", "maySideGoTo", "(II)Z"⟩, 4) := ⟨⟨by decide +kernel, by decide +kernel⟩, List.mem_of_getElem? (i := 82) (by decide +kernel), List.mem_of_getElem? (i := 214) (by decide +kernel), List.mem_of_getElem? (i := 215) (by decide +kernel)⟩
theorem lw_p1 : lw_okq (⟨"MaskEdges", "addToTarget", "(LMaskEdges$Outline;)V"⟩, 14) := ⟨⟨by decide +kernel, by decide +kernel⟩, List.mem_of_getElem? (i := 11) (by decide +kernel), List.mem_of_getElem? (i := 226) (by decide +kernel), List.mem_of_getElem? (i := 227) (by decide +kernel)⟩
theorem lw_p2 : lw_okq (⟨"MaskEdges", "renewMask", "()V"⟩, 14) := ⟨⟨by decide +kernel, by decide +kernel⟩, List.mem_of_getElem? (i := 11) (by decide +kernel), List.mem_of_getElem? (i := 247) (by decide +kernel), List.mem_of_getElem? (i := 248) (by decide +kernel)⟩
theorem lw_p3 : lw_okq (⟨"MaskEdges", "applyMove", "(LMaskEdges$Piece;)V"⟩, 14) := ⟨⟨by decide +kernel, by decide +kernel⟩, List.mem_of_getElem? (i := 11) (by decide +kernel), List.mem_of_getElem? (i := 255) (by decide +kernel), List.mem_of_getElem? (i := 256) (by decide +kernel)⟩
theorem lw_p4 : lw_okq (⟨"MaskEdges", "piecesFor", "(I)I"⟩, 14) := ⟨⟨by decide +kernel, by decide +kernel⟩, List.mem_of_getElem? (i := 11) (by decide +kernel), List.mem_of_getElem? (i := 298) (by decide +kernel), List.mem_of_getElem? (i := 299) (by decide +kernel)⟩
theorem lw_p5 : lw_okq (⟨"MaskEdges", "cutOutline", "(LMaskEdges$Outline;I)V"⟩, 14) := ⟨⟨by decide +kernel, by decide +kernel⟩, List.mem_of_getElem? (i := 11) (by decide +kernel), List.mem_of_getElem? (i := 317) (by decide +kernel), List.mem_of_getElem? (i := 318) (by decide +kernel)⟩
theorem lw_p6 : lw_okq (⟨"MaskEdges$Piece", "faceOutward", "(LMaskEdges$Outline;)V"⟩, 12) := ⟨⟨by decide +kernel, by decide +kernel⟩, List.mem_of_getElem? (i := 104) (by decide +kernel), List.mem_of_getElem? (i := 334) (by decide +kernel), List.mem_of_getElem? (i := 335) (by decide +kernel)⟩
theorem lw_p7 : lw_okq (⟨"MaskEdges", "isPiece", "(I)Z"⟩, 14) := ⟨⟨by decide +kernel, by decide +kernel⟩, List.mem_of_getElem? (i := 11) (by decide +kernel), List.mem_of_getElem? (i := 362) (by decide +kernel), List.mem_of_getElem? (i := 363) (by decide +kernel)⟩
theorem lw_p8 : lw_okq (⟨"MaskEdges", "errorOf", "(LMaskEdges$Piece;I)I"⟩, 14) := ⟨⟨by decide +kernel, by decide +kernel⟩, List.mem_of_getElem? (i := 11) (by decide +kernel), List.mem_of_getElem? (i := 366) (by decide +kernel), List.mem_of_getElem? (i := 367) (by decide +kernel)⟩
theorem lw_p9 : lw_okq (⟨"MaskEdges", "worstError", "()I"⟩, 14) := ⟨⟨by decide +kernel, by decide +kernel⟩, List.mem_of_getElem? (i := 11) (by decide +kernel), List.mem_of_getElem? (i := 385) (by decide +kernel), List.mem_of_getElem? (i := 386) (by decide +kernel)⟩
theorem lw_p10 : lw_okq (⟨"MaskEdges", "moveAgainstErrors", "(II)Z"⟩, 14) := ⟨⟨by decide +kernel, by decide +kernel⟩, List.mem_of_getElem? (i := 11) (by decide +kernel), List.mem_of_getElem? (i := 391) (by decide +kernel), List.mem_of_getElem? (i := 392) (by decide +kernel)⟩
theorem lw_p11 : lw_okq (⟨"MaskEdges", "takeMovesBack", "()V"⟩, 14) := ⟨⟨by decide +kernel, by decide +kernel⟩, List.mem_of_getElem? (i := 11) (by decide +kernel), List.mem_of_getElem? (i := 405) (by decide +kernel), List.mem_of_getElem? (i := 406) (by decide +kernel)⟩
theorem lw_p12 : lw_okq (⟨"MaskEdges", "placeBar", "(LMaskEdges$Piece;II)V"⟩, 14) := ⟨⟨by decide +kernel, by decide +kernel⟩, List.mem_of_getElem? (i := 11) (by decide +kernel), List.mem_of_getElem? (i := 425) (by decide +kernel), List.mem_of_getElem? (i := 426) (by decide +kernel)⟩
theorem lw_p13 : lw_okq (⟨"MaskEdges", "sameTargetAround", "(LMaskEdges$Piece;LMaskEdges$Piece;)Z"⟩, 14) := ⟨⟨by decide +kernel, by decide +kernel⟩, List.mem_of_getElem? (i := 11) (by decide +kernel), List.mem_of_getElem? (i := 457) (by decide +kernel), List.mem_of_getElem? (i := 458) (by decide +kernel)⟩
theorem lw_p14 : lw_okq (⟨"MaskEdgesModel", "goesAlongX", "(II)Z"⟩, 28) := ⟨⟨by decide +kernel, by decide +kernel⟩, List.mem_of_getElem? (i := 477) (by decide +kernel), List.mem_of_getElem? (i := 581) (by decide +kernel), List.mem_of_getElem? (i := 582) (by decide +kernel)⟩
theorem lw_p15 : lw_okq (⟨"MaskEdgesModel", "hasClosed", "()Z"⟩, 28) := ⟨⟨by decide +kernel, by decide +kernel⟩, List.mem_of_getElem? (i := 477) (by decide +kernel), List.mem_of_getElem? (i := 596) (by decide +kernel), List.mem_of_getElem? (i := 597) (by decide +kernel)⟩
def lw_privs_1 : List (MethodName × Nat) := [(⟨"MaskEdges$Outline", "maySideGoTo", "(II)Z"⟩, 4), (⟨"MaskEdges", "addToTarget", "(LMaskEdges$Outline;)V"⟩, 14), (⟨"MaskEdges", "renewMask", "()V"⟩, 14), (⟨"MaskEdges", "applyMove", "(LMaskEdges$Piece;)V"⟩, 14), (⟨"MaskEdges", "piecesFor", "(I)I"⟩, 14), (⟨"MaskEdges", "cutOutline", "(LMaskEdges$Outline;I)V"⟩, 14), (⟨"MaskEdges$Piece", "faceOutward", "(LMaskEdges$Outline;)V"⟩, 12), (⟨"MaskEdges", "isPiece", "(I)Z"⟩, 14), (⟨"MaskEdges", "errorOf", "(LMaskEdges$Piece;I)I"⟩, 14), (⟨"MaskEdges", "worstError", "()I"⟩, 14), (⟨"MaskEdges", "moveAgainstErrors", "(II)Z"⟩, 14), (⟨"MaskEdges", "takeMovesBack", "()V"⟩, 14), (⟨"MaskEdges", "placeBar", "(LMaskEdges$Piece;II)V"⟩, 14), (⟨"MaskEdges", "sameTargetAround", "(LMaskEdges$Piece;LMaskEdges$Piece;)Z"⟩, 14), (⟨"MaskEdgesModel", "goesAlongX", "(II)Z"⟩, 28), (⟨"MaskEdgesModel", "hasClosed", "()Z"⟩, 28)]
theorem lw_r1 : ∀ q ∈ lw_privs_1, lw_okq q := List.forall_mem_cons.mpr ⟨lw_p0, List.forall_mem_cons.mpr ⟨lw_p1, List.forall_mem_cons.mpr ⟨lw_p2, List.forall_mem_cons.mpr ⟨lw_p3, List.forall_mem_cons.mpr ⟨lw_p4, List.forall_mem_cons.mpr ⟨lw_p5, List.forall_mem_cons.mpr ⟨lw_p6, List.forall_mem_cons.mpr ⟨lw_p7, List.forall_mem_cons.mpr ⟨lw_p8, List.forall_mem_cons.mpr ⟨lw_p9, List.forall_mem_cons.mpr ⟨lw_p10, List.forall_mem_cons.mpr ⟨lw_p11, List.forall_mem_cons.mpr ⟨lw_p12, List.forall_mem_cons.mpr ⟨lw_p13, List.forall_mem_cons.mpr ⟨lw_p14, List.forall_mem_cons.mpr ⟨lw_p15, fun _ h => absurd h List.not_mem_nil⟩⟩⟩⟩⟩⟩⟩⟩⟩⟩⟩⟩⟩⟩⟩⟩
theorem lw_p16 : lw_okq (⟨"MaskEdgesModel", "lengthOf", "(II)I"⟩, 28) := ⟨⟨by decide +kernel, by decide +kernel⟩, List.mem_of_getElem? (i := 477) (by decide +kernel), List.mem_of_getElem? (i := 600) (by decide +kernel), List.mem_of_getElem? (i := 601) (by decide +kernel)⟩
theorem lw_p17 : lw_okq (⟨"MaskEdgesModel", "addPieces", "(III)V"⟩, 28) := ⟨⟨by decide +kernel, by decide +kernel⟩, List.mem_of_getElem? (i := 477) (by decide +kernel), List.mem_of_getElem? (i := 604) (by decide +kernel), List.mem_of_getElem? (i := 605) (by decide +kernel)⟩
theorem lw_p18 : lw_okq (⟨"MaskEdgesModel", "besideX", "(II)I"⟩, 28) := ⟨⟨by decide +kernel, by decide +kernel⟩, List.mem_of_getElem? (i := 477) (by decide +kernel), List.mem_of_getElem? (i := 608) (by decide +kernel), List.mem_of_getElem? (i := 609) (by decide +kernel)⟩
theorem lw_p19 : lw_okq (⟨"MaskEdgesModel", "middle", "(I)I"⟩, 28) := ⟨⟨by decide +kernel, by decide +kernel⟩, List.mem_of_getElem? (i := 477) (by decide +kernel), List.mem_of_getElem? (i := 612) (by decide +kernel), List.mem_of_getElem? (i := 613) (by decide +kernel)⟩
theorem lw_p20 : lw_okq (⟨"MaskEdgesModel", "besideY", "(II)I"⟩, 28) := ⟨⟨by decide +kernel, by decide +kernel⟩, List.mem_of_getElem? (i := 477) (by decide +kernel), List.mem_of_getElem? (i := 616) (by decide +kernel), List.mem_of_getElem? (i := 617) (by decide +kernel)⟩
theorem lw_p21 : lw_okq (⟨"MaskEdgesModel", "isIn", "(III)Z"⟩, 28) := ⟨⟨by decide +kernel, by decide +kernel⟩, List.mem_of_getElem? (i := 477) (by decide +kernel), List.mem_of_getElem? (i := 620) (by decide +kernel), List.mem_of_getElem? (i := 621) (by decide +kernel)⟩
theorem lw_p22 : lw_okq (⟨"MaskEdgesModel", "make", "()V"⟩, 28) := ⟨⟨by decide +kernel, by decide +kernel⟩, List.mem_of_getElem? (i := 477) (by decide +kernel), List.mem_of_getElem? (i := 632) (by decide +kernel), List.mem_of_getElem? (i := 633) (by decide +kernel)⟩
theorem lw_p23 : lw_okq (⟨"MaskEdgesModel", "isTarget", "(II)Z"⟩, 28) := ⟨⟨by decide +kernel, by decide +kernel⟩, List.mem_of_getElem? (i := 477) (by decide +kernel), List.mem_of_getElem? (i := 636) (by decide +kernel), List.mem_of_getElem? (i := 637) (by decide +kernel)⟩
theorem lw_p24 : lw_okq (⟨"MaskEdgesModel", "putPiece", "(I)V"⟩, 28) := ⟨⟨by decide +kernel, by decide +kernel⟩, List.mem_of_getElem? (i := 477) (by decide +kernel), List.mem_of_getElem? (i := 640) (by decide +kernel), List.mem_of_getElem? (i := 641) (by decide +kernel)⟩
theorem lw_p25 : lw_okq (⟨"MaskEdgesModel", "put", "(IIZ)V"⟩, 28) := ⟨⟨by decide +kernel, by decide +kernel⟩, List.mem_of_getElem? (i := 477) (by decide +kernel), List.mem_of_getElem? (i := 644) (by decide +kernel), List.mem_of_getElem? (i := 645) (by decide +kernel)⟩
theorem lw_p26 : lw_okq (⟨"MaskEdgesModel", "imageAt", "(II)I"⟩, 28) := ⟨⟨by decide +kernel, by decide +kernel⟩, List.mem_of_getElem? (i := 477) (by decide +kernel), List.mem_of_getElem? (i := 648) (by decide +kernel), List.mem_of_getElem? (i := 649) (by decide +kernel)⟩
theorem lw_p27 : lw_okq (⟨"MaskEdgesModel", "countAt", "(III)I"⟩, 28) := ⟨⟨by decide +kernel, by decide +kernel⟩, List.mem_of_getElem? (i := 477) (by decide +kernel), List.mem_of_getElem? (i := 652) (by decide +kernel), List.mem_of_getElem? (i := 653) (by decide +kernel)⟩
theorem lw_p28 : lw_okq (⟨"MaskEdgesModel", "isPiece", "(I)Z"⟩, 28) := ⟨⟨by decide +kernel, by decide +kernel⟩, List.mem_of_getElem? (i := 477) (by decide +kernel), List.mem_of_getElem? (i := 667) (by decide +kernel), List.mem_of_getElem? (i := 668) (by decide +kernel)⟩
theorem lw_p29 : lw_okq (⟨"MaskEdgesModel", "errorAt", "(II)I"⟩, 28) := ⟨⟨by decide +kernel, by decide +kernel⟩, List.mem_of_getElem? (i := 477) (by decide +kernel), List.mem_of_getElem? (i := 672) (by decide +kernel), List.mem_of_getElem? (i := 673) (by decide +kernel)⟩
theorem lw_p30 : lw_okq (⟨"MaskEdgesModel", "doesPrint", "(III)Z"⟩, 28) := ⟨⟨by decide +kernel, by decide +kernel⟩, List.mem_of_getElem? (i := 477) (by decide +kernel), List.mem_of_getElem? (i := 676) (by decide +kernel), List.mem_of_getElem? (i := 677) (by decide +kernel)⟩
theorem lw_p31 : lw_okq (⟨"MaskEdgesModel", "worstNow", "()I"⟩, 28) := ⟨⟨by decide +kernel, by decide +kernel⟩, List.mem_of_getElem? (i := 477) (by decide +kernel), List.mem_of_getElem? (i := 688) (by decide +kernel), List.mem_of_getElem? (i := 689) (by decide +kernel)⟩
def lw_privs_2 : List (MethodName × Nat) := [(⟨"MaskEdgesModel", "lengthOf", "(II)I"⟩, 28), (⟨"MaskEdgesModel", "addPieces", "(III)V"⟩, 28), (⟨"MaskEdgesModel", "besideX", "(II)I"⟩, 28), (⟨"MaskEdgesModel", "middle", "(I)I"⟩, 28), (⟨"MaskEdgesModel", "besideY", "(II)I"⟩, 28), (⟨"MaskEdgesModel", "isIn", "(III)Z"⟩, 28), (⟨"MaskEdgesModel", "make", "()V"⟩, 28), (⟨"MaskEdgesModel", "isTarget", "(II)Z"⟩, 28), (⟨"MaskEdgesModel", "putPiece", "(I)V"⟩, 28), (⟨"MaskEdgesModel", "put", "(IIZ)V"⟩, 28), (⟨"MaskEdgesModel", "imageAt", "(II)I"⟩, 28), (⟨"MaskEdgesModel", "countAt", "(III)I"⟩, 28), (⟨"MaskEdgesModel", "isPiece", "(I)Z"⟩, 28), (⟨"MaskEdgesModel", "errorAt", "(II)I"⟩, 28), (⟨"MaskEdgesModel", "doesPrint", "(III)Z"⟩, 28), (⟨"MaskEdgesModel", "worstNow", "()I"⟩, 28)]
theorem lw_r2 : ∀ q ∈ lw_privs_2, lw_okq q := List.forall_mem_cons.mpr ⟨lw_p16, List.forall_mem_cons.mpr ⟨lw_p17, List.forall_mem_cons.mpr ⟨lw_p18, List.forall_mem_cons.mpr ⟨lw_p19, List.forall_mem_cons.mpr ⟨lw_p20, List.forall_mem_cons.mpr ⟨lw_p21, List.forall_mem_cons.mpr ⟨lw_p22, List.forall_mem_cons.mpr ⟨lw_p23, List.forall_mem_cons.mpr ⟨lw_p24, List.forall_mem_cons.mpr ⟨lw_p25, List.forall_mem_cons.mpr ⟨lw_p26, List.forall_mem_cons.mpr ⟨lw_p27, List.forall_mem_cons.mpr ⟨lw_p28, List.forall_mem_cons.mpr ⟨lw_p29, List.forall_mem_cons.mpr ⟨lw_p30, List.forall_mem_cons.mpr ⟨lw_p31, fun _ h => absurd h List.not_mem_nil⟩⟩⟩⟩⟩⟩⟩⟩⟩⟩⟩⟩⟩⟩⟩⟩
theorem lw_p32 : lw_okq (⟨"MaskEdgesModel", "moveAll", "(II)Z"⟩, 28) := ⟨⟨by decide +kernel, by decide +kernel⟩, List.mem_of_getElem? (i := 477) (by decide +kernel), List.mem_of_getElem? (i := 692) (by decide +kernel), List.mem_of_getElem? (i := 693) (by decide +kernel)⟩
theorem lw_p33 : lw_okq (⟨"MaskEdgesModel", "moveBack", "()V"⟩, 28) := ⟨⟨by decide +kernel, by decide +kernel⟩, List.mem_of_getElem? (i := 477) (by decide +kernel), List.mem_of_getElem? (i := 699) (by decide +kernel), List.mem_of_getElem? (i := 700) (by decide +kernel)⟩
theorem lw_p34 : lw_okq (⟨"MaskEdgesModel", "hasCome", "(III)Z"⟩, 28) := ⟨⟨by decide +kernel, by decide +kernel⟩, List.mem_of_getElem? (i := 477) (by decide +kernel), List.mem_of_getElem? (i := 716) (by decide +kernel), List.mem_of_getElem? (i := 717) (by decide +kernel)⟩
theorem lw_p35 : lw_okq (⟨"MaskEdgesModel", "isFree", "(IIII)Z"⟩, 28) := ⟨⟨by decide +kernel, by decide +kernel⟩, List.mem_of_getElem? (i := 477) (by decide +kernel), List.mem_of_getElem? (i := 720) (by decide +kernel), List.mem_of_getElem? (i := 721) (by decide +kernel)⟩
def lw_privs_3 : List (MethodName × Nat) := [(⟨"MaskEdgesModel", "moveAll", "(II)Z"⟩, 28), (⟨"MaskEdgesModel", "moveBack", "()V"⟩, 28), (⟨"MaskEdgesModel", "hasCome", "(III)Z"⟩, 28), (⟨"MaskEdgesModel", "isFree", "(IIII)Z"⟩, 28)]
theorem lw_r3 : ∀ q ∈ lw_privs_3, lw_okq q := List.forall_mem_cons.mpr ⟨lw_p32, List.forall_mem_cons.mpr ⟨lw_p33, List.forall_mem_cons.mpr ⟨lw_p34, List.forall_mem_cons.mpr ⟨lw_p35, fun _ h => absurd h List.not_mem_nil⟩⟩⟩⟩
def lw_privs : List (MethodName × Nat) := lw_privs_1 ++ (lw_privs_2 ++ (lw_privs_3))
def lw_tbl : List Cond := k2_sels lw_privs ++ tables_1
theorem lw_privs_ok : ∀ q ∈ lw_privs, lw_okq q := by
  show ∀ q ∈ lw_privs_1 ++ (lw_privs_2 ++ (lw_privs_3)), lw_okq q
  exact List.forall_mem_append.mpr ⟨lw_r1, List.forall_mem_append.mpr ⟨lw_r2, lw_r3⟩⟩
theorem xgoodIn {big : List Cond} (ws : List Cond) (ps : List Nat) (hp : ws = ps.filterMap (fun i => big[i]?)) (h : ws.all goodWord = true) : GoodIn big ws := by
  intro w hw
  have h1 := List.all_eq_true.mp h w hw
  rw [hp] at hw
  obtain ⟨i, -, hi⟩ := List.mem_filterMap.mp hw
  exact ⟨List.mem_of_getElem? hi, good_of_word h1⟩
theorem xgood_app {big a b : List Cond} (ha : GoodIn big a) (hb : GoodIn big b) : GoodIn big (a ++ b) := fun w h => (List.mem_append.mp h).elim (ha w) (hb w)
abbrev y_Outline_maySideGoTo : MethodName := { cls := "MaskEdges$Outline", name := "maySideGoTo", desc := "(II)Z" }
abbrev y_MaskEdges_addToTarget : MethodName := { cls := "MaskEdges", name := "addToTarget", desc := "(LMaskEdges$Outline;)V" }
abbrev y_MaskEdges_renewMask : MethodName := { cls := "MaskEdges", name := "renewMask", desc := "()V" }
abbrev y_MaskEdges_applyMove : MethodName := { cls := "MaskEdges", name := "applyMove", desc := "(LMaskEdges$Piece;)V" }
abbrev y_MaskEdges_piecesFor : MethodName := { cls := "MaskEdges", name := "piecesFor", desc := "(I)I" }
abbrev y_MaskEdges_cutOutline : MethodName := { cls := "MaskEdges", name := "cutOutline", desc := "(LMaskEdges$Outline;I)V" }
abbrev y_Piece_faceOutward : MethodName := { cls := "MaskEdges$Piece", name := "faceOutward", desc := "(LMaskEdges$Outline;)V" }
abbrev y_MaskEdges_isPiece : MethodName := { cls := "MaskEdges", name := "isPiece", desc := "(I)Z" }
abbrev y_MaskEdges_errorOf : MethodName := { cls := "MaskEdges", name := "errorOf", desc := "(LMaskEdges$Piece;I)I" }
abbrev y_MaskEdges_worstError : MethodName := { cls := "MaskEdges", name := "worstError", desc := "()I" }
abbrev y_MaskEdges_moveAgainstErrors : MethodName := { cls := "MaskEdges", name := "moveAgainstErrors", desc := "(II)Z" }
abbrev y_MaskEdges_takeMovesBack : MethodName := { cls := "MaskEdges", name := "takeMovesBack", desc := "()V" }
abbrev y_MaskEdges_placeBar : MethodName := { cls := "MaskEdges", name := "placeBar", desc := "(LMaskEdges$Piece;II)V" }
abbrev y_MaskEdges_sameTargetAround : MethodName := { cls := "MaskEdges", name := "sameTargetAround", desc := "(LMaskEdges$Piece;LMaskEdges$Piece;)Z" }
abbrev y_MaskEdgesModel_goesAlongX : MethodName := { cls := "MaskEdgesModel", name := "goesAlongX", desc := "(II)Z" }
abbrev y_MaskEdgesModel_hasClosed : MethodName := { cls := "MaskEdgesModel", name := "hasClosed", desc := "()Z" }
abbrev y_MaskEdgesModel_lengthOf : MethodName := { cls := "MaskEdgesModel", name := "lengthOf", desc := "(II)I" }
abbrev y_MaskEdgesModel_addPieces : MethodName := { cls := "MaskEdgesModel", name := "addPieces", desc := "(III)V" }
abbrev y_MaskEdgesModel_besideX : MethodName := { cls := "MaskEdgesModel", name := "besideX", desc := "(II)I" }
abbrev y_MaskEdgesModel_middle : MethodName := { cls := "MaskEdgesModel", name := "middle", desc := "(I)I" }
abbrev y_MaskEdgesModel_besideY : MethodName := { cls := "MaskEdgesModel", name := "besideY", desc := "(II)I" }
abbrev y_MaskEdgesModel_isIn : MethodName := { cls := "MaskEdgesModel", name := "isIn", desc := "(III)Z" }
abbrev y_MaskEdgesModel_make : MethodName := { cls := "MaskEdgesModel", name := "make", desc := "()V" }
abbrev y_MaskEdgesModel_isTarget : MethodName := { cls := "MaskEdgesModel", name := "isTarget", desc := "(II)Z" }
abbrev y_MaskEdgesModel_putPiece : MethodName := { cls := "MaskEdgesModel", name := "putPiece", desc := "(I)V" }
abbrev y_MaskEdgesModel_put : MethodName := { cls := "MaskEdgesModel", name := "put", desc := "(IIZ)V" }
abbrev y_MaskEdgesModel_imageAt : MethodName := { cls := "MaskEdgesModel", name := "imageAt", desc := "(II)I" }
abbrev y_MaskEdgesModel_countAt : MethodName := { cls := "MaskEdgesModel", name := "countAt", desc := "(III)I" }
abbrev y_MaskEdgesModel_isPiece : MethodName := { cls := "MaskEdgesModel", name := "isPiece", desc := "(I)Z" }
abbrev y_MaskEdgesModel_errorAt : MethodName := { cls := "MaskEdgesModel", name := "errorAt", desc := "(II)I" }
abbrev y_MaskEdgesModel_doesPrint : MethodName := { cls := "MaskEdgesModel", name := "doesPrint", desc := "(III)Z" }
abbrev y_MaskEdgesModel_worstNow : MethodName := { cls := "MaskEdgesModel", name := "worstNow", desc := "()I" }
abbrev y_MaskEdgesModel_moveAll : MethodName := { cls := "MaskEdgesModel", name := "moveAll", desc := "(II)Z" }
abbrev y_MaskEdgesModel_moveBack : MethodName := { cls := "MaskEdgesModel", name := "moveBack", desc := "()V" }
abbrev y_MaskEdgesModel_hasCome : MethodName := { cls := "MaskEdgesModel", name := "hasCome", desc := "(III)Z" }
abbrev y_MaskEdgesModel_isFree : MethodName := { cls := "MaskEdgesModel", name := "isFree", desc := "(IIII)Z" }
abbrev y_MaskEdges_init : MethodName := { cls := "MaskEdges", name := "<init>", desc := "()V" }
abbrev y_Object_init : MethodName := { cls := "java/lang/Object", name := "<init>", desc := "()V" }
abbrev y_CellSet_init : MethodName := { cls := "MaskEdges$CellSet", name := "<init>", desc := "()V" }
abbrev y_Exposure_init : MethodName := { cls := "MaskEdges$Exposure", name := "<init>", desc := "()V" }
abbrev y_Box_init : MethodName := { cls := "MaskEdges$Box", name := "<init>", desc := "()V" }
abbrev y_Outline_init : MethodName := { cls := "MaskEdges$Outline", name := "<init>", desc := "()V" }
abbrev y_Piece_init : MethodName := { cls := "MaskEdges$Piece", name := "<init>", desc := "()V" }
abbrev y_MaskEdges_polygon : MethodName := { cls := "MaskEdges", name := "polygon", desc := "()I" }
abbrev y_MaskEdges_corner : MethodName := { cls := "MaskEdges", name := "corner", desc := "(IJJ)Z" }
abbrev y_Outline_takeCorner : MethodName := { cls := "MaskEdges$Outline", name := "takeCorner", desc := "(II)Z" }
abbrev y_Outline_isAlongX : MethodName := { cls := "MaskEdges$Outline", name := "isAlongX", desc := "(I)Z" }
abbrev y_Outline_nextCorner : MethodName := { cls := "MaskEdges$Outline", name := "nextCorner", desc := "(I)I" }
abbrev y_Outline_holds : MethodName := { cls := "MaskEdges$Outline", name := "holds", desc := "(II)Z" }
abbrev y_Math_min : MethodName := { cls := "java/lang/Math", name := "min", desc := "(II)I" }
abbrev y_Math_max : MethodName := { cls := "java/lang/Math", name := "max", desc := "(II)I" }
abbrev y_CellSet_add : MethodName := { cls := "MaskEdges$CellSet", name := "add", desc := "(II)V" }
abbrev y_MaskEdges_onGrid : MethodName := { cls := "MaskEdges", name := "onGrid", desc := "(II)Z" }
abbrev y_CellSet_copyFrom : MethodName := { cls := "MaskEdges$CellSet", name := "copyFrom", desc := "(LMaskEdges$CellSet;)V" }
abbrev y_Box_layBeside : MethodName := { cls := "MaskEdges$Box", name := "layBeside", desc := "(LMaskEdges$Piece;IIIII)V" }
abbrev y_CellSet_addBox : MethodName := { cls := "MaskEdges$CellSet", name := "addBox", desc := "(LMaskEdges$Box;)V" }
abbrev y_MaskEdges_columnBits : MethodName := { cls := "MaskEdges", name := "columnBits", desc := "(II)J" }
abbrev y_CellSet_removeBox : MethodName := { cls := "MaskEdges$CellSet", name := "removeBox", desc := "(LMaskEdges$Box;)V" }
abbrev y_CellSet_addAll : MethodName := { cls := "MaskEdges$CellSet", name := "addAll", desc := "(LMaskEdges$CellSet;)V" }
abbrev y_MaskEdges_kernel : MethodName := { cls := "MaskEdges", name := "kernel", desc := "(II)I" }
abbrev y_MaskEdges_within : MethodName := { cls := "MaskEdges", name := "within", desc := "(III)Z" }
abbrev y_Exposure_addKernel : MethodName := { cls := "MaskEdges$Exposure", name := "addKernel", desc := "(II)I" }
abbrev y_MaskEdges_cut : MethodName := { cls := "MaskEdges", name := "cut", desc := "(I)I" }
abbrev y_Outline_partsOf : MethodName := { cls := "MaskEdges$Outline", name := "partsOf", desc := "(II)I" }
abbrev y_Outline_sideEnd : MethodName := { cls := "MaskEdges$Outline", name := "sideEnd", desc := "(I)I" }
abbrev y_Outline_sideStart : MethodName := { cls := "MaskEdges$Outline", name := "sideStart", desc := "(I)I" }
abbrev y_Math_abs : MethodName := { cls := "java/lang/Math", name := "abs", desc := "(I)I" }
abbrev y_Piece_lieOn : MethodName := { cls := "MaskEdges$Piece", name := "lieOn", desc := "(LMaskEdges$Outline;III)V" }
abbrev y_Piece_pointAt : MethodName := { cls := "MaskEdges$Piece", name := "pointAt", desc := "(IIII)I" }
abbrev y_MaskEdges_image : MethodName := { cls := "MaskEdges", name := "image", desc := "(II)I" }
abbrev y_Exposure_imageAt : MethodName := { cls := "MaskEdges$Exposure", name := "imageAt", desc := "(LMaskEdges$CellSet;II)I" }
abbrev y_CellSet_countAround : MethodName := { cls := "MaskEdges$CellSet", name := "countAround", desc := "(III)I" }
abbrev y_Long_bitCount : MethodName := { cls := "java/lang/Long", name := "bitCount", desc := "(J)I" }
abbrev y_MaskEdges_error : MethodName := { cls := "MaskEdges", name := "error", desc := "(I)I" }
abbrev y_Piece_isFlat : MethodName := { cls := "MaskEdges$Piece", name := "isFlat", desc := "()Z" }
abbrev y_Exposure_printsAt : MethodName := { cls := "MaskEdges$Exposure", name := "printsAt", desc := "(LMaskEdges$CellSet;III)Z" }
abbrev y_MaskEdges_run : MethodName := { cls := "MaskEdges", name := "run", desc := "(IIII)I" }
abbrev y_MaskEdges_clamp : MethodName := { cls := "MaskEdges", name := "clamp", desc := "(II)I" }
abbrev y_Piece_moveTo : MethodName := { cls := "MaskEdges$Piece", name := "moveTo", desc := "(II)Z" }
abbrev y_MaskEdges_moved : MethodName := { cls := "MaskEdges", name := "moved", desc := "(I)I" }
abbrev y_MaskEdges_worst : MethodName := { cls := "MaskEdges", name := "worst", desc := "(I)I" }
abbrev y_MaskEdges_helper : MethodName := { cls := "MaskEdges", name := "helper", desc := "(II)I" }
abbrev y_Piece_mayHaveBar : MethodName := { cls := "MaskEdges$Piece", name := "mayHaveBar", desc := "()Z" }
abbrev y_Box_isOnGrid : MethodName := { cls := "MaskEdges$Box", name := "isOnGrid", desc := "()Z" }
abbrev y_CellSet_meets : MethodName := { cls := "MaskEdges$CellSet", name := "meets", desc := "(LMaskEdges$Box;)Z" }
abbrev y_Box_copyFrom : MethodName := { cls := "MaskEdges$Box", name := "copyFrom", desc := "(LMaskEdges$Box;)V" }
abbrev y_MaskEdges_prints : MethodName := { cls := "MaskEdges", name := "prints", desc := "(II)Z" }
abbrev y_MaskEdges_edge : MethodName := { cls := "MaskEdges", name := "edge", desc := "(II)I" }
abbrev y_MaskEdges_alike : MethodName := { cls := "MaskEdges", name := "alike", desc := "(II)Z" }
abbrev y_Piece_facesLike : MethodName := { cls := "MaskEdges$Piece", name := "facesLike", desc := "(LMaskEdges$Piece;)Z" }
abbrev y_CellSet_has : MethodName := { cls := "MaskEdges$CellSet", name := "has", desc := "(II)Z" }
abbrev y_MaskEdges_shift : MethodName := { cls := "MaskEdges", name := "shift", desc := "(II)I" }
abbrev y_Piece_fitsRule : MethodName := { cls := "MaskEdges$Piece", name := "fitsRule", desc := "(I)Z" }
abbrev y_MaskEdges_is : MethodName := { cls := "MaskEdges", name := "is", desc := "(III)Z" }
abbrev y_MaskEdgesModel_init : MethodName := { cls := "MaskEdgesModel", name := "<init>", desc := "()V" }
abbrev y_MaskEdgesModel_polygon : MethodName := { cls := "MaskEdgesModel", name := "polygon", desc := "()I" }
abbrev y_MaskEdgesModel_corner : MethodName := { cls := "MaskEdgesModel", name := "corner", desc := "(IJJ)Z" }
abbrev y_MaskEdgesModel_isBetween : MethodName := { cls := "MaskEdgesModel", name := "isBetween", desc := "(JJJ)Z" }
abbrev y_MaskEdgesModel_kernel : MethodName := { cls := "MaskEdgesModel", name := "kernel", desc := "(II)I" }
abbrev y_MaskEdgesModel_cut : MethodName := { cls := "MaskEdgesModel", name := "cut", desc := "(I)I" }
abbrev y_MaskEdgesModel_isCell : MethodName := { cls := "MaskEdgesModel", name := "isCell", desc := "(II)Z" }
abbrev y_MaskEdgesModel_image : MethodName := { cls := "MaskEdgesModel", name := "image", desc := "(II)I" }
abbrev y_MaskEdgesModel_within : MethodName := { cls := "MaskEdgesModel", name := "within", desc := "(I)I" }
abbrev y_MaskEdgesModel_error : MethodName := { cls := "MaskEdgesModel", name := "error", desc := "(I)I" }
abbrev y_MaskEdgesModel_edge : MethodName := { cls := "MaskEdgesModel", name := "edge", desc := "(II)I" }
abbrev y_MaskEdgesModel_run : MethodName := { cls := "MaskEdgesModel", name := "run", desc := "(IIII)I" }
abbrev y_MaskEdgesModel_clamp : MethodName := { cls := "MaskEdgesModel", name := "clamp", desc := "(II)I" }
abbrev y_MaskEdgesModel_moved : MethodName := { cls := "MaskEdgesModel", name := "moved", desc := "(I)I" }
abbrev y_MaskEdgesModel_worst : MethodName := { cls := "MaskEdgesModel", name := "worst", desc := "(I)I" }
abbrev y_MaskEdgesModel_helper : MethodName := { cls := "MaskEdgesModel", name := "helper", desc := "(II)I" }
abbrev y_MaskEdgesModel_prints : MethodName := { cls := "MaskEdgesModel", name := "prints", desc := "(II)Z" }
abbrev y_MaskEdgesModel_alike : MethodName := { cls := "MaskEdgesModel", name := "alike", desc := "(II)Z" }
abbrev y_MaskEdgesModel_shift : MethodName := { cls := "MaskEdgesModel", name := "shift", desc := "(II)I" }
abbrev y_MaskEdgesModel_is : MethodName := { cls := "MaskEdgesModel", name := "is", desc := "(III)Z" }
def xT_0 : List Cond := [Cond.selects "MaskEdges$Outline" y_Outline_maySideGoTo y_Outline_maySideGoTo, Cond.selects "MaskEdges" y_MaskEdges_addToTarget y_MaskEdges_addToTarget, Cond.selects "MaskEdges" y_MaskEdges_renewMask y_MaskEdges_renewMask, Cond.selects "MaskEdges" y_MaskEdges_applyMove y_MaskEdges_applyMove, Cond.selects "MaskEdges" y_MaskEdges_piecesFor y_MaskEdges_piecesFor, Cond.selects "MaskEdges" y_MaskEdges_cutOutline y_MaskEdges_cutOutline, Cond.selects "MaskEdges$Piece" y_Piece_faceOutward y_Piece_faceOutward, Cond.selects "MaskEdges" y_MaskEdges_isPiece y_MaskEdges_isPiece, Cond.selects "MaskEdges" y_MaskEdges_errorOf y_MaskEdges_errorOf, Cond.selects "MaskEdges" y_MaskEdges_worstError y_MaskEdges_worstError, Cond.selects "MaskEdges" y_MaskEdges_moveAgainstErrors y_MaskEdges_moveAgainstErrors, Cond.selects "MaskEdges" y_MaskEdges_takeMovesBack y_MaskEdges_takeMovesBack, Cond.selects "MaskEdges" y_MaskEdges_placeBar y_MaskEdges_placeBar, Cond.selects "MaskEdges" y_MaskEdges_sameTargetAround y_MaskEdges_sameTargetAround, Cond.selects "MaskEdgesModel" y_MaskEdgesModel_goesAlongX y_MaskEdgesModel_goesAlongX, Cond.selects "MaskEdgesModel" y_MaskEdgesModel_hasClosed y_MaskEdgesModel_hasClosed, Cond.selects "MaskEdgesModel" y_MaskEdgesModel_lengthOf y_MaskEdgesModel_lengthOf, Cond.selects "MaskEdgesModel" y_MaskEdgesModel_addPieces y_MaskEdgesModel_addPieces, Cond.selects "MaskEdgesModel" y_MaskEdgesModel_besideX y_MaskEdgesModel_besideX, Cond.selects "MaskEdgesModel" y_MaskEdgesModel_middle y_MaskEdgesModel_middle, Cond.selects "MaskEdgesModel" y_MaskEdgesModel_besideY y_MaskEdgesModel_besideY, Cond.selects "MaskEdgesModel" y_MaskEdgesModel_isIn y_MaskEdgesModel_isIn, Cond.selects "MaskEdgesModel" y_MaskEdgesModel_make y_MaskEdgesModel_make, Cond.selects "MaskEdgesModel" y_MaskEdgesModel_isTarget y_MaskEdgesModel_isTarget, Cond.selects "MaskEdgesModel" y_MaskEdgesModel_putPiece y_MaskEdgesModel_putPiece]
def xT_1 : List Cond := [Cond.selects "MaskEdgesModel" y_MaskEdgesModel_put y_MaskEdgesModel_put, Cond.selects "MaskEdgesModel" y_MaskEdgesModel_imageAt y_MaskEdgesModel_imageAt, Cond.selects "MaskEdgesModel" y_MaskEdgesModel_countAt y_MaskEdgesModel_countAt, Cond.selects "MaskEdgesModel" y_MaskEdgesModel_isPiece y_MaskEdgesModel_isPiece, Cond.selects "MaskEdgesModel" y_MaskEdgesModel_errorAt y_MaskEdgesModel_errorAt, Cond.selects "MaskEdgesModel" y_MaskEdgesModel_doesPrint y_MaskEdgesModel_doesPrint, Cond.selects "MaskEdgesModel" y_MaskEdgesModel_worstNow y_MaskEdgesModel_worstNow, Cond.selects "MaskEdgesModel" y_MaskEdgesModel_moveAll y_MaskEdgesModel_moveAll, Cond.selects "MaskEdgesModel" y_MaskEdgesModel_moveBack y_MaskEdgesModel_moveBack, Cond.selects "MaskEdgesModel" y_MaskEdgesModel_hasCome y_MaskEdgesModel_hasCome, Cond.selects "MaskEdgesModel" y_MaskEdgesModel_isFree y_MaskEdgesModel_isFree, Cond.initialized "MaskEdgesLaw", Cond.initialized "MaskEdges", Cond.initialized "MaskEdges$CellSet", Cond.initialized "MaskEdges$Exposure", Cond.initialized "MaskEdges$Box", Cond.initialized "MaskEdges$Outline", Cond.initialized "MaskEdges$Piece", Cond.initialized "MaskEdgesModel", Cond.initialized "java/lang/Math", Cond.initialized "java/lang/Long", Cond.classLink "MaskEdgesLaw" 7 "MaskEdges", Cond.instantiable "MaskEdges" 14, Cond.methodLink "MaskEdgesLaw" 9 y_MaskEdges_init, Cond.instanceMethod y_MaskEdges_init]
def xT_2 : List Cond := [Cond.code y_MaskEdges_init prog_1_method_1_code 2 none, Cond.methodLink "MaskEdges" 1 y_Object_init, Cond.instanceMethod y_Object_init, Cond.code y_Object_init object_method_1_code 1 none, Cond.classLink "MaskEdges" 9 "MaskEdges$Outline", Cond.classLink "MaskEdges" 15 "MaskEdges$Piece", Cond.classLink "MaskEdges" 25 "MaskEdges$Box", Cond.classLink "MaskEdges" 31 "MaskEdges$CellSet", Cond.instantiable "MaskEdges$CellSet" 1, Cond.instanceMethod y_CellSet_init, Cond.code y_CellSet_init prog_3_method_1_code 1 none, Cond.methodLink "MaskEdges$CellSet" 3 y_Object_init, Cond.fieldLink "MaskEdges$CellSet" 9 "MaskEdges$CellSet" "rows" "[J", Cond.laysFinal "MaskEdges$CellSet" "MaskEdges$CellSet" "rows" "[J", Cond.arrayClass .int, Cond.arrayClass .long, Cond.classLink "MaskEdges" 44 "MaskEdges$Exposure", Cond.instantiable "MaskEdges$Exposure" 4, Cond.instanceMethod y_Exposure_init, Cond.code y_Exposure_init prog_4_method_1_code 1 none, Cond.methodLink "MaskEdges$Exposure" 3 y_Object_init, Cond.fieldLink "MaskEdges$Exposure" 9 "MaskEdges$Exposure" "weights" "[I", Cond.fieldLink "MaskEdges$Exposure" 15 "MaskEdges$Exposure" "widths" "[I", Cond.fieldLink "MaskEdges$Exposure" 22 "MaskEdges$Exposure" "kernels" "I", Cond.fieldLink "MaskEdges$Exposure" 18 "MaskEdges$Exposure" "threshold" "I"]
def xT_3 : List Cond := [Cond.fieldLink "MaskEdges" 117 "MaskEdges$Exposure" "threshold" "I", Cond.laysFinal "MaskEdges$Exposure" "MaskEdges$Exposure" "weights" "[I", Cond.laysFinal "MaskEdges$Exposure" "MaskEdges$Exposure" "widths" "[I", Cond.lays "MaskEdges$Exposure" "MaskEdges$Exposure" "kernels" "I", Cond.lays "MaskEdges$Exposure" "MaskEdges$Exposure" "threshold" "I", Cond.instantiable "MaskEdges$Box" 4, Cond.instanceMethod y_Box_init, Cond.code y_Box_init prog_2_method_1_code 1 none, Cond.methodLink "MaskEdges$Box" 3 y_Object_init, Cond.fieldLink "MaskEdges$Box" 28 "MaskEdges$Box" "left" "I", Cond.fieldLink "MaskEdges$CellSet" 19 "MaskEdges$Box" "left" "I", Cond.fieldLink "MaskEdges" 153 "MaskEdges$Box" "left" "I", Cond.fieldLink "MaskEdges$Box" 36 "MaskEdges$Box" "top" "I", Cond.fieldLink "MaskEdges$CellSet" 41 "MaskEdges$Box" "top" "I", Cond.fieldLink "MaskEdges" 147 "MaskEdges$Box" "top" "I", Cond.fieldLink "MaskEdges$Box" 33 "MaskEdges$Box" "right" "I", Cond.fieldLink "MaskEdges$CellSet" 25 "MaskEdges$Box" "right" "I", Cond.fieldLink "MaskEdges" 156 "MaskEdges$Box" "right" "I", Cond.fieldLink "MaskEdges$Box" 39 "MaskEdges$Box" "bottom" "I", Cond.fieldLink "MaskEdges$CellSet" 32 "MaskEdges$Box" "bottom" "I", Cond.fieldLink "MaskEdges" 150 "MaskEdges$Box" "bottom" "I", Cond.lays "MaskEdges$Box" "MaskEdges$Box" "left" "I", Cond.lays "MaskEdges$Box" "MaskEdges$Box" "top" "I", Cond.lays "MaskEdges$Box" "MaskEdges$Box" "right" "I", Cond.lays "MaskEdges$Box" "MaskEdges$Box" "bottom" "I"]
def xT_4 : List Cond := [Cond.instantiable "MaskEdges$Outline" 4, Cond.instanceMethod y_Outline_init, Cond.code y_Outline_init prog_5_method_1_code 1 none, Cond.methodLink "MaskEdges$Outline" 3 y_Object_init, Cond.fieldLink "MaskEdges$Outline" 9 "MaskEdges$Outline" "xs" "[I", Cond.fieldLink "MaskEdges$Piece" 32 "MaskEdges$Outline" "xs" "[I", Cond.fieldLink "MaskEdges$Outline" 15 "MaskEdges$Outline" "ys" "[I", Cond.fieldLink "MaskEdges$Piece" 28 "MaskEdges$Outline" "ys" "[I", Cond.fieldLink "MaskEdges$Outline" 26 "MaskEdges$Outline" "corners" "I", Cond.fieldLink "MaskEdges" 229 "MaskEdges$Outline" "corners" "I", Cond.fieldLink "MaskEdges$Outline" 18 "MaskEdges$Outline" "closed" "Z", Cond.fieldLink "MaskEdges" 74 "MaskEdges$Outline" "closed" "Z", Cond.laysFinal "MaskEdges$Outline" "MaskEdges$Outline" "xs" "[I", Cond.laysFinal "MaskEdges$Outline" "MaskEdges$Outline" "ys" "[I", Cond.lays "MaskEdges$Outline" "MaskEdges$Outline" "corners" "I", Cond.lays "MaskEdges$Outline" "MaskEdges$Outline" "closed" "Z", Cond.instantiable "MaskEdges$Piece" 12, Cond.instanceMethod y_Piece_init, Cond.code y_Piece_init prog_6_method_1_code 1 none, Cond.methodLink "MaskEdges$Piece" 3 y_Object_init, Cond.fieldLink "MaskEdges$Piece" 22 "MaskEdges$Piece" "alongX" "Z", Cond.fieldLink "MaskEdges$Box" 24 "MaskEdges$Piece" "alongX" "Z", Cond.fieldLink "MaskEdges" 245 "MaskEdges$Piece" "alongX" "Z", Cond.fieldLink "MaskEdges$Box" 9 "MaskEdges$Piece" "line" "I", Cond.fieldLink "MaskEdges$Piece" 35 "MaskEdges$Piece" "line" "I"]
def xT_5 : List Cond := [Cond.fieldLink "MaskEdges$Piece" 67 "MaskEdges$Piece" "low" "I", Cond.fieldLink "MaskEdges" 209 "MaskEdges$Piece" "low" "I", Cond.fieldLink "MaskEdges$Piece" 70 "MaskEdges$Piece" "high" "I", Cond.fieldLink "MaskEdges" 212 "MaskEdges$Piece" "high" "I", Cond.fieldLink "MaskEdges$Piece" 45 "MaskEdges$Piece" "sideLow" "I", Cond.fieldLink "MaskEdges" 254 "MaskEdges$Piece" "sideLow" "I", Cond.fieldLink "MaskEdges$Piece" 51 "MaskEdges$Piece" "sideHigh" "I", Cond.fieldLink "MaskEdges" 257 "MaskEdges$Piece" "sideHigh" "I", Cond.fieldLink "MaskEdges$Piece" 54 "MaskEdges$Piece" "first" "Z", Cond.fieldLink "MaskEdges$Piece" 57 "MaskEdges$Piece" "last" "Z", Cond.fieldLink "MaskEdges$Piece" 84 "MaskEdges$Piece" "outward" "I", Cond.fieldLink "MaskEdges" 215 "MaskEdges$Piece" "outward" "I", Cond.fieldLink "MaskEdges$Piece" 87 "MaskEdges$Piece" "insideX" "I", Cond.fieldLink "MaskEdges" 239 "MaskEdges$Piece" "insideX" "I", Cond.fieldLink "MaskEdges$Piece" 90 "MaskEdges$Piece" "insideY" "I", Cond.fieldLink "MaskEdges" 242 "MaskEdges$Piece" "insideY" "I", Cond.fieldLink "MaskEdges$Piece" 60 "MaskEdges$Piece" "move" "I", Cond.fieldLink "MaskEdges" 133 "MaskEdges$Piece" "move" "I", Cond.lays "MaskEdges$Piece" "MaskEdges$Piece" "alongX" "Z", Cond.lays "MaskEdges$Piece" "MaskEdges$Piece" "line" "I", Cond.lays "MaskEdges$Piece" "MaskEdges$Piece" "low" "I", Cond.lays "MaskEdges$Piece" "MaskEdges$Piece" "high" "I", Cond.lays "MaskEdges$Piece" "MaskEdges$Piece" "sideLow" "I", Cond.lays "MaskEdges$Piece" "MaskEdges$Piece" "sideHigh" "I", Cond.lays "MaskEdges$Piece" "MaskEdges$Piece" "first" "Z"]
def xT_6 : List Cond := [Cond.lays "MaskEdges$Piece" "MaskEdges$Piece" "last" "Z", Cond.lays "MaskEdges$Piece" "MaskEdges$Piece" "outward" "I", Cond.lays "MaskEdges$Piece" "MaskEdges$Piece" "insideX" "I", Cond.lays "MaskEdges$Piece" "MaskEdges$Piece" "insideY" "I", Cond.lays "MaskEdges$Piece" "MaskEdges$Piece" "move" "I", Cond.fieldLink "MaskEdges" 11 "MaskEdges" "outlines" "[LMaskEdges$Outline;", Cond.fieldLink "MaskEdges" 65 "MaskEdges" "outlineCount" "I", Cond.fieldLink "MaskEdges" 17 "MaskEdges" "pieces" "[LMaskEdges$Piece;", Cond.fieldLink "MaskEdges" 61 "MaskEdges" "pieceCount" "I", Cond.fieldLink "MaskEdges" 21 "MaskEdges" "movesBefore" "[I", Cond.fieldLink "MaskEdges" 27 "MaskEdges" "bars" "[LMaskEdges$Box;", Cond.fieldLink "MaskEdges" 136 "MaskEdges" "barCount" "I", Cond.fieldLink "MaskEdges" 34 "MaskEdges" "target" "LMaskEdges$CellSet;", Cond.fieldLink "MaskEdges" 38 "MaskEdges" "barCells" "LMaskEdges$CellSet;", Cond.fieldLink "MaskEdges" 41 "MaskEdges" "mask" "LMaskEdges$CellSet;", Cond.fieldLink "MaskEdges" 47 "MaskEdges" "exposure" "LMaskEdges$Exposure;", Cond.fieldLink "MaskEdges" 51 "MaskEdges" "worsts" "[I", Cond.fieldLink "MaskEdges" 130 "MaskEdges" "worstCount" "I", Cond.fieldLink "MaskEdges" 55 "MaskEdges" "box" "LMaskEdges$Box;", Cond.laysFinal "MaskEdges" "MaskEdges" "outlines" "[LMaskEdges$Outline;", Cond.lays "MaskEdges" "MaskEdges" "outlineCount" "I", Cond.laysFinal "MaskEdges" "MaskEdges" "pieces" "[LMaskEdges$Piece;", Cond.lays "MaskEdges" "MaskEdges" "pieceCount" "I", Cond.laysFinal "MaskEdges" "MaskEdges" "movesBefore" "[I", Cond.laysFinal "MaskEdges" "MaskEdges" "bars" "[LMaskEdges$Box;"]
def xT_7 : List Cond := [Cond.lays "MaskEdges" "MaskEdges" "barCount" "I", Cond.laysFinal "MaskEdges" "MaskEdges" "target" "LMaskEdges$CellSet;", Cond.laysFinal "MaskEdges" "MaskEdges" "barCells" "LMaskEdges$CellSet;", Cond.laysFinal "MaskEdges" "MaskEdges" "mask" "LMaskEdges$CellSet;", Cond.laysFinal "MaskEdges" "MaskEdges" "exposure" "LMaskEdges$Exposure;", Cond.laysFinal "MaskEdges" "MaskEdges" "worsts" "[I", Cond.lays "MaskEdges" "MaskEdges" "worstCount" "I", Cond.laysFinal "MaskEdges" "MaskEdges" "box" "LMaskEdges$Box;", Cond.methodLink "MaskEdgesLaw" 13 y_MaskEdges_polygon, Cond.instanceMethod y_MaskEdges_polygon, Cond.selects "MaskEdges" y_MaskEdges_polygon y_MaskEdges_polygon, Cond.code y_MaskEdges_polygon prog_1_method_2_code 1 (some .int), Cond.methodLink "MaskEdgesLaw" 20 y_MaskEdges_corner, Cond.instanceMethod y_MaskEdges_corner, Cond.selects "MaskEdges" y_MaskEdges_corner y_MaskEdges_corner, Cond.code y_MaskEdges_corner prog_1_method_3_code 8 (some .boolean), Cond.constantLong "MaskEdges" 68 (48 : Int64), Cond.methodLink "MaskEdges" 70 y_Outline_takeCorner, Cond.instanceMethod y_Outline_takeCorner, Cond.selects "MaskEdges$Outline" y_Outline_takeCorner y_Outline_takeCorner, Cond.code y_Outline_takeCorner prog_5_method_2_code 3 (some .boolean), Cond.methodLink "MaskEdges$Outline" 22 y_Outline_maySideGoTo, Cond.instanceMethod y_Outline_maySideGoTo, Cond.code y_Outline_maySideGoTo prog_5_method_3_code 5 (some .boolean), Cond.methodLink "MaskEdges$Outline" 30 y_Outline_isAlongX]
def xT_8 : List Cond := [Cond.instanceMethod y_Outline_isAlongX, Cond.selects "MaskEdges$Outline" y_Outline_isAlongX y_Outline_isAlongX, Cond.code y_Outline_isAlongX prog_5_method_5_code 2 (some .boolean), Cond.methodLink "MaskEdges$Outline" 34 y_Outline_nextCorner, Cond.instanceMethod y_Outline_nextCorner, Cond.selects "MaskEdges$Outline" y_Outline_nextCorner y_Outline_nextCorner, Cond.code y_Outline_nextCorner prog_5_method_4_code 2 (some .int), Cond.methodLink "MaskEdges" 78 y_MaskEdges_addToTarget, Cond.instanceMethod y_MaskEdges_addToTarget, Cond.code y_MaskEdges_addToTarget prog_1_method_22_code 4 none, Cond.methodLink "MaskEdges" 191 y_Outline_holds, Cond.instanceMethod y_Outline_holds, Cond.selects "MaskEdges$Outline" y_Outline_holds y_Outline_holds, Cond.code y_Outline_holds prog_5_method_9_code 7 (some .boolean), Cond.methodLink "MaskEdges$Outline" 49 y_Math_min, Cond.static y_Math_min, Cond.code y_Math_min prog_10_method_69_code 2 (some .int), Cond.methodLink "MaskEdges$Outline" 53 y_Math_max, Cond.static y_Math_max, Cond.code y_Math_max prog_10_method_65_code 2 (some .int), Cond.methodLink "MaskEdges" 194 y_CellSet_add, Cond.instanceMethod y_CellSet_add, Cond.selects "MaskEdges$CellSet" y_CellSet_add y_CellSet_add, Cond.code y_CellSet_add prog_3_method_3_code 3 none, Cond.static y_MaskEdges_onGrid]
def xT_9 : List Cond := [Cond.code y_MaskEdges_onGrid prog_1_method_18_code 2 (some .boolean), Cond.methodLink "MaskEdges" 82 y_MaskEdges_renewMask, Cond.instanceMethod y_MaskEdges_renewMask, Cond.code y_MaskEdges_renewMask prog_1_method_23_code 2 none, Cond.methodLink "MaskEdges" 198 y_CellSet_copyFrom, Cond.instanceMethod y_CellSet_copyFrom, Cond.selects "MaskEdges$CellSet" y_CellSet_copyFrom y_CellSet_copyFrom, Cond.code y_CellSet_copyFrom prog_3_method_4_code 3 none, Cond.methodLink "MaskEdges" 202 y_MaskEdges_applyMove, Cond.instanceMethod y_MaskEdges_applyMove, Cond.code y_MaskEdges_applyMove prog_1_method_24_code 2 none, Cond.methodLink "MaskEdges" 218 y_Box_layBeside, Cond.instanceMethod y_Box_layBeside, Cond.selects "MaskEdges$Box" y_Box_layBeside y_Box_layBeside, Cond.code y_Box_layBeside prog_2_method_2_code 11 none, Cond.methodLink "MaskEdges$Box" 15 y_Math_min, Cond.methodLink "MaskEdges$Box" 21 y_Math_max, Cond.methodLink "MaskEdges" 222 y_CellSet_addBox, Cond.instanceMethod y_CellSet_addBox, Cond.selects "MaskEdges$CellSet" y_CellSet_addBox y_CellSet_addBox, Cond.code y_CellSet_addBox prog_3_method_6_code 6 none, Cond.static y_MaskEdges_columnBits, Cond.code y_MaskEdges_columnBits prog_1_method_20_code 4 (some .long), Cond.methodLink "MaskEdges$CellSet" 35 y_Math_min, Cond.methodLink "MaskEdges$CellSet" 44 y_Math_max]
def xT_10 : List Cond := [Cond.methodLink "MaskEdges" 226 y_CellSet_removeBox, Cond.instanceMethod y_CellSet_removeBox, Cond.selects "MaskEdges$CellSet" y_CellSet_removeBox y_CellSet_removeBox, Cond.code y_CellSet_removeBox prog_3_method_7_code 6 none, Cond.constantLong "MaskEdges$CellSet" 47 (-1 : Int64), Cond.methodLink "MaskEdges" 206 y_CellSet_addAll, Cond.instanceMethod y_CellSet_addAll, Cond.selects "MaskEdges$CellSet" y_CellSet_addAll y_CellSet_addAll, Cond.code y_CellSet_addAll prog_3_method_5_code 3 none, Cond.methodLink "MaskEdgesLaw" 25 y_MaskEdges_kernel, Cond.instanceMethod y_MaskEdges_kernel, Cond.selects "MaskEdges" y_MaskEdges_kernel y_MaskEdges_kernel, Cond.code y_MaskEdges_kernel prog_1_method_4_code 3 (some .int), Cond.methodLink "MaskEdges" 85 y_MaskEdges_within, Cond.static y_MaskEdges_within, Cond.code y_MaskEdges_within prog_1_method_17_code 3 (some .boolean), Cond.methodLink "MaskEdges" 89 y_Exposure_addKernel, Cond.instanceMethod y_Exposure_addKernel, Cond.selects "MaskEdges$Exposure" y_Exposure_addKernel y_Exposure_addKernel, Cond.code y_Exposure_addKernel prog_4_method_2_code 3 (some .int), Cond.methodLink "MaskEdgesLaw" 30 y_MaskEdges_cut, Cond.instanceMethod y_MaskEdges_cut, Cond.selects "MaskEdges" y_MaskEdges_cut y_MaskEdges_cut, Cond.code y_MaskEdges_cut prog_1_method_5_code 4 (some .int), Cond.methodLink "MaskEdges" 93 y_MaskEdges_piecesFor]
def xT_11 : List Cond := [Cond.instanceMethod y_MaskEdges_piecesFor, Cond.code y_MaskEdges_piecesFor prog_1_method_25_code 6 (some .int), Cond.methodLink "MaskEdges" 232 y_Outline_partsOf, Cond.instanceMethod y_Outline_partsOf, Cond.selects "MaskEdges$Outline" y_Outline_partsOf y_Outline_partsOf, Cond.code y_Outline_partsOf prog_5_method_8_code 4 (some .int), Cond.methodLink "MaskEdges$Outline" 38 y_Outline_sideEnd, Cond.instanceMethod y_Outline_sideEnd, Cond.selects "MaskEdges$Outline" y_Outline_sideEnd y_Outline_sideEnd, Cond.code y_Outline_sideEnd prog_5_method_7_code 3 (some .int), Cond.methodLink "MaskEdges$Outline" 41 y_Outline_sideStart, Cond.instanceMethod y_Outline_sideStart, Cond.selects "MaskEdges$Outline" y_Outline_sideStart y_Outline_sideStart, Cond.code y_Outline_sideStart prog_5_method_6_code 2 (some .int), Cond.methodLink "MaskEdges$Outline" 44 y_Math_abs, Cond.static y_Math_abs, Cond.code y_Math_abs prog_10_method_59_code 1 (some .int), Cond.methodLink "MaskEdges" 97 y_MaskEdges_cutOutline, Cond.instanceMethod y_MaskEdges_cutOutline, Cond.code y_MaskEdges_cutOutline prog_1_method_26_code 6 none, Cond.methodLink "MaskEdges" 235 y_Piece_lieOn, Cond.instanceMethod y_Piece_lieOn, Cond.selects "MaskEdges$Piece" y_Piece_lieOn y_Piece_lieOn, Cond.code y_Piece_lieOn prog_6_method_2_code 9 none, Cond.methodLink "MaskEdges$Piece" 9 y_Outline_sideStart]
def xT_12 : List Cond := [Cond.methodLink "MaskEdges$Piece" 15 y_Outline_sideEnd, Cond.methodLink "MaskEdges$Piece" 18 y_Outline_isAlongX, Cond.methodLink "MaskEdges$Piece" 39 y_Math_min, Cond.methodLink "MaskEdges$Piece" 48 y_Math_max, Cond.methodLink "MaskEdges$Piece" 63 y_Piece_pointAt, Cond.static y_Piece_pointAt, Cond.code y_Piece_pointAt prog_6_method_3_code 5 (some .int), Cond.methodLink "MaskEdges$Piece" 77 y_Math_abs, Cond.methodLink "MaskEdges$Piece" 73 y_Piece_faceOutward, Cond.instanceMethod y_Piece_faceOutward, Cond.code y_Piece_faceOutward prog_6_method_4_code 6 none, Cond.methodLink "MaskEdges$Piece" 80 y_Outline_holds, Cond.methodLink "MaskEdgesLaw" 35 y_MaskEdges_image, Cond.instanceMethod y_MaskEdges_image, Cond.selects "MaskEdges" y_MaskEdges_image y_MaskEdges_image, Cond.code y_MaskEdges_image prog_1_method_6_code 3 (some .int), Cond.methodLink "MaskEdges" 101 y_MaskEdges_onGrid, Cond.methodLink "MaskEdges" 104 y_Exposure_imageAt, Cond.instanceMethod y_Exposure_imageAt, Cond.selects "MaskEdges$Exposure" y_Exposure_imageAt y_Exposure_imageAt, Cond.code y_Exposure_imageAt prog_4_method_3_code 6 (some .int), Cond.methodLink "MaskEdges$Exposure" 25 y_CellSet_countAround, Cond.instanceMethod y_CellSet_countAround, Cond.selects "MaskEdges$CellSet" y_CellSet_countAround y_CellSet_countAround, Cond.code y_CellSet_countAround prog_3_method_9_code 9 (some .int)]
def xT_13 : List Cond := [Cond.methodLink "MaskEdges$CellSet" 49 y_Long_bitCount, Cond.static y_Long_bitCount, Cond.code y_Long_bitCount prog_9_method_50_code 2 (some .int), Cond.constantLong "java/lang/Long" 314 (6148914691236517205 : Int64), Cond.constantLong "java/lang/Long" 316 (3689348814741910323 : Int64), Cond.constantLong "java/lang/Long" 318 (1085102592571150095 : Int64), Cond.methodLink "MaskEdgesLaw" 39 y_MaskEdges_error, Cond.instanceMethod y_MaskEdges_error, Cond.selects "MaskEdges" y_MaskEdges_error y_MaskEdges_error, Cond.code y_MaskEdges_error prog_1_method_7_code 2 (some .int), Cond.methodLink "MaskEdges" 108 y_MaskEdges_isPiece, Cond.instanceMethod y_MaskEdges_isPiece, Cond.code y_MaskEdges_isPiece prog_1_method_21_code 2 (some .boolean), Cond.methodLink "MaskEdges" 112 y_MaskEdges_errorOf, Cond.instanceMethod y_MaskEdges_errorOf, Cond.code y_MaskEdges_errorOf prog_1_method_27_code 10 (some .int), Cond.methodLink "MaskEdges" 163 y_Piece_isFlat, Cond.instanceMethod y_Piece_isFlat, Cond.selects "MaskEdges$Piece" y_Piece_isFlat y_Piece_isFlat, Cond.code y_Piece_isFlat prog_6_method_5_code 1 (some .boolean), Cond.methodLink "MaskEdges" 159 y_Exposure_printsAt, Cond.instanceMethod y_Exposure_printsAt, Cond.selects "MaskEdges$Exposure" y_Exposure_printsAt y_Exposure_printsAt, Cond.code y_Exposure_printsAt prog_4_method_4_code 5 (some .boolean), Cond.methodLink "MaskEdges$Exposure" 35 y_Exposure_imageAt]
def xT_14 : List Cond := [Cond.methodLink "MaskEdgesLaw" 43 y_MaskEdges_run, Cond.instanceMethod y_MaskEdges_run, Cond.selects "MaskEdges" y_MaskEdges_run y_MaskEdges_run, Cond.code y_MaskEdges_run prog_1_method_8_code 7 (some .int), Cond.constant "MaskEdges" 116 (100000 : Int32), Cond.methodLink "MaskEdges" 120 y_MaskEdges_worstError, Cond.instanceMethod y_MaskEdges_worstError, Cond.code y_MaskEdges_worstError prog_1_method_28_code 3 (some .int), Cond.methodLink "MaskEdges" 248 y_Math_abs, Cond.methodLink "MaskEdges" 188 y_Math_max, Cond.methodLink "MaskEdges" 124 y_MaskEdges_moveAgainstErrors, Cond.instanceMethod y_MaskEdges_moveAgainstErrors, Cond.code y_MaskEdges_moveAgainstErrors prog_1_method_29_code 7 (some .boolean), Cond.methodLink "MaskEdges" 251 y_MaskEdges_clamp, Cond.static y_MaskEdges_clamp, Cond.code y_MaskEdges_clamp prog_1_method_19_code 2 (some .int), Cond.methodLink "MaskEdges" 183 y_Math_min, Cond.methodLink "MaskEdges" 177 y_Piece_moveTo, Cond.instanceMethod y_Piece_moveTo, Cond.selects "MaskEdges$Piece" y_Piece_moveTo y_Piece_moveTo, Cond.code y_Piece_moveTo prog_6_method_9_code 4 (some .boolean), Cond.methodLink "MaskEdges$Piece" 93 y_Piece_isFlat, Cond.methodLink "MaskEdges" 127 y_MaskEdges_takeMovesBack, Cond.instanceMethod y_MaskEdges_takeMovesBack, Cond.code y_MaskEdges_takeMovesBack prog_1_method_30_code 2 none]
def xT_15 : List Cond := [Cond.methodLink "MaskEdgesLaw" 48 y_MaskEdges_moved, Cond.instanceMethod y_MaskEdges_moved, Cond.selects "MaskEdges" y_MaskEdges_moved y_MaskEdges_moved, Cond.code y_MaskEdges_moved prog_1_method_9_code 2 (some .int), Cond.methodLink "MaskEdgesLaw" 52 y_MaskEdges_worst, Cond.instanceMethod y_MaskEdges_worst, Cond.selects "MaskEdges" y_MaskEdges_worst y_MaskEdges_worst, Cond.code y_MaskEdges_worst prog_1_method_10_code 2 (some .int), Cond.methodLink "MaskEdgesLaw" 56 y_MaskEdges_helper, Cond.instanceMethod y_MaskEdges_helper, Cond.selects "MaskEdges" y_MaskEdges_helper y_MaskEdges_helper, Cond.code y_MaskEdges_helper prog_1_method_11_code 5 (some .int), Cond.methodLink "MaskEdges" 139 y_Piece_mayHaveBar, Cond.instanceMethod y_Piece_mayHaveBar, Cond.selects "MaskEdges$Piece" y_Piece_mayHaveBar y_Piece_mayHaveBar, Cond.code y_Piece_mayHaveBar prog_6_method_7_code 1 (some .boolean), Cond.methodLink "MaskEdges" 143 y_MaskEdges_placeBar, Cond.instanceMethod y_MaskEdges_placeBar, Cond.code y_MaskEdges_placeBar prog_1_method_31_code 4 none, Cond.methodLink "MaskEdges" 260 y_Box_isOnGrid, Cond.instanceMethod y_Box_isOnGrid, Cond.selects "MaskEdges$Box" y_Box_isOnGrid y_Box_isOnGrid, Cond.code y_Box_isOnGrid prog_2_method_4_code 1 (some .boolean), Cond.methodLink "MaskEdges" 263 y_CellSet_meets, Cond.instanceMethod y_CellSet_meets]
def xT_16 : List Cond := [Cond.selects "MaskEdges$CellSet" y_CellSet_meets y_CellSet_meets, Cond.code y_CellSet_meets prog_3_method_8_code 6 (some .boolean), Cond.methodLink "MaskEdges" 267 y_Box_copyFrom, Cond.instanceMethod y_Box_copyFrom, Cond.selects "MaskEdges$Box" y_Box_copyFrom y_Box_copyFrom, Cond.code y_Box_copyFrom prog_2_method_3_code 2 none, Cond.methodLink "MaskEdgesLaw" 60 y_MaskEdges_prints, Cond.instanceMethod y_MaskEdges_prints, Cond.selects "MaskEdges" y_MaskEdges_prints y_MaskEdges_prints, Cond.code y_MaskEdges_prints prog_1_method_12_code 6 (some .boolean), Cond.methodLink "MaskEdgesLaw" 65 y_MaskEdges_edge, Cond.instanceMethod y_MaskEdges_edge, Cond.selects "MaskEdges" y_MaskEdges_edge y_MaskEdges_edge, Cond.code y_MaskEdges_edge prog_1_method_13_code 3 (some .int), Cond.methodLink "MaskEdgesLaw" 69 y_MaskEdges_alike, Cond.instanceMethod y_MaskEdges_alike, Cond.selects "MaskEdges" y_MaskEdges_alike y_MaskEdges_alike, Cond.code y_MaskEdges_alike prog_1_method_14_code 5 (some .boolean), Cond.methodLink "MaskEdges" 166 y_Piece_facesLike, Cond.instanceMethod y_Piece_facesLike, Cond.selects "MaskEdges$Piece" y_Piece_facesLike y_Piece_facesLike, Cond.code y_Piece_facesLike prog_6_method_6_code 2 (some .boolean), Cond.methodLink "MaskEdges" 170 y_MaskEdges_sameTargetAround, Cond.instanceMethod y_MaskEdges_sameTargetAround, Cond.code y_MaskEdges_sameTargetAround prog_1_method_32_code 6 (some .boolean)]
def xT_17 : List Cond := [Cond.methodLink "MaskEdges" 180 y_CellSet_has, Cond.instanceMethod y_CellSet_has, Cond.selects "MaskEdges$CellSet" y_CellSet_has y_CellSet_has, Cond.code y_CellSet_has prog_3_method_2_code 3 (some .boolean), Cond.methodLink "MaskEdgesLaw" 73 y_MaskEdges_shift, Cond.instanceMethod y_MaskEdges_shift, Cond.selects "MaskEdges" y_MaskEdges_shift y_MaskEdges_shift, Cond.code y_MaskEdges_shift prog_1_method_15_code 6 (some .int), Cond.methodLink "MaskEdges" 174 y_Piece_fitsRule, Cond.instanceMethod y_Piece_fitsRule, Cond.selects "MaskEdges$Piece" y_Piece_fitsRule y_Piece_fitsRule, Cond.code y_Piece_fitsRule prog_6_method_8_code 2 (some .boolean), Cond.methodLink "MaskEdgesLaw" 77 y_MaskEdges_is, Cond.instanceMethod y_MaskEdges_is, Cond.selects "MaskEdges" y_MaskEdges_is y_MaskEdges_is, Cond.code y_MaskEdges_is prog_1_method_16_code 4 (some .boolean), Cond.classLink "MaskEdgesLaw" 10 "MaskEdgesModel", Cond.instantiable "MaskEdgesModel" 28, Cond.methodLink "MaskEdgesLaw" 12 y_MaskEdgesModel_init, Cond.instanceMethod y_MaskEdgesModel_init, Cond.code y_MaskEdgesModel_init prog_8_method_1_code 1 none, Cond.methodLink "MaskEdgesModel" 1 y_Object_init, Cond.fieldLink "MaskEdgesModel" 93 "MaskEdgesModel" "polygons" "I", Cond.fieldLink "MaskEdgesModel" 7 "MaskEdgesModel" "xs" "[I", Cond.fieldLink "MaskEdgesModel" 13 "MaskEdgesModel" "ys" "[I"]
def xT_18 : List Cond := [Cond.fieldLink "MaskEdgesModel" 16 "MaskEdgesModel" "sizes" "[I", Cond.fieldLink "MaskEdgesModel" 19 "MaskEdgesModel" "isClosed" "[Z", Cond.fieldLink "MaskEdgesModel" 115 "MaskEdgesModel" "kernels" "I", Cond.fieldLink "MaskEdgesModel" 23 "MaskEdgesModel" "weights" "[I", Cond.fieldLink "MaskEdgesModel" 26 "MaskEdgesModel" "widths" "[I", Cond.fieldLink "MaskEdgesModel" 29 "MaskEdgesModel" "threshold" "I", Cond.fieldLink "MaskEdgesModel" 90 "MaskEdgesModel" "pieces" "I", Cond.fieldLink "MaskEdgesModel" 33 "MaskEdgesModel" "across" "[I", Cond.fieldLink "MaskEdgesModel" 36 "MaskEdgesModel" "from" "[I", Cond.fieldLink "MaskEdgesModel" 39 "MaskEdgesModel" "to" "[I", Cond.fieldLink "MaskEdgesModel" 42 "MaskEdgesModel" "isAlongX" "[Z", Cond.fieldLink "MaskEdgesModel" 45 "MaskEdgesModel" "isFirst" "[Z", Cond.fieldLink "MaskEdgesModel" 48 "MaskEdgesModel" "isLast" "[Z", Cond.fieldLink "MaskEdgesModel" 51 "MaskEdgesModel" "out" "[I", Cond.fieldLink "MaskEdgesModel" 54 "MaskEdgesModel" "moves" "[I", Cond.fieldLink "MaskEdgesModel" 57 "MaskEdgesModel" "before" "[I", Cond.fieldLink "MaskEdgesModel" 151 "MaskEdgesModel" "bars" "I", Cond.fieldLink "MaskEdgesModel" 60 "MaskEdgesModel" "barX" "[I", Cond.fieldLink "MaskEdgesModel" 63 "MaskEdgesModel" "barY" "[I", Cond.fieldLink "MaskEdgesModel" 66 "MaskEdgesModel" "barFarX" "[I", Cond.fieldLink "MaskEdgesModel" 69 "MaskEdgesModel" "barFarY" "[I", Cond.fieldLink "MaskEdgesModel" 72 "MaskEdgesModel" "mask" "[Z", Cond.fieldLink "MaskEdgesModel" 75 "MaskEdgesModel" "sums" "[I", Cond.fieldLink "MaskEdgesModel" 78 "MaskEdgesModel" "kept" "I", Cond.fieldLink "MaskEdgesModel" 81 "MaskEdgesModel" "worsts" "[I"]
def xT_19 : List Cond := [Cond.lays "MaskEdgesModel" "MaskEdgesModel" "polygons" "I", Cond.laysFinal "MaskEdgesModel" "MaskEdgesModel" "xs" "[I", Cond.laysFinal "MaskEdgesModel" "MaskEdgesModel" "ys" "[I", Cond.laysFinal "MaskEdgesModel" "MaskEdgesModel" "sizes" "[I", Cond.laysFinal "MaskEdgesModel" "MaskEdgesModel" "isClosed" "[Z", Cond.lays "MaskEdgesModel" "MaskEdgesModel" "kernels" "I", Cond.laysFinal "MaskEdgesModel" "MaskEdgesModel" "weights" "[I", Cond.laysFinal "MaskEdgesModel" "MaskEdgesModel" "widths" "[I", Cond.lays "MaskEdgesModel" "MaskEdgesModel" "threshold" "I", Cond.lays "MaskEdgesModel" "MaskEdgesModel" "pieces" "I", Cond.laysFinal "MaskEdgesModel" "MaskEdgesModel" "across" "[I", Cond.laysFinal "MaskEdgesModel" "MaskEdgesModel" "from" "[I", Cond.laysFinal "MaskEdgesModel" "MaskEdgesModel" "to" "[I", Cond.laysFinal "MaskEdgesModel" "MaskEdgesModel" "isAlongX" "[Z", Cond.laysFinal "MaskEdgesModel" "MaskEdgesModel" "isFirst" "[Z", Cond.laysFinal "MaskEdgesModel" "MaskEdgesModel" "isLast" "[Z", Cond.laysFinal "MaskEdgesModel" "MaskEdgesModel" "out" "[I", Cond.laysFinal "MaskEdgesModel" "MaskEdgesModel" "moves" "[I", Cond.laysFinal "MaskEdgesModel" "MaskEdgesModel" "before" "[I", Cond.lays "MaskEdgesModel" "MaskEdgesModel" "bars" "I", Cond.laysFinal "MaskEdgesModel" "MaskEdgesModel" "barX" "[I", Cond.laysFinal "MaskEdgesModel" "MaskEdgesModel" "barY" "[I", Cond.laysFinal "MaskEdgesModel" "MaskEdgesModel" "barFarX" "[I", Cond.laysFinal "MaskEdgesModel" "MaskEdgesModel" "barFarY" "[I", Cond.laysFinal "MaskEdgesModel" "MaskEdgesModel" "mask" "[Z"]
def xT_20 : List Cond := [Cond.laysFinal "MaskEdgesModel" "MaskEdgesModel" "sums" "[I", Cond.lays "MaskEdgesModel" "MaskEdgesModel" "kept" "I", Cond.laysFinal "MaskEdgesModel" "MaskEdgesModel" "worsts" "[I", Cond.arrayClass .boolean, Cond.methodLink "MaskEdgesLaw" 17 y_MaskEdgesModel_polygon, Cond.instanceMethod y_MaskEdgesModel_polygon, Cond.selects "MaskEdgesModel" y_MaskEdgesModel_polygon y_MaskEdgesModel_polygon, Cond.code y_MaskEdgesModel_polygon prog_8_method_4_code 1 (some .int), Cond.methodLink "MaskEdgesLaw" 24 y_MaskEdgesModel_corner, Cond.instanceMethod y_MaskEdgesModel_corner, Cond.selects "MaskEdgesModel" y_MaskEdgesModel_corner y_MaskEdgesModel_corner, Cond.code y_MaskEdgesModel_corner prog_8_method_6_code 10 (some .boolean), Cond.methodLink "MaskEdgesModel" 86 y_MaskEdgesModel_isBetween, Cond.static y_MaskEdgesModel_isBetween, Cond.code y_MaskEdgesModel_isBetween prog_8_method_2_code 6 (some .boolean), Cond.constantLong "MaskEdgesModel" 96 (48 : Int64), Cond.methodLink "MaskEdgesModel" 98 y_MaskEdgesModel_goesAlongX, Cond.instanceMethod y_MaskEdgesModel_goesAlongX, Cond.code y_MaskEdgesModel_goesAlongX prog_8_method_5_code 5 (some .boolean), Cond.methodLink "MaskEdgesLaw" 29 y_MaskEdgesModel_kernel, Cond.instanceMethod y_MaskEdgesModel_kernel, Cond.selects "MaskEdgesModel" y_MaskEdgesModel_kernel y_MaskEdgesModel_kernel, Cond.code y_MaskEdgesModel_kernel prog_8_method_9_code 3 (some .int), Cond.constantLong "MaskEdgesModel" 109 (-20 : Int64), Cond.constantLong "MaskEdgesModel" 111 (20 : Int64)]
def xT_21 : List Cond := [Cond.constantLong "MaskEdgesModel" 113 (6 : Int64), Cond.methodLink "MaskEdgesLaw" 34 y_MaskEdgesModel_cut, Cond.instanceMethod y_MaskEdgesModel_cut, Cond.selects "MaskEdgesModel" y_MaskEdgesModel_cut y_MaskEdgesModel_cut, Cond.code y_MaskEdgesModel_cut prog_8_method_16_code 5 (some .int), Cond.methodLink "MaskEdgesModel" 132 y_MaskEdgesModel_hasClosed, Cond.instanceMethod y_MaskEdgesModel_hasClosed, Cond.code y_MaskEdgesModel_hasClosed prog_8_method_10_code 3 (some .boolean), Cond.methodLink "MaskEdgesModel" 122 y_MaskEdgesModel_lengthOf, Cond.instanceMethod y_MaskEdgesModel_lengthOf, Cond.code y_MaskEdgesModel_lengthOf prog_8_method_11_code 6 (some .int), Cond.methodLink "MaskEdgesModel" 136 y_MaskEdgesModel_addPieces, Cond.instanceMethod y_MaskEdgesModel_addPieces, Cond.code y_MaskEdgesModel_addPieces prog_8_method_15_code 15 none, Cond.methodLink "MaskEdgesModel" 126 y_MaskEdgesModel_besideX, Cond.instanceMethod y_MaskEdgesModel_besideX, Cond.code y_MaskEdgesModel_besideX prog_8_method_13_code 3 (some .int), Cond.methodLink "MaskEdgesModel" 118 y_MaskEdgesModel_middle, Cond.instanceMethod y_MaskEdgesModel_middle, Cond.code y_MaskEdgesModel_middle prog_8_method_12_code 2 (some .int), Cond.methodLink "MaskEdgesModel" 129 y_MaskEdgesModel_besideY, Cond.instanceMethod y_MaskEdgesModel_besideY, Cond.code y_MaskEdgesModel_besideY prog_8_method_14_code 3 (some .int), Cond.methodLink "MaskEdgesModel" 105 y_MaskEdgesModel_isIn, Cond.instanceMethod y_MaskEdgesModel_isIn]
def xT_22 : List Cond := [Cond.code y_MaskEdgesModel_isIn prog_8_method_7_code 10 (some .boolean), Cond.methodLink "MaskEdgesModel" 102 y_MaskEdgesModel_isCell, Cond.static y_MaskEdgesModel_isCell, Cond.code y_MaskEdgesModel_isCell prog_8_method_3_code 2 (some .boolean), Cond.constantLong "MaskEdgesModel" 84 (47 : Int64), Cond.methodLink "MaskEdgesLaw" 38 y_MaskEdgesModel_image, Cond.instanceMethod y_MaskEdgesModel_image, Cond.selects "MaskEdgesModel" y_MaskEdgesModel_image y_MaskEdgesModel_image, Cond.code y_MaskEdgesModel_image prog_8_method_24_code 3 (some .int), Cond.methodLink "MaskEdgesModel" 166 y_MaskEdgesModel_make, Cond.instanceMethod y_MaskEdgesModel_make, Cond.code y_MaskEdgesModel_make prog_8_method_19_code 4 none, Cond.methodLink "MaskEdgesModel" 144 y_MaskEdgesModel_isTarget, Cond.instanceMethod y_MaskEdgesModel_isTarget, Cond.code y_MaskEdgesModel_isTarget prog_8_method_8_code 5 (some .boolean), Cond.methodLink "MaskEdgesModel" 147 y_MaskEdgesModel_putPiece, Cond.instanceMethod y_MaskEdgesModel_putPiece, Cond.code y_MaskEdgesModel_putPiece prog_8_method_18_code 7 none, Cond.methodLink "MaskEdgesModel" 140 y_MaskEdgesModel_put, Cond.instanceMethod y_MaskEdgesModel_put, Cond.code y_MaskEdgesModel_put prog_8_method_17_code 4 none, Cond.methodLink "MaskEdgesModel" 161 y_MaskEdgesModel_imageAt, Cond.instanceMethod y_MaskEdgesModel_imageAt, Cond.code y_MaskEdgesModel_imageAt prog_8_method_22_code 5 (some .int), Cond.methodLink "MaskEdgesModel" 157 y_MaskEdgesModel_countAt]
def xT_23 : List Cond := [Cond.instanceMethod y_MaskEdgesModel_countAt, Cond.code y_MaskEdgesModel_countAt prog_8_method_21_code 8 (some .int), Cond.methodLink "MaskEdgesModel" 154 y_MaskEdgesModel_within, Cond.static y_MaskEdgesModel_within, Cond.code y_MaskEdgesModel_within prog_8_method_20_code 1 (some .int), Cond.methodLink "MaskEdgesLaw" 42 y_MaskEdgesModel_error, Cond.instanceMethod y_MaskEdgesModel_error, Cond.selects "MaskEdgesModel" y_MaskEdgesModel_error y_MaskEdgesModel_error, Cond.code y_MaskEdgesModel_error prog_8_method_28_code 2 (some .int), Cond.methodLink "MaskEdgesModel" 175 y_MaskEdgesModel_edge, Cond.instanceMethod y_MaskEdgesModel_edge, Cond.selects "MaskEdgesModel" y_MaskEdgesModel_edge y_MaskEdgesModel_edge, Cond.code y_MaskEdgesModel_edge prog_8_method_29_code 3 (some .int), Cond.methodLink "MaskEdgesModel" 178 y_MaskEdgesModel_isPiece, Cond.instanceMethod y_MaskEdgesModel_isPiece, Cond.code y_MaskEdgesModel_isPiece prog_8_method_25_code 2 (some .boolean), Cond.constantLong "MaskEdgesModel" 182 (1000 : Int64), Cond.methodLink "MaskEdgesModel" 172 y_MaskEdgesModel_errorAt, Cond.instanceMethod y_MaskEdgesModel_errorAt, Cond.code y_MaskEdgesModel_errorAt prog_8_method_26_code 10 (some .int), Cond.methodLink "MaskEdgesModel" 169 y_MaskEdgesModel_doesPrint, Cond.instanceMethod y_MaskEdgesModel_doesPrint, Cond.code y_MaskEdgesModel_doesPrint prog_8_method_23_code 4 (some .boolean), Cond.constantLong "MaskEdgesModel" 164 (100 : Int64), Cond.methodLink "MaskEdgesLaw" 68 y_MaskEdgesModel_edge]
def xT_24 : List Cond := [Cond.methodLink "MaskEdgesLaw" 47 y_MaskEdgesModel_run, Cond.instanceMethod y_MaskEdgesModel_run, Cond.selects "MaskEdgesModel" y_MaskEdgesModel_run y_MaskEdgesModel_run, Cond.code y_MaskEdgesModel_run prog_8_method_33_code 7 (some .int), Cond.constantLong "MaskEdgesModel" 187 (100000 : Int64), Cond.constantLong "MaskEdgesModel" 189 (4 : Int64), Cond.methodLink "MaskEdgesModel" 191 y_MaskEdgesModel_worstNow, Cond.instanceMethod y_MaskEdgesModel_worstNow, Cond.code y_MaskEdgesModel_worstNow prog_8_method_27_code 4 (some .int), Cond.methodLink "MaskEdgesModel" 195 y_MaskEdgesModel_moveAll, Cond.instanceMethod y_MaskEdgesModel_moveAll, Cond.code y_MaskEdgesModel_moveAll prog_8_method_31_code 6 (some .boolean), Cond.methodLink "MaskEdgesModel" 184 y_MaskEdgesModel_clamp, Cond.static y_MaskEdgesModel_clamp, Cond.code y_MaskEdgesModel_clamp prog_8_method_30_code 2 (some .int), Cond.methodLink "MaskEdgesModel" 198 y_MaskEdgesModel_moveBack, Cond.instanceMethod y_MaskEdgesModel_moveBack, Cond.code y_MaskEdgesModel_moveBack prog_8_method_32_code 2 none, Cond.methodLink "MaskEdgesLaw" 51 y_MaskEdgesModel_moved, Cond.instanceMethod y_MaskEdgesModel_moved, Cond.selects "MaskEdgesModel" y_MaskEdgesModel_moved y_MaskEdgesModel_moved, Cond.code y_MaskEdgesModel_moved prog_8_method_34_code 2 (some .int), Cond.methodLink "MaskEdgesLaw" 55 y_MaskEdgesModel_worst, Cond.instanceMethod y_MaskEdgesModel_worst, Cond.selects "MaskEdgesModel" y_MaskEdgesModel_worst y_MaskEdgesModel_worst]
def xT_25 : List Cond := [Cond.code y_MaskEdgesModel_worst prog_8_method_35_code 2 (some .int), Cond.methodLink "MaskEdgesLaw" 59 y_MaskEdgesModel_helper, Cond.instanceMethod y_MaskEdgesModel_helper, Cond.selects "MaskEdgesModel" y_MaskEdgesModel_helper y_MaskEdgesModel_helper, Cond.code y_MaskEdgesModel_helper prog_8_method_38_code 5 (some .int), Cond.constantLong "MaskEdgesModel" 205 (8 : Int64), Cond.methodLink "MaskEdgesModel" 207 y_MaskEdgesModel_hasCome, Cond.instanceMethod y_MaskEdgesModel_hasCome, Cond.code y_MaskEdgesModel_hasCome prog_8_method_37_code 12 (some .boolean), Cond.methodLink "MaskEdgesModel" 201 y_MaskEdgesModel_isFree, Cond.instanceMethod y_MaskEdgesModel_isFree, Cond.code y_MaskEdgesModel_isFree prog_8_method_36_code 8 (some .boolean), Cond.methodLink "MaskEdgesLaw" 64 y_MaskEdgesModel_prints, Cond.instanceMethod y_MaskEdgesModel_prints, Cond.selects "MaskEdgesModel" y_MaskEdgesModel_prints y_MaskEdgesModel_prints, Cond.code y_MaskEdgesModel_prints prog_8_method_39_code 6 (some .boolean), Cond.methodLink "MaskEdgesLaw" 72 y_MaskEdgesModel_alike, Cond.instanceMethod y_MaskEdgesModel_alike, Cond.selects "MaskEdgesModel" y_MaskEdgesModel_alike y_MaskEdgesModel_alike, Cond.code y_MaskEdgesModel_alike prog_8_method_40_code 7 (some .boolean), Cond.methodLink "MaskEdgesLaw" 76 y_MaskEdgesModel_shift, Cond.instanceMethod y_MaskEdgesModel_shift, Cond.selects "MaskEdgesModel" y_MaskEdgesModel_shift y_MaskEdgesModel_shift, Cond.code y_MaskEdgesModel_shift prog_8_method_41_code 7 (some .int), Cond.constantLong "MaskEdgesModel" 210 (3 : Int64)]
def xT_26 : List Cond := [Cond.constantLong "MaskEdgesModel" 212 (-6 : Int64), Cond.methodLink "MaskEdgesLaw" 81 y_MaskEdgesModel_is, Cond.instanceMethod y_MaskEdgesModel_is, Cond.selects "MaskEdgesModel" y_MaskEdgesModel_is y_MaskEdgesModel_is, Cond.code y_MaskEdgesModel_is prog_8_method_42_code 4 (some .boolean), Cond.constantLong "MaskEdgesModel" 214 (2 : Int64), Cond.constantLong "MaskEdgesLaw" 18 (4294967295 : Int64)]
def xT : List Cond := xT_0 ++ (xT_1 ++ (xT_2 ++ (xT_3 ++ (xT_4 ++ (xT_5 ++ (xT_6 ++ (xT_7 ++ (xT_8 ++ (xT_9 ++ (xT_10 ++ (xT_11 ++ (xT_12 ++ (xT_13 ++ (xT_14 ++ (xT_15 ++ (xT_16 ++ (xT_17 ++ (xT_18 ++ (xT_19 ++ (xT_20 ++ (xT_21 ++ (xT_22 ++ (xT_23 ++ (xT_24 ++ (xT_25 ++ (xT_26))))))))))))))))))))))))))
theorem xTi_0 : ∀ w ∈ xT_0, w ∈ xT := fun _ h => List.mem_append_left _ h
theorem xTi_1 : ∀ w ∈ xT_1, w ∈ xT := fun _ h => List.mem_append_right _ (List.mem_append_left _ h)
theorem xTi_2 : ∀ w ∈ xT_2, w ∈ xT := fun _ h => List.mem_append_right _ (List.mem_append_right _ (List.mem_append_left _ h))
theorem xTi_3 : ∀ w ∈ xT_3, w ∈ xT := fun _ h => List.mem_append_right _ (List.mem_append_right _ (List.mem_append_right _ (List.mem_append_left _ h)))
theorem xTi_4 : ∀ w ∈ xT_4, w ∈ xT := fun _ h => List.mem_append_right _ (List.mem_append_right _ (List.mem_append_right _ (List.mem_append_right _ (List.mem_append_left _ h))))
theorem xTi_5 : ∀ w ∈ xT_5, w ∈ xT := fun _ h => List.mem_append_right _ (List.mem_append_right _ (List.mem_append_right _ (List.mem_append_right _ (List.mem_append_right _ (List.mem_append_left _ h)))))
theorem xTi_6 : ∀ w ∈ xT_6, w ∈ xT := fun _ h => List.mem_append_right _ (List.mem_append_right _ (List.mem_append_right _ (List.mem_append_right _ (List.mem_append_right _ (List.mem_append_right _ (List.mem_append_left _ h))))))
theorem xTi_7 : ∀ w ∈ xT_7, w ∈ xT := fun _ h => List.mem_append_right _ (List.mem_append_right _ (List.mem_append_right _ (List.mem_append_right _ (List.mem_append_right _ (List.mem_append_right _ (List.mem_append_right _ (List.mem_append_left _ h)))))))
theorem xTi_8 : ∀ w ∈ xT_8, w ∈ xT := fun _ h => List.mem_append_right _ (List.mem_append_right _ (List.mem_append_right _ (List.mem_append_right _ (List.mem_append_right _ (List.mem_append_right _ (List.mem_append_right _ (List.mem_append_right _ (List.mem_append_left _ h))))))))
theorem xTi_9 : ∀ w ∈ xT_9, w ∈ xT := fun _ h => List.mem_append_right _ (List.mem_append_right _ (List.mem_append_right _ (List.mem_append_right _ (List.mem_append_right _ (List.mem_append_right _ (List.mem_append_right _ (List.mem_append_right _ (List.mem_append_right _ (List.mem_append_left _ h)))))))))
theorem xTi_10 : ∀ w ∈ xT_10, w ∈ xT := fun _ h => List.mem_append_right _ (List.mem_append_right _ (List.mem_append_right _ (List.mem_append_right _ (List.mem_append_right _ (List.mem_append_right _ (List.mem_append_right _ (List.mem_append_right _ (List.mem_append_right _ (List.mem_append_right _ (List.mem_append_left _ h))))))))))
theorem xTi_11 : ∀ w ∈ xT_11, w ∈ xT := fun _ h => List.mem_append_right _ (List.mem_append_right _ (List.mem_append_right _ (List.mem_append_right _ (List.mem_append_right _ (List.mem_append_right _ (List.mem_append_right _ (List.mem_append_right _ (List.mem_append_right _ (List.mem_append_right _ (List.mem_append_right _ (List.mem_append_left _ h)))))))))))
theorem xTi_12 : ∀ w ∈ xT_12, w ∈ xT := fun _ h => List.mem_append_right _ (List.mem_append_right _ (List.mem_append_right _ (List.mem_append_right _ (List.mem_append_right _ (List.mem_append_right _ (List.mem_append_right _ (List.mem_append_right _ (List.mem_append_right _ (List.mem_append_right _ (List.mem_append_right _ (List.mem_append_right _ (List.mem_append_left _ h))))))))))))
theorem xTi_13 : ∀ w ∈ xT_13, w ∈ xT := fun _ h => List.mem_append_right _ (List.mem_append_right _ (List.mem_append_right _ (List.mem_append_right _ (List.mem_append_right _ (List.mem_append_right _ (List.mem_append_right _ (List.mem_append_right _ (List.mem_append_right _ (List.mem_append_right _ (List.mem_append_right _ (List.mem_append_right _ (List.mem_append_right _ (List.mem_append_left _ h)))))))))))))
theorem xTi_14 : ∀ w ∈ xT_14, w ∈ xT := fun _ h => List.mem_append_right _ (List.mem_append_right _ (List.mem_append_right _ (List.mem_append_right _ (List.mem_append_right _ (List.mem_append_right _ (List.mem_append_right _ (List.mem_append_right _ (List.mem_append_right _ (List.mem_append_right _ (List.mem_append_right _ (List.mem_append_right _ (List.mem_append_right _ (List.mem_append_right _ (List.mem_append_left _ h))))))))))))))
theorem xTi_15 : ∀ w ∈ xT_15, w ∈ xT := fun _ h => List.mem_append_right _ (List.mem_append_right _ (List.mem_append_right _ (List.mem_append_right _ (List.mem_append_right _ (List.mem_append_right _ (List.mem_append_right _ (List.mem_append_right _ (List.mem_append_right _ (List.mem_append_right _ (List.mem_append_right _ (List.mem_append_right _ (List.mem_append_right _ (List.mem_append_right _ (List.mem_append_right _ (List.mem_append_left _ h)))))))))))))))
theorem xTi_16 : ∀ w ∈ xT_16, w ∈ xT := fun _ h => List.mem_append_right _ (List.mem_append_right _ (List.mem_append_right _ (List.mem_append_right _ (List.mem_append_right _ (List.mem_append_right _ (List.mem_append_right _ (List.mem_append_right _ (List.mem_append_right _ (List.mem_append_right _ (List.mem_append_right _ (List.mem_append_right _ (List.mem_append_right _ (List.mem_append_right _ (List.mem_append_right _ (List.mem_append_right _ (List.mem_append_left _ h))))))))))))))))
theorem xTi_17 : ∀ w ∈ xT_17, w ∈ xT := fun _ h => List.mem_append_right _ (List.mem_append_right _ (List.mem_append_right _ (List.mem_append_right _ (List.mem_append_right _ (List.mem_append_right _ (List.mem_append_right _ (List.mem_append_right _ (List.mem_append_right _ (List.mem_append_right _ (List.mem_append_right _ (List.mem_append_right _ (List.mem_append_right _ (List.mem_append_right _ (List.mem_append_right _ (List.mem_append_right _ (List.mem_append_right _ (List.mem_append_left _ h)))))))))))))))))
theorem xTi_18 : ∀ w ∈ xT_18, w ∈ xT := fun _ h => List.mem_append_right _ (List.mem_append_right _ (List.mem_append_right _ (List.mem_append_right _ (List.mem_append_right _ (List.mem_append_right _ (List.mem_append_right _ (List.mem_append_right _ (List.mem_append_right _ (List.mem_append_right _ (List.mem_append_right _ (List.mem_append_right _ (List.mem_append_right _ (List.mem_append_right _ (List.mem_append_right _ (List.mem_append_right _ (List.mem_append_right _ (List.mem_append_right _ (List.mem_append_left _ h))))))))))))))))))
theorem xTi_19 : ∀ w ∈ xT_19, w ∈ xT := fun _ h => List.mem_append_right _ (List.mem_append_right _ (List.mem_append_right _ (List.mem_append_right _ (List.mem_append_right _ (List.mem_append_right _ (List.mem_append_right _ (List.mem_append_right _ (List.mem_append_right _ (List.mem_append_right _ (List.mem_append_right _ (List.mem_append_right _ (List.mem_append_right _ (List.mem_append_right _ (List.mem_append_right _ (List.mem_append_right _ (List.mem_append_right _ (List.mem_append_right _ (List.mem_append_right _ (List.mem_append_left _ h)))))))))))))))))))
theorem xTi_20 : ∀ w ∈ xT_20, w ∈ xT := fun _ h => List.mem_append_right _ (List.mem_append_right _ (List.mem_append_right _ (List.mem_append_right _ (List.mem_append_right _ (List.mem_append_right _ (List.mem_append_right _ (List.mem_append_right _ (List.mem_append_right _ (List.mem_append_right _ (List.mem_append_right _ (List.mem_append_right _ (List.mem_append_right _ (List.mem_append_right _ (List.mem_append_right _ (List.mem_append_right _ (List.mem_append_right _ (List.mem_append_right _ (List.mem_append_right _ (List.mem_append_right _ (List.mem_append_left _ h))))))))))))))))))))
theorem xTi_21 : ∀ w ∈ xT_21, w ∈ xT := fun _ h => List.mem_append_right _ (List.mem_append_right _ (List.mem_append_right _ (List.mem_append_right _ (List.mem_append_right _ (List.mem_append_right _ (List.mem_append_right _ (List.mem_append_right _ (List.mem_append_right _ (List.mem_append_right _ (List.mem_append_right _ (List.mem_append_right _ (List.mem_append_right _ (List.mem_append_right _ (List.mem_append_right _ (List.mem_append_right _ (List.mem_append_right _ (List.mem_append_right _ (List.mem_append_right _ (List.mem_append_right _ (List.mem_append_right _ (List.mem_append_left _ h)))))))))))))))))))))
theorem xTi_22 : ∀ w ∈ xT_22, w ∈ xT := fun _ h => List.mem_append_right _ (List.mem_append_right _ (List.mem_append_right _ (List.mem_append_right _ (List.mem_append_right _ (List.mem_append_right _ (List.mem_append_right _ (List.mem_append_right _ (List.mem_append_right _ (List.mem_append_right _ (List.mem_append_right _ (List.mem_append_right _ (List.mem_append_right _ (List.mem_append_right _ (List.mem_append_right _ (List.mem_append_right _ (List.mem_append_right _ (List.mem_append_right _ (List.mem_append_right _ (List.mem_append_right _ (List.mem_append_right _ (List.mem_append_right _ (List.mem_append_left _ h))))))))))))))))))))))
theorem xTi_23 : ∀ w ∈ xT_23, w ∈ xT := fun _ h => List.mem_append_right _ (List.mem_append_right _ (List.mem_append_right _ (List.mem_append_right _ (List.mem_append_right _ (List.mem_append_right _ (List.mem_append_right _ (List.mem_append_right _ (List.mem_append_right _ (List.mem_append_right _ (List.mem_append_right _ (List.mem_append_right _ (List.mem_append_right _ (List.mem_append_right _ (List.mem_append_right _ (List.mem_append_right _ (List.mem_append_right _ (List.mem_append_right _ (List.mem_append_right _ (List.mem_append_right _ (List.mem_append_right _ (List.mem_append_right _ (List.mem_append_right _ (List.mem_append_left _ h)))))))))))))))))))))))
theorem xTi_24 : ∀ w ∈ xT_24, w ∈ xT := fun _ h => List.mem_append_right _ (List.mem_append_right _ (List.mem_append_right _ (List.mem_append_right _ (List.mem_append_right _ (List.mem_append_right _ (List.mem_append_right _ (List.mem_append_right _ (List.mem_append_right _ (List.mem_append_right _ (List.mem_append_right _ (List.mem_append_right _ (List.mem_append_right _ (List.mem_append_right _ (List.mem_append_right _ (List.mem_append_right _ (List.mem_append_right _ (List.mem_append_right _ (List.mem_append_right _ (List.mem_append_right _ (List.mem_append_right _ (List.mem_append_right _ (List.mem_append_right _ (List.mem_append_right _ (List.mem_append_left _ h))))))))))))))))))))))))
theorem xTi_25 : ∀ w ∈ xT_25, w ∈ xT := fun _ h => List.mem_append_right _ (List.mem_append_right _ (List.mem_append_right _ (List.mem_append_right _ (List.mem_append_right _ (List.mem_append_right _ (List.mem_append_right _ (List.mem_append_right _ (List.mem_append_right _ (List.mem_append_right _ (List.mem_append_right _ (List.mem_append_right _ (List.mem_append_right _ (List.mem_append_right _ (List.mem_append_right _ (List.mem_append_right _ (List.mem_append_right _ (List.mem_append_right _ (List.mem_append_right _ (List.mem_append_right _ (List.mem_append_right _ (List.mem_append_right _ (List.mem_append_right _ (List.mem_append_right _ (List.mem_append_right _ (List.mem_append_left _ h)))))))))))))))))))))))))
theorem xTi_26 : ∀ w ∈ xT_26, w ∈ xT := fun _ h => List.mem_append_right _ (List.mem_append_right _ (List.mem_append_right _ (List.mem_append_right _ (List.mem_append_right _ (List.mem_append_right _ (List.mem_append_right _ (List.mem_append_right _ (List.mem_append_right _ (List.mem_append_right _ (List.mem_append_right _ (List.mem_append_right _ (List.mem_append_right _ (List.mem_append_right _ (List.mem_append_right _ (List.mem_append_right _ (List.mem_append_right _ (List.mem_append_right _ (List.mem_append_right _ (List.mem_append_right _ (List.mem_append_right _ (List.mem_append_right _ (List.mem_append_right _ (List.mem_append_right _ (List.mem_append_right _ (List.mem_append_right _ (h))))))))))))))))))))))))))
set_option maxRecDepth 100000 in
theorem xTg_0 : GoodIn lw_tbl xT_0 := xgoodIn xT_0 [0, 1, 2, 3, 4, 5, 6, 7, 8, 9, 10, 11, 12, 13, 14, 15, 16, 17, 18, 19, 20, 21, 22, 23, 24] rfl (by decide +kernel)
set_option maxRecDepth 100000 in
theorem xTg_1 : GoodIn lw_tbl xT_1 := xgoodIn xT_1 [25, 26, 27, 28, 29, 30, 31, 32, 33, 34, 35, 36, 37, 38, 39, 40, 41, 42, 43, 44, 45, 46, 47, 48, 49] rfl (by decide +kernel)
set_option maxRecDepth 100000 in
theorem xTg_2 : GoodIn lw_tbl xT_2 := xgoodIn xT_2 [50, 51, 52, 53, 54, 56, 58, 60, 61, 63, 64, 65, 66, 67, 70, 71, 72, 73, 75, 76, 77, 78, 79, 80, 81] rfl (by decide +kernel)
set_option maxRecDepth 100000 in
theorem xTg_3 : GoodIn lw_tbl xT_3 := xgoodIn xT_3 [82, 83, 85, 87, 89, 92, 94, 95, 96, 97, 98, 99, 100, 101, 102, 103, 104, 105, 106, 107, 108, 109, 111, 113, 115] rfl (by decide +kernel)
set_option maxRecDepth 100000 in
theorem xTg_4 : GoodIn lw_tbl xT_4 := xgoodIn xT_4 [118, 120, 121, 122, 123, 124, 125, 126, 127, 128, 129, 130, 131, 133, 135, 137, 140, 142, 143, 144, 145, 146, 147, 148, 149] rfl (by decide +kernel)
set_option maxRecDepth 100000 in
theorem xTg_5 : GoodIn lw_tbl xT_5 := xgoodIn xT_5 [150, 151, 152, 153, 154, 155, 156, 157, 158, 159, 160, 161, 162, 163, 164, 165, 166, 167, 168, 170, 172, 174, 176, 178, 180] rfl (by decide +kernel)
set_option maxRecDepth 100000 in
theorem xTg_6 : GoodIn lw_tbl xT_6 := xgoodIn xT_6 [182, 184, 186, 188, 190, 193, 194, 195, 196, 197, 198, 199, 200, 201, 202, 203, 204, 205, 206, 207, 209, 211, 213, 215, 217] rfl (by decide +kernel)
set_option maxRecDepth 100000 in
theorem xTg_7 : GoodIn lw_tbl xT_7 := xgoodIn xT_7 [219, 221, 223, 225, 227, 229, 231, 233, 236, 237, 238, 239, 240, 241, 242, 243, 244, 245, 246, 247, 248, 249, 251, 252, 253] rfl (by decide +kernel)
set_option maxRecDepth 100000 in
theorem xTg_8 : GoodIn lw_tbl xT_8 := xgoodIn xT_8 [254, 255, 256, 257, 258, 259, 260, 261, 263, 264, 265, 266, 267, 268, 269, 270, 271, 272, 273, 274, 275, 276, 277, 278, 280] rfl (by decide +kernel)
set_option maxRecDepth 100000 in
theorem xTg_9 : GoodIn lw_tbl xT_9 := xgoodIn xT_9 [281, 282, 284, 285, 286, 287, 288, 289, 290, 292, 293, 294, 295, 296, 297, 298, 299, 300, 301, 302, 303, 305, 306, 307, 308] rfl (by decide +kernel)
set_option maxRecDepth 100000 in
theorem xTg_10 : GoodIn lw_tbl xT_10 := xgoodIn xT_10 [309, 310, 311, 312, 313, 314, 315, 316, 317, 318, 319, 320, 321, 322, 323, 324, 325, 326, 327, 328, 329, 330, 331, 332, 333] rfl (by decide +kernel)
set_option maxRecDepth 100000 in
theorem xTg_11 : GoodIn lw_tbl xT_11 := xgoodIn xT_11 [335, 336, 337, 338, 339, 340, 341, 342, 343, 344, 345, 346, 347, 348, 349, 350, 351, 352, 354, 355, 356, 357, 358, 359, 360] rfl (by decide +kernel)
set_option maxRecDepth 100000 in
theorem xTg_12 : GoodIn lw_tbl xT_12 := xgoodIn xT_12 [361, 362, 363, 364, 365, 366, 367, 368, 369, 371, 372, 373, 374, 375, 376, 377, 378, 379, 380, 381, 382, 383, 384, 385, 386] rfl (by decide +kernel)
set_option maxRecDepth 100000 in
theorem xTg_13 : GoodIn lw_tbl xT_13 := xgoodIn xT_13 [387, 388, 389, 390, 391, 392, 393, 394, 395, 396, 397, 399, 400, 401, 403, 404, 405, 406, 407, 408, 409, 410, 411, 412, 414] rfl (by decide +kernel)
set_option maxRecDepth 100000 in
theorem xTg_14 : GoodIn lw_tbl xT_14 := xgoodIn xT_14 [415, 416, 417, 418, 419, 420, 422, 423, 424, 425, 426, 428, 429, 430, 431, 432, 433, 434, 435, 436, 437, 438, 440, 442, 443] rfl (by decide +kernel)
set_option maxRecDepth 100000 in
theorem xTg_15 : GoodIn lw_tbl xT_15 := xgoodIn xT_15 [444, 445, 446, 447, 448, 449, 450, 451, 452, 453, 454, 455, 456, 457, 458, 459, 460, 462, 463, 464, 465, 466, 467, 468, 469] rfl (by decide +kernel)
set_option maxRecDepth 100000 in
theorem xTg_16 : GoodIn lw_tbl xT_16 := xgoodIn xT_16 [470, 471, 472, 473, 474, 475, 476, 477, 478, 479, 480, 481, 482, 483, 484, 485, 486, 487, 488, 489, 490, 491, 492, 494, 495] rfl (by decide +kernel)
set_option maxRecDepth 100000 in
theorem xTg_17 : GoodIn lw_tbl xT_17 := xgoodIn xT_17 [496, 497, 498, 499, 500, 501, 502, 503, 504, 505, 506, 507, 508, 509, 510, 511, 512, 513, 514, 515, 516, 517, 518, 519, 520] rfl (by decide +kernel)
set_option maxRecDepth 100000 in
theorem xTg_18 : GoodIn lw_tbl xT_18 := xgoodIn xT_18 [521, 522, 523, 524, 525, 526, 527, 528, 529, 530, 531, 532, 533, 534, 535, 536, 537, 538, 539, 540, 541, 542, 543, 544, 545] rfl (by decide +kernel)
set_option maxRecDepth 100000 in
theorem xTg_19 : GoodIn lw_tbl xT_19 := xgoodIn xT_19 [546, 548, 550, 552, 554, 556, 558, 560, 562, 564, 566, 568, 570, 572, 574, 576, 578, 580, 582, 584, 586, 588, 590, 592, 594] rfl (by decide +kernel)
set_option maxRecDepth 100000 in
theorem xTg_20 : GoodIn lw_tbl xT_20 := xgoodIn xT_20 [596, 598, 600, 603, 604, 605, 606, 607, 608, 609, 610, 611, 612, 613, 614, 615, 616, 618, 619, 620, 621, 622, 623, 624, 625] rfl (by decide +kernel)
set_option maxRecDepth 100000 in
theorem xTg_21 : GoodIn lw_tbl xT_21 := xgoodIn xT_21 [626, 627, 628, 629, 630, 631, 633, 634, 635, 637, 638, 639, 641, 642, 643, 645, 646, 647, 649, 650, 651, 653, 654, 655, 657] rfl (by decide +kernel)
set_option maxRecDepth 100000 in
theorem xTg_22 : GoodIn lw_tbl xT_22 := xgoodIn xT_22 [658, 659, 660, 661, 662, 663, 664, 665, 666, 667, 669, 670, 671, 673, 674, 675, 677, 678, 679, 681, 682, 683, 685, 686, 687] rfl (by decide +kernel)
set_option maxRecDepth 100000 in
theorem xTg_23 : GoodIn lw_tbl xT_23 := xgoodIn xT_23 [689, 690, 691, 692, 693, 694, 695, 696, 697, 698, 699, 700, 701, 702, 704, 705, 706, 707, 709, 710, 711, 713, 714, 715, 716] rfl (by decide +kernel)
set_option maxRecDepth 100000 in
theorem xTg_24 : GoodIn lw_tbl xT_24 := xgoodIn xT_24 [717, 718, 719, 720, 721, 722, 723, 725, 726, 727, 729, 730, 731, 732, 733, 734, 736, 737, 738, 739, 740, 741, 742, 743, 744] rfl (by decide +kernel)
set_option maxRecDepth 100000 in
theorem xTg_25 : GoodIn lw_tbl xT_25 := xgoodIn xT_25 [745, 746, 747, 748, 749, 750, 751, 753, 754, 755, 757, 758, 759, 760, 761, 762, 763, 764, 765, 766, 767, 768, 769, 770, 771] rfl (by decide +kernel)
set_option maxRecDepth 100000 in
theorem xTg_26 : GoodIn lw_tbl xT_26 := xgoodIn xT_26 [772, 773, 774, 775, 776, 777, 778] rfl (by decide +kernel)
theorem xTg : GoodIn lw_tbl xT := xgood_app xTg_0 (xgood_app xTg_1 (xgood_app xTg_2 (xgood_app xTg_3 (xgood_app xTg_4 (xgood_app xTg_5 (xgood_app xTg_6 (xgood_app xTg_7 (xgood_app xTg_8 (xgood_app xTg_9 (xgood_app xTg_10 (xgood_app xTg_11 (xgood_app xTg_12 (xgood_app xTg_13 (xgood_app xTg_14 (xgood_app xTg_15 (xgood_app xTg_16 (xgood_app xTg_17 (xgood_app xTg_18 (xgood_app xTg_19 (xgood_app xTg_20 (xgood_app xTg_21 (xgood_app xTg_22 (xgood_app xTg_23 (xgood_app xTg_24 (xgood_app xTg_25 (xTg_26))))))))))))))))))))))))))
theorem xw_0 : Cond.selects "MaskEdges$Outline" y_Outline_maySideGoTo y_Outline_maySideGoTo ∈ xT := xTi_0 _ (List.mem_of_getElem? (i := 0) rfl)
theorem xw_1 : Cond.selects "MaskEdges" y_MaskEdges_addToTarget y_MaskEdges_addToTarget ∈ xT := xTi_0 _ (List.mem_of_getElem? (i := 1) rfl)
theorem xw_2 : Cond.selects "MaskEdges" y_MaskEdges_renewMask y_MaskEdges_renewMask ∈ xT := xTi_0 _ (List.mem_of_getElem? (i := 2) rfl)
theorem xw_3 : Cond.selects "MaskEdges" y_MaskEdges_applyMove y_MaskEdges_applyMove ∈ xT := xTi_0 _ (List.mem_of_getElem? (i := 3) rfl)
theorem xw_4 : Cond.selects "MaskEdges" y_MaskEdges_piecesFor y_MaskEdges_piecesFor ∈ xT := xTi_0 _ (List.mem_of_getElem? (i := 4) rfl)
theorem xw_5 : Cond.selects "MaskEdges" y_MaskEdges_cutOutline y_MaskEdges_cutOutline ∈ xT := xTi_0 _ (List.mem_of_getElem? (i := 5) rfl)
theorem xw_6 : Cond.selects "MaskEdges$Piece" y_Piece_faceOutward y_Piece_faceOutward ∈ xT := xTi_0 _ (List.mem_of_getElem? (i := 6) rfl)
theorem xw_7 : Cond.selects "MaskEdges" y_MaskEdges_isPiece y_MaskEdges_isPiece ∈ xT := xTi_0 _ (List.mem_of_getElem? (i := 7) rfl)
theorem xw_8 : Cond.selects "MaskEdges" y_MaskEdges_errorOf y_MaskEdges_errorOf ∈ xT := xTi_0 _ (List.mem_of_getElem? (i := 8) rfl)
theorem xw_9 : Cond.selects "MaskEdges" y_MaskEdges_worstError y_MaskEdges_worstError ∈ xT := xTi_0 _ (List.mem_of_getElem? (i := 9) rfl)
theorem xw_10 : Cond.selects "MaskEdges" y_MaskEdges_moveAgainstErrors y_MaskEdges_moveAgainstErrors ∈ xT := xTi_0 _ (List.mem_of_getElem? (i := 10) rfl)
theorem xw_11 : Cond.selects "MaskEdges" y_MaskEdges_takeMovesBack y_MaskEdges_takeMovesBack ∈ xT := xTi_0 _ (List.mem_of_getElem? (i := 11) rfl)
theorem xw_12 : Cond.selects "MaskEdges" y_MaskEdges_placeBar y_MaskEdges_placeBar ∈ xT := xTi_0 _ (List.mem_of_getElem? (i := 12) rfl)
theorem xw_13 : Cond.selects "MaskEdges" y_MaskEdges_sameTargetAround y_MaskEdges_sameTargetAround ∈ xT := xTi_0 _ (List.mem_of_getElem? (i := 13) rfl)
theorem xw_14 : Cond.selects "MaskEdgesModel" y_MaskEdgesModel_goesAlongX y_MaskEdgesModel_goesAlongX ∈ xT := xTi_0 _ (List.mem_of_getElem? (i := 14) rfl)
theorem xw_15 : Cond.selects "MaskEdgesModel" y_MaskEdgesModel_hasClosed y_MaskEdgesModel_hasClosed ∈ xT := xTi_0 _ (List.mem_of_getElem? (i := 15) rfl)
theorem xw_16 : Cond.selects "MaskEdgesModel" y_MaskEdgesModel_lengthOf y_MaskEdgesModel_lengthOf ∈ xT := xTi_0 _ (List.mem_of_getElem? (i := 16) rfl)
theorem xw_17 : Cond.selects "MaskEdgesModel" y_MaskEdgesModel_addPieces y_MaskEdgesModel_addPieces ∈ xT := xTi_0 _ (List.mem_of_getElem? (i := 17) rfl)
theorem xw_18 : Cond.selects "MaskEdgesModel" y_MaskEdgesModel_besideX y_MaskEdgesModel_besideX ∈ xT := xTi_0 _ (List.mem_of_getElem? (i := 18) rfl)
theorem xw_19 : Cond.selects "MaskEdgesModel" y_MaskEdgesModel_middle y_MaskEdgesModel_middle ∈ xT := xTi_0 _ (List.mem_of_getElem? (i := 19) rfl)
theorem xw_20 : Cond.selects "MaskEdgesModel" y_MaskEdgesModel_besideY y_MaskEdgesModel_besideY ∈ xT := xTi_0 _ (List.mem_of_getElem? (i := 20) rfl)
theorem xw_21 : Cond.selects "MaskEdgesModel" y_MaskEdgesModel_isIn y_MaskEdgesModel_isIn ∈ xT := xTi_0 _ (List.mem_of_getElem? (i := 21) rfl)
theorem xw_22 : Cond.selects "MaskEdgesModel" y_MaskEdgesModel_make y_MaskEdgesModel_make ∈ xT := xTi_0 _ (List.mem_of_getElem? (i := 22) rfl)
theorem xw_23 : Cond.selects "MaskEdgesModel" y_MaskEdgesModel_isTarget y_MaskEdgesModel_isTarget ∈ xT := xTi_0 _ (List.mem_of_getElem? (i := 23) rfl)
theorem xw_24 : Cond.selects "MaskEdgesModel" y_MaskEdgesModel_putPiece y_MaskEdgesModel_putPiece ∈ xT := xTi_0 _ (List.mem_of_getElem? (i := 24) rfl)
theorem xw_25 : Cond.selects "MaskEdgesModel" y_MaskEdgesModel_put y_MaskEdgesModel_put ∈ xT := xTi_1 _ (List.mem_of_getElem? (i := 0) rfl)
theorem xw_26 : Cond.selects "MaskEdgesModel" y_MaskEdgesModel_imageAt y_MaskEdgesModel_imageAt ∈ xT := xTi_1 _ (List.mem_of_getElem? (i := 1) rfl)
theorem xw_27 : Cond.selects "MaskEdgesModel" y_MaskEdgesModel_countAt y_MaskEdgesModel_countAt ∈ xT := xTi_1 _ (List.mem_of_getElem? (i := 2) rfl)
theorem xw_28 : Cond.selects "MaskEdgesModel" y_MaskEdgesModel_isPiece y_MaskEdgesModel_isPiece ∈ xT := xTi_1 _ (List.mem_of_getElem? (i := 3) rfl)
theorem xw_29 : Cond.selects "MaskEdgesModel" y_MaskEdgesModel_errorAt y_MaskEdgesModel_errorAt ∈ xT := xTi_1 _ (List.mem_of_getElem? (i := 4) rfl)
theorem xw_30 : Cond.selects "MaskEdgesModel" y_MaskEdgesModel_doesPrint y_MaskEdgesModel_doesPrint ∈ xT := xTi_1 _ (List.mem_of_getElem? (i := 5) rfl)
theorem xw_31 : Cond.selects "MaskEdgesModel" y_MaskEdgesModel_worstNow y_MaskEdgesModel_worstNow ∈ xT := xTi_1 _ (List.mem_of_getElem? (i := 6) rfl)
theorem xw_32 : Cond.selects "MaskEdgesModel" y_MaskEdgesModel_moveAll y_MaskEdgesModel_moveAll ∈ xT := xTi_1 _ (List.mem_of_getElem? (i := 7) rfl)
theorem xw_33 : Cond.selects "MaskEdgesModel" y_MaskEdgesModel_moveBack y_MaskEdgesModel_moveBack ∈ xT := xTi_1 _ (List.mem_of_getElem? (i := 8) rfl)
theorem xw_34 : Cond.selects "MaskEdgesModel" y_MaskEdgesModel_hasCome y_MaskEdgesModel_hasCome ∈ xT := xTi_1 _ (List.mem_of_getElem? (i := 9) rfl)
theorem xw_35 : Cond.selects "MaskEdgesModel" y_MaskEdgesModel_isFree y_MaskEdgesModel_isFree ∈ xT := xTi_1 _ (List.mem_of_getElem? (i := 10) rfl)
theorem xw_36 : Cond.initialized "MaskEdgesLaw" ∈ xT := xTi_1 _ (List.mem_of_getElem? (i := 11) rfl)
theorem xw_37 : Cond.initialized "MaskEdges" ∈ xT := xTi_1 _ (List.mem_of_getElem? (i := 12) rfl)
theorem xw_38 : Cond.initialized "MaskEdges$CellSet" ∈ xT := xTi_1 _ (List.mem_of_getElem? (i := 13) rfl)
theorem xw_39 : Cond.initialized "MaskEdges$Exposure" ∈ xT := xTi_1 _ (List.mem_of_getElem? (i := 14) rfl)
theorem xw_40 : Cond.initialized "MaskEdges$Box" ∈ xT := xTi_1 _ (List.mem_of_getElem? (i := 15) rfl)
theorem xw_41 : Cond.initialized "MaskEdges$Outline" ∈ xT := xTi_1 _ (List.mem_of_getElem? (i := 16) rfl)
theorem xw_42 : Cond.initialized "MaskEdges$Piece" ∈ xT := xTi_1 _ (List.mem_of_getElem? (i := 17) rfl)
theorem xw_43 : Cond.initialized "MaskEdgesModel" ∈ xT := xTi_1 _ (List.mem_of_getElem? (i := 18) rfl)
theorem xw_44 : Cond.initialized "java/lang/Math" ∈ xT := xTi_1 _ (List.mem_of_getElem? (i := 19) rfl)
theorem xw_45 : Cond.initialized "java/lang/Long" ∈ xT := xTi_1 _ (List.mem_of_getElem? (i := 20) rfl)
theorem xw_46 : Cond.classLink "MaskEdgesLaw" 7 "MaskEdges" ∈ xT := xTi_1 _ (List.mem_of_getElem? (i := 21) rfl)
theorem xw_47 : Cond.instantiable "MaskEdges" 14 ∈ xT := xTi_1 _ (List.mem_of_getElem? (i := 22) rfl)
theorem xw_48 : Cond.methodLink "MaskEdgesLaw" 9 y_MaskEdges_init ∈ xT := xTi_1 _ (List.mem_of_getElem? (i := 23) rfl)
theorem xw_49 : Cond.instanceMethod y_MaskEdges_init ∈ xT := xTi_1 _ (List.mem_of_getElem? (i := 24) rfl)
theorem xw_50 : Cond.code y_MaskEdges_init prog_1_method_1_code 2 none ∈ xT := xTi_2 _ (List.mem_of_getElem? (i := 0) rfl)
theorem xw_51 : Cond.methodLink "MaskEdges" 1 y_Object_init ∈ xT := xTi_2 _ (List.mem_of_getElem? (i := 1) rfl)
theorem xw_52 : Cond.instanceMethod y_Object_init ∈ xT := xTi_2 _ (List.mem_of_getElem? (i := 2) rfl)
theorem xw_53 : Cond.code y_Object_init object_method_1_code 1 none ∈ xT := xTi_2 _ (List.mem_of_getElem? (i := 3) rfl)
theorem xw_54 : Cond.classLink "MaskEdges" 9 "MaskEdges$Outline" ∈ xT := xTi_2 _ (List.mem_of_getElem? (i := 4) rfl)
theorem xw_55 : Cond.classLink "MaskEdges" 15 "MaskEdges$Piece" ∈ xT := xTi_2 _ (List.mem_of_getElem? (i := 5) rfl)
theorem xw_56 : Cond.classLink "MaskEdges" 25 "MaskEdges$Box" ∈ xT := xTi_2 _ (List.mem_of_getElem? (i := 6) rfl)
theorem xw_57 : Cond.classLink "MaskEdges" 31 "MaskEdges$CellSet" ∈ xT := xTi_2 _ (List.mem_of_getElem? (i := 7) rfl)
theorem xw_58 : Cond.instantiable "MaskEdges$CellSet" 1 ∈ xT := xTi_2 _ (List.mem_of_getElem? (i := 8) rfl)
theorem xw_59 : Cond.instanceMethod y_CellSet_init ∈ xT := xTi_2 _ (List.mem_of_getElem? (i := 9) rfl)
theorem xw_60 : Cond.code y_CellSet_init prog_3_method_1_code 1 none ∈ xT := xTi_2 _ (List.mem_of_getElem? (i := 10) rfl)
theorem xw_61 : Cond.methodLink "MaskEdges$CellSet" 3 y_Object_init ∈ xT := xTi_2 _ (List.mem_of_getElem? (i := 11) rfl)
theorem xw_62 : Cond.fieldLink "MaskEdges$CellSet" 9 "MaskEdges$CellSet" "rows" "[J" ∈ xT := xTi_2 _ (List.mem_of_getElem? (i := 12) rfl)
theorem xw_63 : Cond.laysFinal "MaskEdges$CellSet" "MaskEdges$CellSet" "rows" "[J" ∈ xT := xTi_2 _ (List.mem_of_getElem? (i := 13) rfl)
theorem xw_64 : Cond.arrayClass .int ∈ xT := xTi_2 _ (List.mem_of_getElem? (i := 14) rfl)
theorem xw_65 : Cond.arrayClass .long ∈ xT := xTi_2 _ (List.mem_of_getElem? (i := 15) rfl)
theorem xw_66 : Cond.classLink "MaskEdges" 44 "MaskEdges$Exposure" ∈ xT := xTi_2 _ (List.mem_of_getElem? (i := 16) rfl)
theorem xw_67 : Cond.instantiable "MaskEdges$Exposure" 4 ∈ xT := xTi_2 _ (List.mem_of_getElem? (i := 17) rfl)
theorem xw_68 : Cond.instanceMethod y_Exposure_init ∈ xT := xTi_2 _ (List.mem_of_getElem? (i := 18) rfl)
theorem xw_69 : Cond.code y_Exposure_init prog_4_method_1_code 1 none ∈ xT := xTi_2 _ (List.mem_of_getElem? (i := 19) rfl)
theorem xw_70 : Cond.methodLink "MaskEdges$Exposure" 3 y_Object_init ∈ xT := xTi_2 _ (List.mem_of_getElem? (i := 20) rfl)
theorem xw_71 : Cond.fieldLink "MaskEdges$Exposure" 9 "MaskEdges$Exposure" "weights" "[I" ∈ xT := xTi_2 _ (List.mem_of_getElem? (i := 21) rfl)
theorem xw_72 : Cond.fieldLink "MaskEdges$Exposure" 15 "MaskEdges$Exposure" "widths" "[I" ∈ xT := xTi_2 _ (List.mem_of_getElem? (i := 22) rfl)
theorem xw_73 : Cond.fieldLink "MaskEdges$Exposure" 22 "MaskEdges$Exposure" "kernels" "I" ∈ xT := xTi_2 _ (List.mem_of_getElem? (i := 23) rfl)
theorem xw_74 : Cond.fieldLink "MaskEdges$Exposure" 18 "MaskEdges$Exposure" "threshold" "I" ∈ xT := xTi_2 _ (List.mem_of_getElem? (i := 24) rfl)
theorem xw_75 : Cond.fieldLink "MaskEdges" 117 "MaskEdges$Exposure" "threshold" "I" ∈ xT := xTi_3 _ (List.mem_of_getElem? (i := 0) rfl)
theorem xw_76 : Cond.laysFinal "MaskEdges$Exposure" "MaskEdges$Exposure" "weights" "[I" ∈ xT := xTi_3 _ (List.mem_of_getElem? (i := 1) rfl)
theorem xw_77 : Cond.laysFinal "MaskEdges$Exposure" "MaskEdges$Exposure" "widths" "[I" ∈ xT := xTi_3 _ (List.mem_of_getElem? (i := 2) rfl)
theorem xw_78 : Cond.lays "MaskEdges$Exposure" "MaskEdges$Exposure" "kernels" "I" ∈ xT := xTi_3 _ (List.mem_of_getElem? (i := 3) rfl)
theorem xw_79 : Cond.lays "MaskEdges$Exposure" "MaskEdges$Exposure" "threshold" "I" ∈ xT := xTi_3 _ (List.mem_of_getElem? (i := 4) rfl)
theorem xw_80 : Cond.instantiable "MaskEdges$Box" 4 ∈ xT := xTi_3 _ (List.mem_of_getElem? (i := 5) rfl)
theorem xw_81 : Cond.instanceMethod y_Box_init ∈ xT := xTi_3 _ (List.mem_of_getElem? (i := 6) rfl)
theorem xw_82 : Cond.code y_Box_init prog_2_method_1_code 1 none ∈ xT := xTi_3 _ (List.mem_of_getElem? (i := 7) rfl)
theorem xw_83 : Cond.methodLink "MaskEdges$Box" 3 y_Object_init ∈ xT := xTi_3 _ (List.mem_of_getElem? (i := 8) rfl)
theorem xw_84 : Cond.fieldLink "MaskEdges$Box" 28 "MaskEdges$Box" "left" "I" ∈ xT := xTi_3 _ (List.mem_of_getElem? (i := 9) rfl)
theorem xw_85 : Cond.fieldLink "MaskEdges$CellSet" 19 "MaskEdges$Box" "left" "I" ∈ xT := xTi_3 _ (List.mem_of_getElem? (i := 10) rfl)
theorem xw_86 : Cond.fieldLink "MaskEdges" 153 "MaskEdges$Box" "left" "I" ∈ xT := xTi_3 _ (List.mem_of_getElem? (i := 11) rfl)
theorem xw_87 : Cond.fieldLink "MaskEdges$Box" 36 "MaskEdges$Box" "top" "I" ∈ xT := xTi_3 _ (List.mem_of_getElem? (i := 12) rfl)
theorem xw_88 : Cond.fieldLink "MaskEdges$CellSet" 41 "MaskEdges$Box" "top" "I" ∈ xT := xTi_3 _ (List.mem_of_getElem? (i := 13) rfl)
theorem xw_89 : Cond.fieldLink "MaskEdges" 147 "MaskEdges$Box" "top" "I" ∈ xT := xTi_3 _ (List.mem_of_getElem? (i := 14) rfl)
theorem xw_90 : Cond.fieldLink "MaskEdges$Box" 33 "MaskEdges$Box" "right" "I" ∈ xT := xTi_3 _ (List.mem_of_getElem? (i := 15) rfl)
theorem xw_91 : Cond.fieldLink "MaskEdges$CellSet" 25 "MaskEdges$Box" "right" "I" ∈ xT := xTi_3 _ (List.mem_of_getElem? (i := 16) rfl)
theorem xw_92 : Cond.fieldLink "MaskEdges" 156 "MaskEdges$Box" "right" "I" ∈ xT := xTi_3 _ (List.mem_of_getElem? (i := 17) rfl)
theorem xw_93 : Cond.fieldLink "MaskEdges$Box" 39 "MaskEdges$Box" "bottom" "I" ∈ xT := xTi_3 _ (List.mem_of_getElem? (i := 18) rfl)
theorem xw_94 : Cond.fieldLink "MaskEdges$CellSet" 32 "MaskEdges$Box" "bottom" "I" ∈ xT := xTi_3 _ (List.mem_of_getElem? (i := 19) rfl)
theorem xw_95 : Cond.fieldLink "MaskEdges" 150 "MaskEdges$Box" "bottom" "I" ∈ xT := xTi_3 _ (List.mem_of_getElem? (i := 20) rfl)
theorem xw_96 : Cond.lays "MaskEdges$Box" "MaskEdges$Box" "left" "I" ∈ xT := xTi_3 _ (List.mem_of_getElem? (i := 21) rfl)
theorem xw_97 : Cond.lays "MaskEdges$Box" "MaskEdges$Box" "top" "I" ∈ xT := xTi_3 _ (List.mem_of_getElem? (i := 22) rfl)
theorem xw_98 : Cond.lays "MaskEdges$Box" "MaskEdges$Box" "right" "I" ∈ xT := xTi_3 _ (List.mem_of_getElem? (i := 23) rfl)
theorem xw_99 : Cond.lays "MaskEdges$Box" "MaskEdges$Box" "bottom" "I" ∈ xT := xTi_3 _ (List.mem_of_getElem? (i := 24) rfl)
theorem xw_100 : Cond.instantiable "MaskEdges$Outline" 4 ∈ xT := xTi_4 _ (List.mem_of_getElem? (i := 0) rfl)
theorem xw_101 : Cond.instanceMethod y_Outline_init ∈ xT := xTi_4 _ (List.mem_of_getElem? (i := 1) rfl)
theorem xw_102 : Cond.code y_Outline_init prog_5_method_1_code 1 none ∈ xT := xTi_4 _ (List.mem_of_getElem? (i := 2) rfl)
theorem xw_103 : Cond.methodLink "MaskEdges$Outline" 3 y_Object_init ∈ xT := xTi_4 _ (List.mem_of_getElem? (i := 3) rfl)
theorem xw_104 : Cond.fieldLink "MaskEdges$Outline" 9 "MaskEdges$Outline" "xs" "[I" ∈ xT := xTi_4 _ (List.mem_of_getElem? (i := 4) rfl)
theorem xw_105 : Cond.fieldLink "MaskEdges$Piece" 32 "MaskEdges$Outline" "xs" "[I" ∈ xT := xTi_4 _ (List.mem_of_getElem? (i := 5) rfl)
theorem xw_106 : Cond.fieldLink "MaskEdges$Outline" 15 "MaskEdges$Outline" "ys" "[I" ∈ xT := xTi_4 _ (List.mem_of_getElem? (i := 6) rfl)
theorem xw_107 : Cond.fieldLink "MaskEdges$Piece" 28 "MaskEdges$Outline" "ys" "[I" ∈ xT := xTi_4 _ (List.mem_of_getElem? (i := 7) rfl)
theorem xw_108 : Cond.fieldLink "MaskEdges$Outline" 26 "MaskEdges$Outline" "corners" "I" ∈ xT := xTi_4 _ (List.mem_of_getElem? (i := 8) rfl)
theorem xw_109 : Cond.fieldLink "MaskEdges" 229 "MaskEdges$Outline" "corners" "I" ∈ xT := xTi_4 _ (List.mem_of_getElem? (i := 9) rfl)
theorem xw_110 : Cond.fieldLink "MaskEdges$Outline" 18 "MaskEdges$Outline" "closed" "Z" ∈ xT := xTi_4 _ (List.mem_of_getElem? (i := 10) rfl)
theorem xw_111 : Cond.fieldLink "MaskEdges" 74 "MaskEdges$Outline" "closed" "Z" ∈ xT := xTi_4 _ (List.mem_of_getElem? (i := 11) rfl)
theorem xw_112 : Cond.laysFinal "MaskEdges$Outline" "MaskEdges$Outline" "xs" "[I" ∈ xT := xTi_4 _ (List.mem_of_getElem? (i := 12) rfl)
theorem xw_113 : Cond.laysFinal "MaskEdges$Outline" "MaskEdges$Outline" "ys" "[I" ∈ xT := xTi_4 _ (List.mem_of_getElem? (i := 13) rfl)
theorem xw_114 : Cond.lays "MaskEdges$Outline" "MaskEdges$Outline" "corners" "I" ∈ xT := xTi_4 _ (List.mem_of_getElem? (i := 14) rfl)
theorem xw_115 : Cond.lays "MaskEdges$Outline" "MaskEdges$Outline" "closed" "Z" ∈ xT := xTi_4 _ (List.mem_of_getElem? (i := 15) rfl)
theorem xw_116 : Cond.instantiable "MaskEdges$Piece" 12 ∈ xT := xTi_4 _ (List.mem_of_getElem? (i := 16) rfl)
theorem xw_117 : Cond.instanceMethod y_Piece_init ∈ xT := xTi_4 _ (List.mem_of_getElem? (i := 17) rfl)
theorem xw_118 : Cond.code y_Piece_init prog_6_method_1_code 1 none ∈ xT := xTi_4 _ (List.mem_of_getElem? (i := 18) rfl)
theorem xw_119 : Cond.methodLink "MaskEdges$Piece" 3 y_Object_init ∈ xT := xTi_4 _ (List.mem_of_getElem? (i := 19) rfl)
theorem xw_120 : Cond.fieldLink "MaskEdges$Piece" 22 "MaskEdges$Piece" "alongX" "Z" ∈ xT := xTi_4 _ (List.mem_of_getElem? (i := 20) rfl)
theorem xw_121 : Cond.fieldLink "MaskEdges$Box" 24 "MaskEdges$Piece" "alongX" "Z" ∈ xT := xTi_4 _ (List.mem_of_getElem? (i := 21) rfl)
theorem xw_122 : Cond.fieldLink "MaskEdges" 245 "MaskEdges$Piece" "alongX" "Z" ∈ xT := xTi_4 _ (List.mem_of_getElem? (i := 22) rfl)
theorem xw_123 : Cond.fieldLink "MaskEdges$Box" 9 "MaskEdges$Piece" "line" "I" ∈ xT := xTi_4 _ (List.mem_of_getElem? (i := 23) rfl)
theorem xw_124 : Cond.fieldLink "MaskEdges$Piece" 35 "MaskEdges$Piece" "line" "I" ∈ xT := xTi_4 _ (List.mem_of_getElem? (i := 24) rfl)
theorem xw_125 : Cond.fieldLink "MaskEdges$Piece" 67 "MaskEdges$Piece" "low" "I" ∈ xT := xTi_5 _ (List.mem_of_getElem? (i := 0) rfl)
theorem xw_126 : Cond.fieldLink "MaskEdges" 209 "MaskEdges$Piece" "low" "I" ∈ xT := xTi_5 _ (List.mem_of_getElem? (i := 1) rfl)
theorem xw_127 : Cond.fieldLink "MaskEdges$Piece" 70 "MaskEdges$Piece" "high" "I" ∈ xT := xTi_5 _ (List.mem_of_getElem? (i := 2) rfl)
theorem xw_128 : Cond.fieldLink "MaskEdges" 212 "MaskEdges$Piece" "high" "I" ∈ xT := xTi_5 _ (List.mem_of_getElem? (i := 3) rfl)
theorem xw_129 : Cond.fieldLink "MaskEdges$Piece" 45 "MaskEdges$Piece" "sideLow" "I" ∈ xT := xTi_5 _ (List.mem_of_getElem? (i := 4) rfl)
theorem xw_130 : Cond.fieldLink "MaskEdges" 254 "MaskEdges$Piece" "sideLow" "I" ∈ xT := xTi_5 _ (List.mem_of_getElem? (i := 5) rfl)
theorem xw_131 : Cond.fieldLink "MaskEdges$Piece" 51 "MaskEdges$Piece" "sideHigh" "I" ∈ xT := xTi_5 _ (List.mem_of_getElem? (i := 6) rfl)
theorem xw_132 : Cond.fieldLink "MaskEdges" 257 "MaskEdges$Piece" "sideHigh" "I" ∈ xT := xTi_5 _ (List.mem_of_getElem? (i := 7) rfl)
theorem xw_133 : Cond.fieldLink "MaskEdges$Piece" 54 "MaskEdges$Piece" "first" "Z" ∈ xT := xTi_5 _ (List.mem_of_getElem? (i := 8) rfl)
theorem xw_134 : Cond.fieldLink "MaskEdges$Piece" 57 "MaskEdges$Piece" "last" "Z" ∈ xT := xTi_5 _ (List.mem_of_getElem? (i := 9) rfl)
theorem xw_135 : Cond.fieldLink "MaskEdges$Piece" 84 "MaskEdges$Piece" "outward" "I" ∈ xT := xTi_5 _ (List.mem_of_getElem? (i := 10) rfl)
theorem xw_136 : Cond.fieldLink "MaskEdges" 215 "MaskEdges$Piece" "outward" "I" ∈ xT := xTi_5 _ (List.mem_of_getElem? (i := 11) rfl)
theorem xw_137 : Cond.fieldLink "MaskEdges$Piece" 87 "MaskEdges$Piece" "insideX" "I" ∈ xT := xTi_5 _ (List.mem_of_getElem? (i := 12) rfl)
theorem xw_138 : Cond.fieldLink "MaskEdges" 239 "MaskEdges$Piece" "insideX" "I" ∈ xT := xTi_5 _ (List.mem_of_getElem? (i := 13) rfl)
theorem xw_139 : Cond.fieldLink "MaskEdges$Piece" 90 "MaskEdges$Piece" "insideY" "I" ∈ xT := xTi_5 _ (List.mem_of_getElem? (i := 14) rfl)
theorem xw_140 : Cond.fieldLink "MaskEdges" 242 "MaskEdges$Piece" "insideY" "I" ∈ xT := xTi_5 _ (List.mem_of_getElem? (i := 15) rfl)
theorem xw_141 : Cond.fieldLink "MaskEdges$Piece" 60 "MaskEdges$Piece" "move" "I" ∈ xT := xTi_5 _ (List.mem_of_getElem? (i := 16) rfl)
theorem xw_142 : Cond.fieldLink "MaskEdges" 133 "MaskEdges$Piece" "move" "I" ∈ xT := xTi_5 _ (List.mem_of_getElem? (i := 17) rfl)
theorem xw_143 : Cond.lays "MaskEdges$Piece" "MaskEdges$Piece" "alongX" "Z" ∈ xT := xTi_5 _ (List.mem_of_getElem? (i := 18) rfl)
theorem xw_144 : Cond.lays "MaskEdges$Piece" "MaskEdges$Piece" "line" "I" ∈ xT := xTi_5 _ (List.mem_of_getElem? (i := 19) rfl)
theorem xw_145 : Cond.lays "MaskEdges$Piece" "MaskEdges$Piece" "low" "I" ∈ xT := xTi_5 _ (List.mem_of_getElem? (i := 20) rfl)
theorem xw_146 : Cond.lays "MaskEdges$Piece" "MaskEdges$Piece" "high" "I" ∈ xT := xTi_5 _ (List.mem_of_getElem? (i := 21) rfl)
theorem xw_147 : Cond.lays "MaskEdges$Piece" "MaskEdges$Piece" "sideLow" "I" ∈ xT := xTi_5 _ (List.mem_of_getElem? (i := 22) rfl)
theorem xw_148 : Cond.lays "MaskEdges$Piece" "MaskEdges$Piece" "sideHigh" "I" ∈ xT := xTi_5 _ (List.mem_of_getElem? (i := 23) rfl)
theorem xw_149 : Cond.lays "MaskEdges$Piece" "MaskEdges$Piece" "first" "Z" ∈ xT := xTi_5 _ (List.mem_of_getElem? (i := 24) rfl)
theorem xw_150 : Cond.lays "MaskEdges$Piece" "MaskEdges$Piece" "last" "Z" ∈ xT := xTi_6 _ (List.mem_of_getElem? (i := 0) rfl)
theorem xw_151 : Cond.lays "MaskEdges$Piece" "MaskEdges$Piece" "outward" "I" ∈ xT := xTi_6 _ (List.mem_of_getElem? (i := 1) rfl)
theorem xw_152 : Cond.lays "MaskEdges$Piece" "MaskEdges$Piece" "insideX" "I" ∈ xT := xTi_6 _ (List.mem_of_getElem? (i := 2) rfl)
theorem xw_153 : Cond.lays "MaskEdges$Piece" "MaskEdges$Piece" "insideY" "I" ∈ xT := xTi_6 _ (List.mem_of_getElem? (i := 3) rfl)
theorem xw_154 : Cond.lays "MaskEdges$Piece" "MaskEdges$Piece" "move" "I" ∈ xT := xTi_6 _ (List.mem_of_getElem? (i := 4) rfl)
theorem xw_155 : Cond.fieldLink "MaskEdges" 11 "MaskEdges" "outlines" "[LMaskEdges$Outline;" ∈ xT := xTi_6 _ (List.mem_of_getElem? (i := 5) rfl)
theorem xw_156 : Cond.fieldLink "MaskEdges" 65 "MaskEdges" "outlineCount" "I" ∈ xT := xTi_6 _ (List.mem_of_getElem? (i := 6) rfl)
theorem xw_157 : Cond.fieldLink "MaskEdges" 17 "MaskEdges" "pieces" "[LMaskEdges$Piece;" ∈ xT := xTi_6 _ (List.mem_of_getElem? (i := 7) rfl)
theorem xw_158 : Cond.fieldLink "MaskEdges" 61 "MaskEdges" "pieceCount" "I" ∈ xT := xTi_6 _ (List.mem_of_getElem? (i := 8) rfl)
theorem xw_159 : Cond.fieldLink "MaskEdges" 21 "MaskEdges" "movesBefore" "[I" ∈ xT := xTi_6 _ (List.mem_of_getElem? (i := 9) rfl)
theorem xw_160 : Cond.fieldLink "MaskEdges" 27 "MaskEdges" "bars" "[LMaskEdges$Box;" ∈ xT := xTi_6 _ (List.mem_of_getElem? (i := 10) rfl)
theorem xw_161 : Cond.fieldLink "MaskEdges" 136 "MaskEdges" "barCount" "I" ∈ xT := xTi_6 _ (List.mem_of_getElem? (i := 11) rfl)
theorem xw_162 : Cond.fieldLink "MaskEdges" 34 "MaskEdges" "target" "LMaskEdges$CellSet;" ∈ xT := xTi_6 _ (List.mem_of_getElem? (i := 12) rfl)
theorem xw_163 : Cond.fieldLink "MaskEdges" 38 "MaskEdges" "barCells" "LMaskEdges$CellSet;" ∈ xT := xTi_6 _ (List.mem_of_getElem? (i := 13) rfl)
theorem xw_164 : Cond.fieldLink "MaskEdges" 41 "MaskEdges" "mask" "LMaskEdges$CellSet;" ∈ xT := xTi_6 _ (List.mem_of_getElem? (i := 14) rfl)
theorem xw_165 : Cond.fieldLink "MaskEdges" 47 "MaskEdges" "exposure" "LMaskEdges$Exposure;" ∈ xT := xTi_6 _ (List.mem_of_getElem? (i := 15) rfl)
theorem xw_166 : Cond.fieldLink "MaskEdges" 51 "MaskEdges" "worsts" "[I" ∈ xT := xTi_6 _ (List.mem_of_getElem? (i := 16) rfl)
theorem xw_167 : Cond.fieldLink "MaskEdges" 130 "MaskEdges" "worstCount" "I" ∈ xT := xTi_6 _ (List.mem_of_getElem? (i := 17) rfl)
theorem xw_168 : Cond.fieldLink "MaskEdges" 55 "MaskEdges" "box" "LMaskEdges$Box;" ∈ xT := xTi_6 _ (List.mem_of_getElem? (i := 18) rfl)
theorem xw_169 : Cond.laysFinal "MaskEdges" "MaskEdges" "outlines" "[LMaskEdges$Outline;" ∈ xT := xTi_6 _ (List.mem_of_getElem? (i := 19) rfl)
theorem xw_170 : Cond.lays "MaskEdges" "MaskEdges" "outlineCount" "I" ∈ xT := xTi_6 _ (List.mem_of_getElem? (i := 20) rfl)
theorem xw_171 : Cond.laysFinal "MaskEdges" "MaskEdges" "pieces" "[LMaskEdges$Piece;" ∈ xT := xTi_6 _ (List.mem_of_getElem? (i := 21) rfl)
theorem xw_172 : Cond.lays "MaskEdges" "MaskEdges" "pieceCount" "I" ∈ xT := xTi_6 _ (List.mem_of_getElem? (i := 22) rfl)
theorem xw_173 : Cond.laysFinal "MaskEdges" "MaskEdges" "movesBefore" "[I" ∈ xT := xTi_6 _ (List.mem_of_getElem? (i := 23) rfl)
theorem xw_174 : Cond.laysFinal "MaskEdges" "MaskEdges" "bars" "[LMaskEdges$Box;" ∈ xT := xTi_6 _ (List.mem_of_getElem? (i := 24) rfl)
theorem xw_175 : Cond.lays "MaskEdges" "MaskEdges" "barCount" "I" ∈ xT := xTi_7 _ (List.mem_of_getElem? (i := 0) rfl)
theorem xw_176 : Cond.laysFinal "MaskEdges" "MaskEdges" "target" "LMaskEdges$CellSet;" ∈ xT := xTi_7 _ (List.mem_of_getElem? (i := 1) rfl)
theorem xw_177 : Cond.laysFinal "MaskEdges" "MaskEdges" "barCells" "LMaskEdges$CellSet;" ∈ xT := xTi_7 _ (List.mem_of_getElem? (i := 2) rfl)
theorem xw_178 : Cond.laysFinal "MaskEdges" "MaskEdges" "mask" "LMaskEdges$CellSet;" ∈ xT := xTi_7 _ (List.mem_of_getElem? (i := 3) rfl)
theorem xw_179 : Cond.laysFinal "MaskEdges" "MaskEdges" "exposure" "LMaskEdges$Exposure;" ∈ xT := xTi_7 _ (List.mem_of_getElem? (i := 4) rfl)
theorem xw_180 : Cond.laysFinal "MaskEdges" "MaskEdges" "worsts" "[I" ∈ xT := xTi_7 _ (List.mem_of_getElem? (i := 5) rfl)
theorem xw_181 : Cond.lays "MaskEdges" "MaskEdges" "worstCount" "I" ∈ xT := xTi_7 _ (List.mem_of_getElem? (i := 6) rfl)
theorem xw_182 : Cond.laysFinal "MaskEdges" "MaskEdges" "box" "LMaskEdges$Box;" ∈ xT := xTi_7 _ (List.mem_of_getElem? (i := 7) rfl)
theorem xw_183 : Cond.methodLink "MaskEdgesLaw" 13 y_MaskEdges_polygon ∈ xT := xTi_7 _ (List.mem_of_getElem? (i := 8) rfl)
theorem xw_184 : Cond.instanceMethod y_MaskEdges_polygon ∈ xT := xTi_7 _ (List.mem_of_getElem? (i := 9) rfl)
theorem xw_185 : Cond.selects "MaskEdges" y_MaskEdges_polygon y_MaskEdges_polygon ∈ xT := xTi_7 _ (List.mem_of_getElem? (i := 10) rfl)
theorem xw_186 : Cond.code y_MaskEdges_polygon prog_1_method_2_code 1 (some .int) ∈ xT := xTi_7 _ (List.mem_of_getElem? (i := 11) rfl)
theorem xw_187 : Cond.methodLink "MaskEdgesLaw" 20 y_MaskEdges_corner ∈ xT := xTi_7 _ (List.mem_of_getElem? (i := 12) rfl)
theorem xw_188 : Cond.instanceMethod y_MaskEdges_corner ∈ xT := xTi_7 _ (List.mem_of_getElem? (i := 13) rfl)
theorem xw_189 : Cond.selects "MaskEdges" y_MaskEdges_corner y_MaskEdges_corner ∈ xT := xTi_7 _ (List.mem_of_getElem? (i := 14) rfl)
theorem xw_190 : Cond.code y_MaskEdges_corner prog_1_method_3_code 8 (some .boolean) ∈ xT := xTi_7 _ (List.mem_of_getElem? (i := 15) rfl)
theorem xw_191 : Cond.constantLong "MaskEdges" 68 (48 : Int64) ∈ xT := xTi_7 _ (List.mem_of_getElem? (i := 16) rfl)
theorem xw_192 : Cond.methodLink "MaskEdges" 70 y_Outline_takeCorner ∈ xT := xTi_7 _ (List.mem_of_getElem? (i := 17) rfl)
theorem xw_193 : Cond.instanceMethod y_Outline_takeCorner ∈ xT := xTi_7 _ (List.mem_of_getElem? (i := 18) rfl)
theorem xw_194 : Cond.selects "MaskEdges$Outline" y_Outline_takeCorner y_Outline_takeCorner ∈ xT := xTi_7 _ (List.mem_of_getElem? (i := 19) rfl)
theorem xw_195 : Cond.code y_Outline_takeCorner prog_5_method_2_code 3 (some .boolean) ∈ xT := xTi_7 _ (List.mem_of_getElem? (i := 20) rfl)
theorem xw_196 : Cond.methodLink "MaskEdges$Outline" 22 y_Outline_maySideGoTo ∈ xT := xTi_7 _ (List.mem_of_getElem? (i := 21) rfl)
theorem xw_197 : Cond.instanceMethod y_Outline_maySideGoTo ∈ xT := xTi_7 _ (List.mem_of_getElem? (i := 22) rfl)
theorem xw_198 : Cond.code y_Outline_maySideGoTo prog_5_method_3_code 5 (some .boolean) ∈ xT := xTi_7 _ (List.mem_of_getElem? (i := 23) rfl)
theorem xw_199 : Cond.methodLink "MaskEdges$Outline" 30 y_Outline_isAlongX ∈ xT := xTi_7 _ (List.mem_of_getElem? (i := 24) rfl)
theorem xw_200 : Cond.instanceMethod y_Outline_isAlongX ∈ xT := xTi_8 _ (List.mem_of_getElem? (i := 0) rfl)
theorem xw_201 : Cond.selects "MaskEdges$Outline" y_Outline_isAlongX y_Outline_isAlongX ∈ xT := xTi_8 _ (List.mem_of_getElem? (i := 1) rfl)
theorem xw_202 : Cond.code y_Outline_isAlongX prog_5_method_5_code 2 (some .boolean) ∈ xT := xTi_8 _ (List.mem_of_getElem? (i := 2) rfl)
theorem xw_203 : Cond.methodLink "MaskEdges$Outline" 34 y_Outline_nextCorner ∈ xT := xTi_8 _ (List.mem_of_getElem? (i := 3) rfl)
theorem xw_204 : Cond.instanceMethod y_Outline_nextCorner ∈ xT := xTi_8 _ (List.mem_of_getElem? (i := 4) rfl)
theorem xw_205 : Cond.selects "MaskEdges$Outline" y_Outline_nextCorner y_Outline_nextCorner ∈ xT := xTi_8 _ (List.mem_of_getElem? (i := 5) rfl)
theorem xw_206 : Cond.code y_Outline_nextCorner prog_5_method_4_code 2 (some .int) ∈ xT := xTi_8 _ (List.mem_of_getElem? (i := 6) rfl)
theorem xw_207 : Cond.methodLink "MaskEdges" 78 y_MaskEdges_addToTarget ∈ xT := xTi_8 _ (List.mem_of_getElem? (i := 7) rfl)
theorem xw_208 : Cond.instanceMethod y_MaskEdges_addToTarget ∈ xT := xTi_8 _ (List.mem_of_getElem? (i := 8) rfl)
theorem xw_209 : Cond.code y_MaskEdges_addToTarget prog_1_method_22_code 4 none ∈ xT := xTi_8 _ (List.mem_of_getElem? (i := 9) rfl)
theorem xw_210 : Cond.methodLink "MaskEdges" 191 y_Outline_holds ∈ xT := xTi_8 _ (List.mem_of_getElem? (i := 10) rfl)
theorem xw_211 : Cond.instanceMethod y_Outline_holds ∈ xT := xTi_8 _ (List.mem_of_getElem? (i := 11) rfl)
theorem xw_212 : Cond.selects "MaskEdges$Outline" y_Outline_holds y_Outline_holds ∈ xT := xTi_8 _ (List.mem_of_getElem? (i := 12) rfl)
theorem xw_213 : Cond.code y_Outline_holds prog_5_method_9_code 7 (some .boolean) ∈ xT := xTi_8 _ (List.mem_of_getElem? (i := 13) rfl)
theorem xw_214 : Cond.methodLink "MaskEdges$Outline" 49 y_Math_min ∈ xT := xTi_8 _ (List.mem_of_getElem? (i := 14) rfl)
theorem xw_215 : Cond.static y_Math_min ∈ xT := xTi_8 _ (List.mem_of_getElem? (i := 15) rfl)
theorem xw_216 : Cond.code y_Math_min prog_10_method_69_code 2 (some .int) ∈ xT := xTi_8 _ (List.mem_of_getElem? (i := 16) rfl)
theorem xw_217 : Cond.methodLink "MaskEdges$Outline" 53 y_Math_max ∈ xT := xTi_8 _ (List.mem_of_getElem? (i := 17) rfl)
theorem xw_218 : Cond.static y_Math_max ∈ xT := xTi_8 _ (List.mem_of_getElem? (i := 18) rfl)
theorem xw_219 : Cond.code y_Math_max prog_10_method_65_code 2 (some .int) ∈ xT := xTi_8 _ (List.mem_of_getElem? (i := 19) rfl)
theorem xw_220 : Cond.methodLink "MaskEdges" 194 y_CellSet_add ∈ xT := xTi_8 _ (List.mem_of_getElem? (i := 20) rfl)
theorem xw_221 : Cond.instanceMethod y_CellSet_add ∈ xT := xTi_8 _ (List.mem_of_getElem? (i := 21) rfl)
theorem xw_222 : Cond.selects "MaskEdges$CellSet" y_CellSet_add y_CellSet_add ∈ xT := xTi_8 _ (List.mem_of_getElem? (i := 22) rfl)
theorem xw_223 : Cond.code y_CellSet_add prog_3_method_3_code 3 none ∈ xT := xTi_8 _ (List.mem_of_getElem? (i := 23) rfl)
theorem xw_224 : Cond.static y_MaskEdges_onGrid ∈ xT := xTi_8 _ (List.mem_of_getElem? (i := 24) rfl)
theorem xw_225 : Cond.code y_MaskEdges_onGrid prog_1_method_18_code 2 (some .boolean) ∈ xT := xTi_9 _ (List.mem_of_getElem? (i := 0) rfl)
theorem xw_226 : Cond.methodLink "MaskEdges" 82 y_MaskEdges_renewMask ∈ xT := xTi_9 _ (List.mem_of_getElem? (i := 1) rfl)
theorem xw_227 : Cond.instanceMethod y_MaskEdges_renewMask ∈ xT := xTi_9 _ (List.mem_of_getElem? (i := 2) rfl)
theorem xw_228 : Cond.code y_MaskEdges_renewMask prog_1_method_23_code 2 none ∈ xT := xTi_9 _ (List.mem_of_getElem? (i := 3) rfl)
theorem xw_229 : Cond.methodLink "MaskEdges" 198 y_CellSet_copyFrom ∈ xT := xTi_9 _ (List.mem_of_getElem? (i := 4) rfl)
theorem xw_230 : Cond.instanceMethod y_CellSet_copyFrom ∈ xT := xTi_9 _ (List.mem_of_getElem? (i := 5) rfl)
theorem xw_231 : Cond.selects "MaskEdges$CellSet" y_CellSet_copyFrom y_CellSet_copyFrom ∈ xT := xTi_9 _ (List.mem_of_getElem? (i := 6) rfl)
theorem xw_232 : Cond.code y_CellSet_copyFrom prog_3_method_4_code 3 none ∈ xT := xTi_9 _ (List.mem_of_getElem? (i := 7) rfl)
theorem xw_233 : Cond.methodLink "MaskEdges" 202 y_MaskEdges_applyMove ∈ xT := xTi_9 _ (List.mem_of_getElem? (i := 8) rfl)
theorem xw_234 : Cond.instanceMethod y_MaskEdges_applyMove ∈ xT := xTi_9 _ (List.mem_of_getElem? (i := 9) rfl)
theorem xw_235 : Cond.code y_MaskEdges_applyMove prog_1_method_24_code 2 none ∈ xT := xTi_9 _ (List.mem_of_getElem? (i := 10) rfl)
theorem xw_236 : Cond.methodLink "MaskEdges" 218 y_Box_layBeside ∈ xT := xTi_9 _ (List.mem_of_getElem? (i := 11) rfl)
theorem xw_237 : Cond.instanceMethod y_Box_layBeside ∈ xT := xTi_9 _ (List.mem_of_getElem? (i := 12) rfl)
theorem xw_238 : Cond.selects "MaskEdges$Box" y_Box_layBeside y_Box_layBeside ∈ xT := xTi_9 _ (List.mem_of_getElem? (i := 13) rfl)
theorem xw_239 : Cond.code y_Box_layBeside prog_2_method_2_code 11 none ∈ xT := xTi_9 _ (List.mem_of_getElem? (i := 14) rfl)
theorem xw_240 : Cond.methodLink "MaskEdges$Box" 15 y_Math_min ∈ xT := xTi_9 _ (List.mem_of_getElem? (i := 15) rfl)
theorem xw_241 : Cond.methodLink "MaskEdges$Box" 21 y_Math_max ∈ xT := xTi_9 _ (List.mem_of_getElem? (i := 16) rfl)
theorem xw_242 : Cond.methodLink "MaskEdges" 222 y_CellSet_addBox ∈ xT := xTi_9 _ (List.mem_of_getElem? (i := 17) rfl)
theorem xw_243 : Cond.instanceMethod y_CellSet_addBox ∈ xT := xTi_9 _ (List.mem_of_getElem? (i := 18) rfl)
theorem xw_244 : Cond.selects "MaskEdges$CellSet" y_CellSet_addBox y_CellSet_addBox ∈ xT := xTi_9 _ (List.mem_of_getElem? (i := 19) rfl)
theorem xw_245 : Cond.code y_CellSet_addBox prog_3_method_6_code 6 none ∈ xT := xTi_9 _ (List.mem_of_getElem? (i := 20) rfl)
theorem xw_246 : Cond.static y_MaskEdges_columnBits ∈ xT := xTi_9 _ (List.mem_of_getElem? (i := 21) rfl)
theorem xw_247 : Cond.code y_MaskEdges_columnBits prog_1_method_20_code 4 (some .long) ∈ xT := xTi_9 _ (List.mem_of_getElem? (i := 22) rfl)
theorem xw_248 : Cond.methodLink "MaskEdges$CellSet" 35 y_Math_min ∈ xT := xTi_9 _ (List.mem_of_getElem? (i := 23) rfl)
theorem xw_249 : Cond.methodLink "MaskEdges$CellSet" 44 y_Math_max ∈ xT := xTi_9 _ (List.mem_of_getElem? (i := 24) rfl)
theorem xw_250 : Cond.methodLink "MaskEdges" 226 y_CellSet_removeBox ∈ xT := xTi_10 _ (List.mem_of_getElem? (i := 0) rfl)
theorem xw_251 : Cond.instanceMethod y_CellSet_removeBox ∈ xT := xTi_10 _ (List.mem_of_getElem? (i := 1) rfl)
theorem xw_252 : Cond.selects "MaskEdges$CellSet" y_CellSet_removeBox y_CellSet_removeBox ∈ xT := xTi_10 _ (List.mem_of_getElem? (i := 2) rfl)
theorem xw_253 : Cond.code y_CellSet_removeBox prog_3_method_7_code 6 none ∈ xT := xTi_10 _ (List.mem_of_getElem? (i := 3) rfl)
theorem xw_254 : Cond.constantLong "MaskEdges$CellSet" 47 (-1 : Int64) ∈ xT := xTi_10 _ (List.mem_of_getElem? (i := 4) rfl)
theorem xw_255 : Cond.methodLink "MaskEdges" 206 y_CellSet_addAll ∈ xT := xTi_10 _ (List.mem_of_getElem? (i := 5) rfl)
theorem xw_256 : Cond.instanceMethod y_CellSet_addAll ∈ xT := xTi_10 _ (List.mem_of_getElem? (i := 6) rfl)
theorem xw_257 : Cond.selects "MaskEdges$CellSet" y_CellSet_addAll y_CellSet_addAll ∈ xT := xTi_10 _ (List.mem_of_getElem? (i := 7) rfl)
theorem xw_258 : Cond.code y_CellSet_addAll prog_3_method_5_code 3 none ∈ xT := xTi_10 _ (List.mem_of_getElem? (i := 8) rfl)
theorem xw_259 : Cond.methodLink "MaskEdgesLaw" 25 y_MaskEdges_kernel ∈ xT := xTi_10 _ (List.mem_of_getElem? (i := 9) rfl)
theorem xw_260 : Cond.instanceMethod y_MaskEdges_kernel ∈ xT := xTi_10 _ (List.mem_of_getElem? (i := 10) rfl)
theorem xw_261 : Cond.selects "MaskEdges" y_MaskEdges_kernel y_MaskEdges_kernel ∈ xT := xTi_10 _ (List.mem_of_getElem? (i := 11) rfl)
theorem xw_262 : Cond.code y_MaskEdges_kernel prog_1_method_4_code 3 (some .int) ∈ xT := xTi_10 _ (List.mem_of_getElem? (i := 12) rfl)
theorem xw_263 : Cond.methodLink "MaskEdges" 85 y_MaskEdges_within ∈ xT := xTi_10 _ (List.mem_of_getElem? (i := 13) rfl)
theorem xw_264 : Cond.static y_MaskEdges_within ∈ xT := xTi_10 _ (List.mem_of_getElem? (i := 14) rfl)
theorem xw_265 : Cond.code y_MaskEdges_within prog_1_method_17_code 3 (some .boolean) ∈ xT := xTi_10 _ (List.mem_of_getElem? (i := 15) rfl)
theorem xw_266 : Cond.methodLink "MaskEdges" 89 y_Exposure_addKernel ∈ xT := xTi_10 _ (List.mem_of_getElem? (i := 16) rfl)
theorem xw_267 : Cond.instanceMethod y_Exposure_addKernel ∈ xT := xTi_10 _ (List.mem_of_getElem? (i := 17) rfl)
theorem xw_268 : Cond.selects "MaskEdges$Exposure" y_Exposure_addKernel y_Exposure_addKernel ∈ xT := xTi_10 _ (List.mem_of_getElem? (i := 18) rfl)
theorem xw_269 : Cond.code y_Exposure_addKernel prog_4_method_2_code 3 (some .int) ∈ xT := xTi_10 _ (List.mem_of_getElem? (i := 19) rfl)
theorem xw_270 : Cond.methodLink "MaskEdgesLaw" 30 y_MaskEdges_cut ∈ xT := xTi_10 _ (List.mem_of_getElem? (i := 20) rfl)
theorem xw_271 : Cond.instanceMethod y_MaskEdges_cut ∈ xT := xTi_10 _ (List.mem_of_getElem? (i := 21) rfl)
theorem xw_272 : Cond.selects "MaskEdges" y_MaskEdges_cut y_MaskEdges_cut ∈ xT := xTi_10 _ (List.mem_of_getElem? (i := 22) rfl)
theorem xw_273 : Cond.code y_MaskEdges_cut prog_1_method_5_code 4 (some .int) ∈ xT := xTi_10 _ (List.mem_of_getElem? (i := 23) rfl)
theorem xw_274 : Cond.methodLink "MaskEdges" 93 y_MaskEdges_piecesFor ∈ xT := xTi_10 _ (List.mem_of_getElem? (i := 24) rfl)
theorem xw_275 : Cond.instanceMethod y_MaskEdges_piecesFor ∈ xT := xTi_11 _ (List.mem_of_getElem? (i := 0) rfl)
theorem xw_276 : Cond.code y_MaskEdges_piecesFor prog_1_method_25_code 6 (some .int) ∈ xT := xTi_11 _ (List.mem_of_getElem? (i := 1) rfl)
theorem xw_277 : Cond.methodLink "MaskEdges" 232 y_Outline_partsOf ∈ xT := xTi_11 _ (List.mem_of_getElem? (i := 2) rfl)
theorem xw_278 : Cond.instanceMethod y_Outline_partsOf ∈ xT := xTi_11 _ (List.mem_of_getElem? (i := 3) rfl)
theorem xw_279 : Cond.selects "MaskEdges$Outline" y_Outline_partsOf y_Outline_partsOf ∈ xT := xTi_11 _ (List.mem_of_getElem? (i := 4) rfl)
theorem xw_280 : Cond.code y_Outline_partsOf prog_5_method_8_code 4 (some .int) ∈ xT := xTi_11 _ (List.mem_of_getElem? (i := 5) rfl)
theorem xw_281 : Cond.methodLink "MaskEdges$Outline" 38 y_Outline_sideEnd ∈ xT := xTi_11 _ (List.mem_of_getElem? (i := 6) rfl)
theorem xw_282 : Cond.instanceMethod y_Outline_sideEnd ∈ xT := xTi_11 _ (List.mem_of_getElem? (i := 7) rfl)
theorem xw_283 : Cond.selects "MaskEdges$Outline" y_Outline_sideEnd y_Outline_sideEnd ∈ xT := xTi_11 _ (List.mem_of_getElem? (i := 8) rfl)
theorem xw_284 : Cond.code y_Outline_sideEnd prog_5_method_7_code 3 (some .int) ∈ xT := xTi_11 _ (List.mem_of_getElem? (i := 9) rfl)
theorem xw_285 : Cond.methodLink "MaskEdges$Outline" 41 y_Outline_sideStart ∈ xT := xTi_11 _ (List.mem_of_getElem? (i := 10) rfl)
theorem xw_286 : Cond.instanceMethod y_Outline_sideStart ∈ xT := xTi_11 _ (List.mem_of_getElem? (i := 11) rfl)
theorem xw_287 : Cond.selects "MaskEdges$Outline" y_Outline_sideStart y_Outline_sideStart ∈ xT := xTi_11 _ (List.mem_of_getElem? (i := 12) rfl)
theorem xw_288 : Cond.code y_Outline_sideStart prog_5_method_6_code 2 (some .int) ∈ xT := xTi_11 _ (List.mem_of_getElem? (i := 13) rfl)
theorem xw_289 : Cond.methodLink "MaskEdges$Outline" 44 y_Math_abs ∈ xT := xTi_11 _ (List.mem_of_getElem? (i := 14) rfl)
theorem xw_290 : Cond.static y_Math_abs ∈ xT := xTi_11 _ (List.mem_of_getElem? (i := 15) rfl)
theorem xw_291 : Cond.code y_Math_abs prog_10_method_59_code 1 (some .int) ∈ xT := xTi_11 _ (List.mem_of_getElem? (i := 16) rfl)
theorem xw_292 : Cond.methodLink "MaskEdges" 97 y_MaskEdges_cutOutline ∈ xT := xTi_11 _ (List.mem_of_getElem? (i := 17) rfl)
theorem xw_293 : Cond.instanceMethod y_MaskEdges_cutOutline ∈ xT := xTi_11 _ (List.mem_of_getElem? (i := 18) rfl)
theorem xw_294 : Cond.code y_MaskEdges_cutOutline prog_1_method_26_code 6 none ∈ xT := xTi_11 _ (List.mem_of_getElem? (i := 19) rfl)
theorem xw_295 : Cond.methodLink "MaskEdges" 235 y_Piece_lieOn ∈ xT := xTi_11 _ (List.mem_of_getElem? (i := 20) rfl)
theorem xw_296 : Cond.instanceMethod y_Piece_lieOn ∈ xT := xTi_11 _ (List.mem_of_getElem? (i := 21) rfl)
theorem xw_297 : Cond.selects "MaskEdges$Piece" y_Piece_lieOn y_Piece_lieOn ∈ xT := xTi_11 _ (List.mem_of_getElem? (i := 22) rfl)
theorem xw_298 : Cond.code y_Piece_lieOn prog_6_method_2_code 9 none ∈ xT := xTi_11 _ (List.mem_of_getElem? (i := 23) rfl)
theorem xw_299 : Cond.methodLink "MaskEdges$Piece" 9 y_Outline_sideStart ∈ xT := xTi_11 _ (List.mem_of_getElem? (i := 24) rfl)
theorem xw_300 : Cond.methodLink "MaskEdges$Piece" 15 y_Outline_sideEnd ∈ xT := xTi_12 _ (List.mem_of_getElem? (i := 0) rfl)
theorem xw_301 : Cond.methodLink "MaskEdges$Piece" 18 y_Outline_isAlongX ∈ xT := xTi_12 _ (List.mem_of_getElem? (i := 1) rfl)
theorem xw_302 : Cond.methodLink "MaskEdges$Piece" 39 y_Math_min ∈ xT := xTi_12 _ (List.mem_of_getElem? (i := 2) rfl)
theorem xw_303 : Cond.methodLink "MaskEdges$Piece" 48 y_Math_max ∈ xT := xTi_12 _ (List.mem_of_getElem? (i := 3) rfl)
theorem xw_304 : Cond.methodLink "MaskEdges$Piece" 63 y_Piece_pointAt ∈ xT := xTi_12 _ (List.mem_of_getElem? (i := 4) rfl)
theorem xw_305 : Cond.static y_Piece_pointAt ∈ xT := xTi_12 _ (List.mem_of_getElem? (i := 5) rfl)
theorem xw_306 : Cond.code y_Piece_pointAt prog_6_method_3_code 5 (some .int) ∈ xT := xTi_12 _ (List.mem_of_getElem? (i := 6) rfl)
theorem xw_307 : Cond.methodLink "MaskEdges$Piece" 77 y_Math_abs ∈ xT := xTi_12 _ (List.mem_of_getElem? (i := 7) rfl)
theorem xw_308 : Cond.methodLink "MaskEdges$Piece" 73 y_Piece_faceOutward ∈ xT := xTi_12 _ (List.mem_of_getElem? (i := 8) rfl)
theorem xw_309 : Cond.instanceMethod y_Piece_faceOutward ∈ xT := xTi_12 _ (List.mem_of_getElem? (i := 9) rfl)
theorem xw_310 : Cond.code y_Piece_faceOutward prog_6_method_4_code 6 none ∈ xT := xTi_12 _ (List.mem_of_getElem? (i := 10) rfl)
theorem xw_311 : Cond.methodLink "MaskEdges$Piece" 80 y_Outline_holds ∈ xT := xTi_12 _ (List.mem_of_getElem? (i := 11) rfl)
theorem xw_312 : Cond.methodLink "MaskEdgesLaw" 35 y_MaskEdges_image ∈ xT := xTi_12 _ (List.mem_of_getElem? (i := 12) rfl)
theorem xw_313 : Cond.instanceMethod y_MaskEdges_image ∈ xT := xTi_12 _ (List.mem_of_getElem? (i := 13) rfl)
theorem xw_314 : Cond.selects "MaskEdges" y_MaskEdges_image y_MaskEdges_image ∈ xT := xTi_12 _ (List.mem_of_getElem? (i := 14) rfl)
theorem xw_315 : Cond.code y_MaskEdges_image prog_1_method_6_code 3 (some .int) ∈ xT := xTi_12 _ (List.mem_of_getElem? (i := 15) rfl)
theorem xw_316 : Cond.methodLink "MaskEdges" 101 y_MaskEdges_onGrid ∈ xT := xTi_12 _ (List.mem_of_getElem? (i := 16) rfl)
theorem xw_317 : Cond.methodLink "MaskEdges" 104 y_Exposure_imageAt ∈ xT := xTi_12 _ (List.mem_of_getElem? (i := 17) rfl)
theorem xw_318 : Cond.instanceMethod y_Exposure_imageAt ∈ xT := xTi_12 _ (List.mem_of_getElem? (i := 18) rfl)
theorem xw_319 : Cond.selects "MaskEdges$Exposure" y_Exposure_imageAt y_Exposure_imageAt ∈ xT := xTi_12 _ (List.mem_of_getElem? (i := 19) rfl)
theorem xw_320 : Cond.code y_Exposure_imageAt prog_4_method_3_code 6 (some .int) ∈ xT := xTi_12 _ (List.mem_of_getElem? (i := 20) rfl)
theorem xw_321 : Cond.methodLink "MaskEdges$Exposure" 25 y_CellSet_countAround ∈ xT := xTi_12 _ (List.mem_of_getElem? (i := 21) rfl)
theorem xw_322 : Cond.instanceMethod y_CellSet_countAround ∈ xT := xTi_12 _ (List.mem_of_getElem? (i := 22) rfl)
theorem xw_323 : Cond.selects "MaskEdges$CellSet" y_CellSet_countAround y_CellSet_countAround ∈ xT := xTi_12 _ (List.mem_of_getElem? (i := 23) rfl)
theorem xw_324 : Cond.code y_CellSet_countAround prog_3_method_9_code 9 (some .int) ∈ xT := xTi_12 _ (List.mem_of_getElem? (i := 24) rfl)
theorem xw_325 : Cond.methodLink "MaskEdges$CellSet" 49 y_Long_bitCount ∈ xT := xTi_13 _ (List.mem_of_getElem? (i := 0) rfl)
theorem xw_326 : Cond.static y_Long_bitCount ∈ xT := xTi_13 _ (List.mem_of_getElem? (i := 1) rfl)
theorem xw_327 : Cond.code y_Long_bitCount prog_9_method_50_code 2 (some .int) ∈ xT := xTi_13 _ (List.mem_of_getElem? (i := 2) rfl)
theorem xw_328 : Cond.constantLong "java/lang/Long" 314 (6148914691236517205 : Int64) ∈ xT := xTi_13 _ (List.mem_of_getElem? (i := 3) rfl)
theorem xw_329 : Cond.constantLong "java/lang/Long" 316 (3689348814741910323 : Int64) ∈ xT := xTi_13 _ (List.mem_of_getElem? (i := 4) rfl)
theorem xw_330 : Cond.constantLong "java/lang/Long" 318 (1085102592571150095 : Int64) ∈ xT := xTi_13 _ (List.mem_of_getElem? (i := 5) rfl)
theorem xw_331 : Cond.methodLink "MaskEdgesLaw" 39 y_MaskEdges_error ∈ xT := xTi_13 _ (List.mem_of_getElem? (i := 6) rfl)
theorem xw_332 : Cond.instanceMethod y_MaskEdges_error ∈ xT := xTi_13 _ (List.mem_of_getElem? (i := 7) rfl)
theorem xw_333 : Cond.selects "MaskEdges" y_MaskEdges_error y_MaskEdges_error ∈ xT := xTi_13 _ (List.mem_of_getElem? (i := 8) rfl)
theorem xw_334 : Cond.code y_MaskEdges_error prog_1_method_7_code 2 (some .int) ∈ xT := xTi_13 _ (List.mem_of_getElem? (i := 9) rfl)
theorem xw_335 : Cond.methodLink "MaskEdges" 108 y_MaskEdges_isPiece ∈ xT := xTi_13 _ (List.mem_of_getElem? (i := 10) rfl)
theorem xw_336 : Cond.instanceMethod y_MaskEdges_isPiece ∈ xT := xTi_13 _ (List.mem_of_getElem? (i := 11) rfl)
theorem xw_337 : Cond.code y_MaskEdges_isPiece prog_1_method_21_code 2 (some .boolean) ∈ xT := xTi_13 _ (List.mem_of_getElem? (i := 12) rfl)
theorem xw_338 : Cond.methodLink "MaskEdges" 112 y_MaskEdges_errorOf ∈ xT := xTi_13 _ (List.mem_of_getElem? (i := 13) rfl)
theorem xw_339 : Cond.instanceMethod y_MaskEdges_errorOf ∈ xT := xTi_13 _ (List.mem_of_getElem? (i := 14) rfl)
theorem xw_340 : Cond.code y_MaskEdges_errorOf prog_1_method_27_code 10 (some .int) ∈ xT := xTi_13 _ (List.mem_of_getElem? (i := 15) rfl)
theorem xw_341 : Cond.methodLink "MaskEdges" 163 y_Piece_isFlat ∈ xT := xTi_13 _ (List.mem_of_getElem? (i := 16) rfl)
theorem xw_342 : Cond.instanceMethod y_Piece_isFlat ∈ xT := xTi_13 _ (List.mem_of_getElem? (i := 17) rfl)
theorem xw_343 : Cond.selects "MaskEdges$Piece" y_Piece_isFlat y_Piece_isFlat ∈ xT := xTi_13 _ (List.mem_of_getElem? (i := 18) rfl)
theorem xw_344 : Cond.code y_Piece_isFlat prog_6_method_5_code 1 (some .boolean) ∈ xT := xTi_13 _ (List.mem_of_getElem? (i := 19) rfl)
theorem xw_345 : Cond.methodLink "MaskEdges" 159 y_Exposure_printsAt ∈ xT := xTi_13 _ (List.mem_of_getElem? (i := 20) rfl)
theorem xw_346 : Cond.instanceMethod y_Exposure_printsAt ∈ xT := xTi_13 _ (List.mem_of_getElem? (i := 21) rfl)
theorem xw_347 : Cond.selects "MaskEdges$Exposure" y_Exposure_printsAt y_Exposure_printsAt ∈ xT := xTi_13 _ (List.mem_of_getElem? (i := 22) rfl)
theorem xw_348 : Cond.code y_Exposure_printsAt prog_4_method_4_code 5 (some .boolean) ∈ xT := xTi_13 _ (List.mem_of_getElem? (i := 23) rfl)
theorem xw_349 : Cond.methodLink "MaskEdges$Exposure" 35 y_Exposure_imageAt ∈ xT := xTi_13 _ (List.mem_of_getElem? (i := 24) rfl)
theorem xw_350 : Cond.methodLink "MaskEdgesLaw" 43 y_MaskEdges_run ∈ xT := xTi_14 _ (List.mem_of_getElem? (i := 0) rfl)
theorem xw_351 : Cond.instanceMethod y_MaskEdges_run ∈ xT := xTi_14 _ (List.mem_of_getElem? (i := 1) rfl)
theorem xw_352 : Cond.selects "MaskEdges" y_MaskEdges_run y_MaskEdges_run ∈ xT := xTi_14 _ (List.mem_of_getElem? (i := 2) rfl)
theorem xw_353 : Cond.code y_MaskEdges_run prog_1_method_8_code 7 (some .int) ∈ xT := xTi_14 _ (List.mem_of_getElem? (i := 3) rfl)
theorem xw_354 : Cond.constant "MaskEdges" 116 (100000 : Int32) ∈ xT := xTi_14 _ (List.mem_of_getElem? (i := 4) rfl)
theorem xw_355 : Cond.methodLink "MaskEdges" 120 y_MaskEdges_worstError ∈ xT := xTi_14 _ (List.mem_of_getElem? (i := 5) rfl)
theorem xw_356 : Cond.instanceMethod y_MaskEdges_worstError ∈ xT := xTi_14 _ (List.mem_of_getElem? (i := 6) rfl)
theorem xw_357 : Cond.code y_MaskEdges_worstError prog_1_method_28_code 3 (some .int) ∈ xT := xTi_14 _ (List.mem_of_getElem? (i := 7) rfl)
theorem xw_358 : Cond.methodLink "MaskEdges" 248 y_Math_abs ∈ xT := xTi_14 _ (List.mem_of_getElem? (i := 8) rfl)
theorem xw_359 : Cond.methodLink "MaskEdges" 188 y_Math_max ∈ xT := xTi_14 _ (List.mem_of_getElem? (i := 9) rfl)
theorem xw_360 : Cond.methodLink "MaskEdges" 124 y_MaskEdges_moveAgainstErrors ∈ xT := xTi_14 _ (List.mem_of_getElem? (i := 10) rfl)
theorem xw_361 : Cond.instanceMethod y_MaskEdges_moveAgainstErrors ∈ xT := xTi_14 _ (List.mem_of_getElem? (i := 11) rfl)
theorem xw_362 : Cond.code y_MaskEdges_moveAgainstErrors prog_1_method_29_code 7 (some .boolean) ∈ xT := xTi_14 _ (List.mem_of_getElem? (i := 12) rfl)
theorem xw_363 : Cond.methodLink "MaskEdges" 251 y_MaskEdges_clamp ∈ xT := xTi_14 _ (List.mem_of_getElem? (i := 13) rfl)
theorem xw_364 : Cond.static y_MaskEdges_clamp ∈ xT := xTi_14 _ (List.mem_of_getElem? (i := 14) rfl)
theorem xw_365 : Cond.code y_MaskEdges_clamp prog_1_method_19_code 2 (some .int) ∈ xT := xTi_14 _ (List.mem_of_getElem? (i := 15) rfl)
theorem xw_366 : Cond.methodLink "MaskEdges" 183 y_Math_min ∈ xT := xTi_14 _ (List.mem_of_getElem? (i := 16) rfl)
theorem xw_367 : Cond.methodLink "MaskEdges" 177 y_Piece_moveTo ∈ xT := xTi_14 _ (List.mem_of_getElem? (i := 17) rfl)
theorem xw_368 : Cond.instanceMethod y_Piece_moveTo ∈ xT := xTi_14 _ (List.mem_of_getElem? (i := 18) rfl)
theorem xw_369 : Cond.selects "MaskEdges$Piece" y_Piece_moveTo y_Piece_moveTo ∈ xT := xTi_14 _ (List.mem_of_getElem? (i := 19) rfl)
theorem xw_370 : Cond.code y_Piece_moveTo prog_6_method_9_code 4 (some .boolean) ∈ xT := xTi_14 _ (List.mem_of_getElem? (i := 20) rfl)
theorem xw_371 : Cond.methodLink "MaskEdges$Piece" 93 y_Piece_isFlat ∈ xT := xTi_14 _ (List.mem_of_getElem? (i := 21) rfl)
theorem xw_372 : Cond.methodLink "MaskEdges" 127 y_MaskEdges_takeMovesBack ∈ xT := xTi_14 _ (List.mem_of_getElem? (i := 22) rfl)
theorem xw_373 : Cond.instanceMethod y_MaskEdges_takeMovesBack ∈ xT := xTi_14 _ (List.mem_of_getElem? (i := 23) rfl)
theorem xw_374 : Cond.code y_MaskEdges_takeMovesBack prog_1_method_30_code 2 none ∈ xT := xTi_14 _ (List.mem_of_getElem? (i := 24) rfl)
theorem xw_375 : Cond.methodLink "MaskEdgesLaw" 48 y_MaskEdges_moved ∈ xT := xTi_15 _ (List.mem_of_getElem? (i := 0) rfl)
theorem xw_376 : Cond.instanceMethod y_MaskEdges_moved ∈ xT := xTi_15 _ (List.mem_of_getElem? (i := 1) rfl)
theorem xw_377 : Cond.selects "MaskEdges" y_MaskEdges_moved y_MaskEdges_moved ∈ xT := xTi_15 _ (List.mem_of_getElem? (i := 2) rfl)
theorem xw_378 : Cond.code y_MaskEdges_moved prog_1_method_9_code 2 (some .int) ∈ xT := xTi_15 _ (List.mem_of_getElem? (i := 3) rfl)
theorem xw_379 : Cond.methodLink "MaskEdgesLaw" 52 y_MaskEdges_worst ∈ xT := xTi_15 _ (List.mem_of_getElem? (i := 4) rfl)
theorem xw_380 : Cond.instanceMethod y_MaskEdges_worst ∈ xT := xTi_15 _ (List.mem_of_getElem? (i := 5) rfl)
theorem xw_381 : Cond.selects "MaskEdges" y_MaskEdges_worst y_MaskEdges_worst ∈ xT := xTi_15 _ (List.mem_of_getElem? (i := 6) rfl)
theorem xw_382 : Cond.code y_MaskEdges_worst prog_1_method_10_code 2 (some .int) ∈ xT := xTi_15 _ (List.mem_of_getElem? (i := 7) rfl)
theorem xw_383 : Cond.methodLink "MaskEdgesLaw" 56 y_MaskEdges_helper ∈ xT := xTi_15 _ (List.mem_of_getElem? (i := 8) rfl)
theorem xw_384 : Cond.instanceMethod y_MaskEdges_helper ∈ xT := xTi_15 _ (List.mem_of_getElem? (i := 9) rfl)
theorem xw_385 : Cond.selects "MaskEdges" y_MaskEdges_helper y_MaskEdges_helper ∈ xT := xTi_15 _ (List.mem_of_getElem? (i := 10) rfl)
theorem xw_386 : Cond.code y_MaskEdges_helper prog_1_method_11_code 5 (some .int) ∈ xT := xTi_15 _ (List.mem_of_getElem? (i := 11) rfl)
theorem xw_387 : Cond.methodLink "MaskEdges" 139 y_Piece_mayHaveBar ∈ xT := xTi_15 _ (List.mem_of_getElem? (i := 12) rfl)
theorem xw_388 : Cond.instanceMethod y_Piece_mayHaveBar ∈ xT := xTi_15 _ (List.mem_of_getElem? (i := 13) rfl)
theorem xw_389 : Cond.selects "MaskEdges$Piece" y_Piece_mayHaveBar y_Piece_mayHaveBar ∈ xT := xTi_15 _ (List.mem_of_getElem? (i := 14) rfl)
theorem xw_390 : Cond.code y_Piece_mayHaveBar prog_6_method_7_code 1 (some .boolean) ∈ xT := xTi_15 _ (List.mem_of_getElem? (i := 15) rfl)
theorem xw_391 : Cond.methodLink "MaskEdges" 143 y_MaskEdges_placeBar ∈ xT := xTi_15 _ (List.mem_of_getElem? (i := 16) rfl)
theorem xw_392 : Cond.instanceMethod y_MaskEdges_placeBar ∈ xT := xTi_15 _ (List.mem_of_getElem? (i := 17) rfl)
theorem xw_393 : Cond.code y_MaskEdges_placeBar prog_1_method_31_code 4 none ∈ xT := xTi_15 _ (List.mem_of_getElem? (i := 18) rfl)
theorem xw_394 : Cond.methodLink "MaskEdges" 260 y_Box_isOnGrid ∈ xT := xTi_15 _ (List.mem_of_getElem? (i := 19) rfl)
theorem xw_395 : Cond.instanceMethod y_Box_isOnGrid ∈ xT := xTi_15 _ (List.mem_of_getElem? (i := 20) rfl)
theorem xw_396 : Cond.selects "MaskEdges$Box" y_Box_isOnGrid y_Box_isOnGrid ∈ xT := xTi_15 _ (List.mem_of_getElem? (i := 21) rfl)
theorem xw_397 : Cond.code y_Box_isOnGrid prog_2_method_4_code 1 (some .boolean) ∈ xT := xTi_15 _ (List.mem_of_getElem? (i := 22) rfl)
theorem xw_398 : Cond.methodLink "MaskEdges" 263 y_CellSet_meets ∈ xT := xTi_15 _ (List.mem_of_getElem? (i := 23) rfl)
theorem xw_399 : Cond.instanceMethod y_CellSet_meets ∈ xT := xTi_15 _ (List.mem_of_getElem? (i := 24) rfl)
theorem xw_400 : Cond.selects "MaskEdges$CellSet" y_CellSet_meets y_CellSet_meets ∈ xT := xTi_16 _ (List.mem_of_getElem? (i := 0) rfl)
theorem xw_401 : Cond.code y_CellSet_meets prog_3_method_8_code 6 (some .boolean) ∈ xT := xTi_16 _ (List.mem_of_getElem? (i := 1) rfl)
theorem xw_402 : Cond.methodLink "MaskEdges" 267 y_Box_copyFrom ∈ xT := xTi_16 _ (List.mem_of_getElem? (i := 2) rfl)
theorem xw_403 : Cond.instanceMethod y_Box_copyFrom ∈ xT := xTi_16 _ (List.mem_of_getElem? (i := 3) rfl)
theorem xw_404 : Cond.selects "MaskEdges$Box" y_Box_copyFrom y_Box_copyFrom ∈ xT := xTi_16 _ (List.mem_of_getElem? (i := 4) rfl)
theorem xw_405 : Cond.code y_Box_copyFrom prog_2_method_3_code 2 none ∈ xT := xTi_16 _ (List.mem_of_getElem? (i := 5) rfl)
theorem xw_406 : Cond.methodLink "MaskEdgesLaw" 60 y_MaskEdges_prints ∈ xT := xTi_16 _ (List.mem_of_getElem? (i := 6) rfl)
theorem xw_407 : Cond.instanceMethod y_MaskEdges_prints ∈ xT := xTi_16 _ (List.mem_of_getElem? (i := 7) rfl)
theorem xw_408 : Cond.selects "MaskEdges" y_MaskEdges_prints y_MaskEdges_prints ∈ xT := xTi_16 _ (List.mem_of_getElem? (i := 8) rfl)
theorem xw_409 : Cond.code y_MaskEdges_prints prog_1_method_12_code 6 (some .boolean) ∈ xT := xTi_16 _ (List.mem_of_getElem? (i := 9) rfl)
theorem xw_410 : Cond.methodLink "MaskEdgesLaw" 65 y_MaskEdges_edge ∈ xT := xTi_16 _ (List.mem_of_getElem? (i := 10) rfl)
theorem xw_411 : Cond.instanceMethod y_MaskEdges_edge ∈ xT := xTi_16 _ (List.mem_of_getElem? (i := 11) rfl)
theorem xw_412 : Cond.selects "MaskEdges" y_MaskEdges_edge y_MaskEdges_edge ∈ xT := xTi_16 _ (List.mem_of_getElem? (i := 12) rfl)
theorem xw_413 : Cond.code y_MaskEdges_edge prog_1_method_13_code 3 (some .int) ∈ xT := xTi_16 _ (List.mem_of_getElem? (i := 13) rfl)
theorem xw_414 : Cond.methodLink "MaskEdgesLaw" 69 y_MaskEdges_alike ∈ xT := xTi_16 _ (List.mem_of_getElem? (i := 14) rfl)
theorem xw_415 : Cond.instanceMethod y_MaskEdges_alike ∈ xT := xTi_16 _ (List.mem_of_getElem? (i := 15) rfl)
theorem xw_416 : Cond.selects "MaskEdges" y_MaskEdges_alike y_MaskEdges_alike ∈ xT := xTi_16 _ (List.mem_of_getElem? (i := 16) rfl)
theorem xw_417 : Cond.code y_MaskEdges_alike prog_1_method_14_code 5 (some .boolean) ∈ xT := xTi_16 _ (List.mem_of_getElem? (i := 17) rfl)
theorem xw_418 : Cond.methodLink "MaskEdges" 166 y_Piece_facesLike ∈ xT := xTi_16 _ (List.mem_of_getElem? (i := 18) rfl)
theorem xw_419 : Cond.instanceMethod y_Piece_facesLike ∈ xT := xTi_16 _ (List.mem_of_getElem? (i := 19) rfl)
theorem xw_420 : Cond.selects "MaskEdges$Piece" y_Piece_facesLike y_Piece_facesLike ∈ xT := xTi_16 _ (List.mem_of_getElem? (i := 20) rfl)
theorem xw_421 : Cond.code y_Piece_facesLike prog_6_method_6_code 2 (some .boolean) ∈ xT := xTi_16 _ (List.mem_of_getElem? (i := 21) rfl)
theorem xw_422 : Cond.methodLink "MaskEdges" 170 y_MaskEdges_sameTargetAround ∈ xT := xTi_16 _ (List.mem_of_getElem? (i := 22) rfl)
theorem xw_423 : Cond.instanceMethod y_MaskEdges_sameTargetAround ∈ xT := xTi_16 _ (List.mem_of_getElem? (i := 23) rfl)
theorem xw_424 : Cond.code y_MaskEdges_sameTargetAround prog_1_method_32_code 6 (some .boolean) ∈ xT := xTi_16 _ (List.mem_of_getElem? (i := 24) rfl)
theorem xw_425 : Cond.methodLink "MaskEdges" 180 y_CellSet_has ∈ xT := xTi_17 _ (List.mem_of_getElem? (i := 0) rfl)
theorem xw_426 : Cond.instanceMethod y_CellSet_has ∈ xT := xTi_17 _ (List.mem_of_getElem? (i := 1) rfl)
theorem xw_427 : Cond.selects "MaskEdges$CellSet" y_CellSet_has y_CellSet_has ∈ xT := xTi_17 _ (List.mem_of_getElem? (i := 2) rfl)
theorem xw_428 : Cond.code y_CellSet_has prog_3_method_2_code 3 (some .boolean) ∈ xT := xTi_17 _ (List.mem_of_getElem? (i := 3) rfl)
theorem xw_429 : Cond.methodLink "MaskEdgesLaw" 73 y_MaskEdges_shift ∈ xT := xTi_17 _ (List.mem_of_getElem? (i := 4) rfl)
theorem xw_430 : Cond.instanceMethod y_MaskEdges_shift ∈ xT := xTi_17 _ (List.mem_of_getElem? (i := 5) rfl)
theorem xw_431 : Cond.selects "MaskEdges" y_MaskEdges_shift y_MaskEdges_shift ∈ xT := xTi_17 _ (List.mem_of_getElem? (i := 6) rfl)
theorem xw_432 : Cond.code y_MaskEdges_shift prog_1_method_15_code 6 (some .int) ∈ xT := xTi_17 _ (List.mem_of_getElem? (i := 7) rfl)
theorem xw_433 : Cond.methodLink "MaskEdges" 174 y_Piece_fitsRule ∈ xT := xTi_17 _ (List.mem_of_getElem? (i := 8) rfl)
theorem xw_434 : Cond.instanceMethod y_Piece_fitsRule ∈ xT := xTi_17 _ (List.mem_of_getElem? (i := 9) rfl)
theorem xw_435 : Cond.selects "MaskEdges$Piece" y_Piece_fitsRule y_Piece_fitsRule ∈ xT := xTi_17 _ (List.mem_of_getElem? (i := 10) rfl)
theorem xw_436 : Cond.code y_Piece_fitsRule prog_6_method_8_code 2 (some .boolean) ∈ xT := xTi_17 _ (List.mem_of_getElem? (i := 11) rfl)
theorem xw_437 : Cond.methodLink "MaskEdgesLaw" 77 y_MaskEdges_is ∈ xT := xTi_17 _ (List.mem_of_getElem? (i := 12) rfl)
theorem xw_438 : Cond.instanceMethod y_MaskEdges_is ∈ xT := xTi_17 _ (List.mem_of_getElem? (i := 13) rfl)
theorem xw_439 : Cond.selects "MaskEdges" y_MaskEdges_is y_MaskEdges_is ∈ xT := xTi_17 _ (List.mem_of_getElem? (i := 14) rfl)
theorem xw_440 : Cond.code y_MaskEdges_is prog_1_method_16_code 4 (some .boolean) ∈ xT := xTi_17 _ (List.mem_of_getElem? (i := 15) rfl)
theorem xw_441 : Cond.classLink "MaskEdgesLaw" 10 "MaskEdgesModel" ∈ xT := xTi_17 _ (List.mem_of_getElem? (i := 16) rfl)
theorem xw_442 : Cond.instantiable "MaskEdgesModel" 28 ∈ xT := xTi_17 _ (List.mem_of_getElem? (i := 17) rfl)
theorem xw_443 : Cond.methodLink "MaskEdgesLaw" 12 y_MaskEdgesModel_init ∈ xT := xTi_17 _ (List.mem_of_getElem? (i := 18) rfl)
theorem xw_444 : Cond.instanceMethod y_MaskEdgesModel_init ∈ xT := xTi_17 _ (List.mem_of_getElem? (i := 19) rfl)
theorem xw_445 : Cond.code y_MaskEdgesModel_init prog_8_method_1_code 1 none ∈ xT := xTi_17 _ (List.mem_of_getElem? (i := 20) rfl)
theorem xw_446 : Cond.methodLink "MaskEdgesModel" 1 y_Object_init ∈ xT := xTi_17 _ (List.mem_of_getElem? (i := 21) rfl)
theorem xw_447 : Cond.fieldLink "MaskEdgesModel" 93 "MaskEdgesModel" "polygons" "I" ∈ xT := xTi_17 _ (List.mem_of_getElem? (i := 22) rfl)
theorem xw_448 : Cond.fieldLink "MaskEdgesModel" 7 "MaskEdgesModel" "xs" "[I" ∈ xT := xTi_17 _ (List.mem_of_getElem? (i := 23) rfl)
theorem xw_449 : Cond.fieldLink "MaskEdgesModel" 13 "MaskEdgesModel" "ys" "[I" ∈ xT := xTi_17 _ (List.mem_of_getElem? (i := 24) rfl)
theorem xw_450 : Cond.fieldLink "MaskEdgesModel" 16 "MaskEdgesModel" "sizes" "[I" ∈ xT := xTi_18 _ (List.mem_of_getElem? (i := 0) rfl)
theorem xw_451 : Cond.fieldLink "MaskEdgesModel" 19 "MaskEdgesModel" "isClosed" "[Z" ∈ xT := xTi_18 _ (List.mem_of_getElem? (i := 1) rfl)
theorem xw_452 : Cond.fieldLink "MaskEdgesModel" 115 "MaskEdgesModel" "kernels" "I" ∈ xT := xTi_18 _ (List.mem_of_getElem? (i := 2) rfl)
theorem xw_453 : Cond.fieldLink "MaskEdgesModel" 23 "MaskEdgesModel" "weights" "[I" ∈ xT := xTi_18 _ (List.mem_of_getElem? (i := 3) rfl)
theorem xw_454 : Cond.fieldLink "MaskEdgesModel" 26 "MaskEdgesModel" "widths" "[I" ∈ xT := xTi_18 _ (List.mem_of_getElem? (i := 4) rfl)
theorem xw_455 : Cond.fieldLink "MaskEdgesModel" 29 "MaskEdgesModel" "threshold" "I" ∈ xT := xTi_18 _ (List.mem_of_getElem? (i := 5) rfl)
theorem xw_456 : Cond.fieldLink "MaskEdgesModel" 90 "MaskEdgesModel" "pieces" "I" ∈ xT := xTi_18 _ (List.mem_of_getElem? (i := 6) rfl)
theorem xw_457 : Cond.fieldLink "MaskEdgesModel" 33 "MaskEdgesModel" "across" "[I" ∈ xT := xTi_18 _ (List.mem_of_getElem? (i := 7) rfl)
theorem xw_458 : Cond.fieldLink "MaskEdgesModel" 36 "MaskEdgesModel" "from" "[I" ∈ xT := xTi_18 _ (List.mem_of_getElem? (i := 8) rfl)
theorem xw_459 : Cond.fieldLink "MaskEdgesModel" 39 "MaskEdgesModel" "to" "[I" ∈ xT := xTi_18 _ (List.mem_of_getElem? (i := 9) rfl)
theorem xw_460 : Cond.fieldLink "MaskEdgesModel" 42 "MaskEdgesModel" "isAlongX" "[Z" ∈ xT := xTi_18 _ (List.mem_of_getElem? (i := 10) rfl)
theorem xw_461 : Cond.fieldLink "MaskEdgesModel" 45 "MaskEdgesModel" "isFirst" "[Z" ∈ xT := xTi_18 _ (List.mem_of_getElem? (i := 11) rfl)
theorem xw_462 : Cond.fieldLink "MaskEdgesModel" 48 "MaskEdgesModel" "isLast" "[Z" ∈ xT := xTi_18 _ (List.mem_of_getElem? (i := 12) rfl)
theorem xw_463 : Cond.fieldLink "MaskEdgesModel" 51 "MaskEdgesModel" "out" "[I" ∈ xT := xTi_18 _ (List.mem_of_getElem? (i := 13) rfl)
theorem xw_464 : Cond.fieldLink "MaskEdgesModel" 54 "MaskEdgesModel" "moves" "[I" ∈ xT := xTi_18 _ (List.mem_of_getElem? (i := 14) rfl)
theorem xw_465 : Cond.fieldLink "MaskEdgesModel" 57 "MaskEdgesModel" "before" "[I" ∈ xT := xTi_18 _ (List.mem_of_getElem? (i := 15) rfl)
theorem xw_466 : Cond.fieldLink "MaskEdgesModel" 151 "MaskEdgesModel" "bars" "I" ∈ xT := xTi_18 _ (List.mem_of_getElem? (i := 16) rfl)
theorem xw_467 : Cond.fieldLink "MaskEdgesModel" 60 "MaskEdgesModel" "barX" "[I" ∈ xT := xTi_18 _ (List.mem_of_getElem? (i := 17) rfl)
theorem xw_468 : Cond.fieldLink "MaskEdgesModel" 63 "MaskEdgesModel" "barY" "[I" ∈ xT := xTi_18 _ (List.mem_of_getElem? (i := 18) rfl)
theorem xw_469 : Cond.fieldLink "MaskEdgesModel" 66 "MaskEdgesModel" "barFarX" "[I" ∈ xT := xTi_18 _ (List.mem_of_getElem? (i := 19) rfl)
theorem xw_470 : Cond.fieldLink "MaskEdgesModel" 69 "MaskEdgesModel" "barFarY" "[I" ∈ xT := xTi_18 _ (List.mem_of_getElem? (i := 20) rfl)
theorem xw_471 : Cond.fieldLink "MaskEdgesModel" 72 "MaskEdgesModel" "mask" "[Z" ∈ xT := xTi_18 _ (List.mem_of_getElem? (i := 21) rfl)
theorem xw_472 : Cond.fieldLink "MaskEdgesModel" 75 "MaskEdgesModel" "sums" "[I" ∈ xT := xTi_18 _ (List.mem_of_getElem? (i := 22) rfl)
theorem xw_473 : Cond.fieldLink "MaskEdgesModel" 78 "MaskEdgesModel" "kept" "I" ∈ xT := xTi_18 _ (List.mem_of_getElem? (i := 23) rfl)
theorem xw_474 : Cond.fieldLink "MaskEdgesModel" 81 "MaskEdgesModel" "worsts" "[I" ∈ xT := xTi_18 _ (List.mem_of_getElem? (i := 24) rfl)
theorem xw_475 : Cond.lays "MaskEdgesModel" "MaskEdgesModel" "polygons" "I" ∈ xT := xTi_19 _ (List.mem_of_getElem? (i := 0) rfl)
theorem xw_476 : Cond.laysFinal "MaskEdgesModel" "MaskEdgesModel" "xs" "[I" ∈ xT := xTi_19 _ (List.mem_of_getElem? (i := 1) rfl)
theorem xw_477 : Cond.laysFinal "MaskEdgesModel" "MaskEdgesModel" "ys" "[I" ∈ xT := xTi_19 _ (List.mem_of_getElem? (i := 2) rfl)
theorem xw_478 : Cond.laysFinal "MaskEdgesModel" "MaskEdgesModel" "sizes" "[I" ∈ xT := xTi_19 _ (List.mem_of_getElem? (i := 3) rfl)
theorem xw_479 : Cond.laysFinal "MaskEdgesModel" "MaskEdgesModel" "isClosed" "[Z" ∈ xT := xTi_19 _ (List.mem_of_getElem? (i := 4) rfl)
theorem xw_480 : Cond.lays "MaskEdgesModel" "MaskEdgesModel" "kernels" "I" ∈ xT := xTi_19 _ (List.mem_of_getElem? (i := 5) rfl)
theorem xw_481 : Cond.laysFinal "MaskEdgesModel" "MaskEdgesModel" "weights" "[I" ∈ xT := xTi_19 _ (List.mem_of_getElem? (i := 6) rfl)
theorem xw_482 : Cond.laysFinal "MaskEdgesModel" "MaskEdgesModel" "widths" "[I" ∈ xT := xTi_19 _ (List.mem_of_getElem? (i := 7) rfl)
theorem xw_483 : Cond.lays "MaskEdgesModel" "MaskEdgesModel" "threshold" "I" ∈ xT := xTi_19 _ (List.mem_of_getElem? (i := 8) rfl)
theorem xw_484 : Cond.lays "MaskEdgesModel" "MaskEdgesModel" "pieces" "I" ∈ xT := xTi_19 _ (List.mem_of_getElem? (i := 9) rfl)
theorem xw_485 : Cond.laysFinal "MaskEdgesModel" "MaskEdgesModel" "across" "[I" ∈ xT := xTi_19 _ (List.mem_of_getElem? (i := 10) rfl)
theorem xw_486 : Cond.laysFinal "MaskEdgesModel" "MaskEdgesModel" "from" "[I" ∈ xT := xTi_19 _ (List.mem_of_getElem? (i := 11) rfl)
theorem xw_487 : Cond.laysFinal "MaskEdgesModel" "MaskEdgesModel" "to" "[I" ∈ xT := xTi_19 _ (List.mem_of_getElem? (i := 12) rfl)
theorem xw_488 : Cond.laysFinal "MaskEdgesModel" "MaskEdgesModel" "isAlongX" "[Z" ∈ xT := xTi_19 _ (List.mem_of_getElem? (i := 13) rfl)
theorem xw_489 : Cond.laysFinal "MaskEdgesModel" "MaskEdgesModel" "isFirst" "[Z" ∈ xT := xTi_19 _ (List.mem_of_getElem? (i := 14) rfl)
theorem xw_490 : Cond.laysFinal "MaskEdgesModel" "MaskEdgesModel" "isLast" "[Z" ∈ xT := xTi_19 _ (List.mem_of_getElem? (i := 15) rfl)
theorem xw_491 : Cond.laysFinal "MaskEdgesModel" "MaskEdgesModel" "out" "[I" ∈ xT := xTi_19 _ (List.mem_of_getElem? (i := 16) rfl)
theorem xw_492 : Cond.laysFinal "MaskEdgesModel" "MaskEdgesModel" "moves" "[I" ∈ xT := xTi_19 _ (List.mem_of_getElem? (i := 17) rfl)
theorem xw_493 : Cond.laysFinal "MaskEdgesModel" "MaskEdgesModel" "before" "[I" ∈ xT := xTi_19 _ (List.mem_of_getElem? (i := 18) rfl)
theorem xw_494 : Cond.lays "MaskEdgesModel" "MaskEdgesModel" "bars" "I" ∈ xT := xTi_19 _ (List.mem_of_getElem? (i := 19) rfl)
theorem xw_495 : Cond.laysFinal "MaskEdgesModel" "MaskEdgesModel" "barX" "[I" ∈ xT := xTi_19 _ (List.mem_of_getElem? (i := 20) rfl)
theorem xw_496 : Cond.laysFinal "MaskEdgesModel" "MaskEdgesModel" "barY" "[I" ∈ xT := xTi_19 _ (List.mem_of_getElem? (i := 21) rfl)
theorem xw_497 : Cond.laysFinal "MaskEdgesModel" "MaskEdgesModel" "barFarX" "[I" ∈ xT := xTi_19 _ (List.mem_of_getElem? (i := 22) rfl)
theorem xw_498 : Cond.laysFinal "MaskEdgesModel" "MaskEdgesModel" "barFarY" "[I" ∈ xT := xTi_19 _ (List.mem_of_getElem? (i := 23) rfl)
theorem xw_499 : Cond.laysFinal "MaskEdgesModel" "MaskEdgesModel" "mask" "[Z" ∈ xT := xTi_19 _ (List.mem_of_getElem? (i := 24) rfl)
theorem xw_500 : Cond.laysFinal "MaskEdgesModel" "MaskEdgesModel" "sums" "[I" ∈ xT := xTi_20 _ (List.mem_of_getElem? (i := 0) rfl)
theorem xw_501 : Cond.lays "MaskEdgesModel" "MaskEdgesModel" "kept" "I" ∈ xT := xTi_20 _ (List.mem_of_getElem? (i := 1) rfl)
theorem xw_502 : Cond.laysFinal "MaskEdgesModel" "MaskEdgesModel" "worsts" "[I" ∈ xT := xTi_20 _ (List.mem_of_getElem? (i := 2) rfl)
theorem xw_503 : Cond.arrayClass .boolean ∈ xT := xTi_20 _ (List.mem_of_getElem? (i := 3) rfl)
theorem xw_504 : Cond.methodLink "MaskEdgesLaw" 17 y_MaskEdgesModel_polygon ∈ xT := xTi_20 _ (List.mem_of_getElem? (i := 4) rfl)
theorem xw_505 : Cond.instanceMethod y_MaskEdgesModel_polygon ∈ xT := xTi_20 _ (List.mem_of_getElem? (i := 5) rfl)
theorem xw_506 : Cond.selects "MaskEdgesModel" y_MaskEdgesModel_polygon y_MaskEdgesModel_polygon ∈ xT := xTi_20 _ (List.mem_of_getElem? (i := 6) rfl)
theorem xw_507 : Cond.code y_MaskEdgesModel_polygon prog_8_method_4_code 1 (some .int) ∈ xT := xTi_20 _ (List.mem_of_getElem? (i := 7) rfl)
theorem xw_508 : Cond.methodLink "MaskEdgesLaw" 24 y_MaskEdgesModel_corner ∈ xT := xTi_20 _ (List.mem_of_getElem? (i := 8) rfl)
theorem xw_509 : Cond.instanceMethod y_MaskEdgesModel_corner ∈ xT := xTi_20 _ (List.mem_of_getElem? (i := 9) rfl)
theorem xw_510 : Cond.selects "MaskEdgesModel" y_MaskEdgesModel_corner y_MaskEdgesModel_corner ∈ xT := xTi_20 _ (List.mem_of_getElem? (i := 10) rfl)
theorem xw_511 : Cond.code y_MaskEdgesModel_corner prog_8_method_6_code 10 (some .boolean) ∈ xT := xTi_20 _ (List.mem_of_getElem? (i := 11) rfl)
theorem xw_512 : Cond.methodLink "MaskEdgesModel" 86 y_MaskEdgesModel_isBetween ∈ xT := xTi_20 _ (List.mem_of_getElem? (i := 12) rfl)
theorem xw_513 : Cond.static y_MaskEdgesModel_isBetween ∈ xT := xTi_20 _ (List.mem_of_getElem? (i := 13) rfl)
theorem xw_514 : Cond.code y_MaskEdgesModel_isBetween prog_8_method_2_code 6 (some .boolean) ∈ xT := xTi_20 _ (List.mem_of_getElem? (i := 14) rfl)
theorem xw_515 : Cond.constantLong "MaskEdgesModel" 96 (48 : Int64) ∈ xT := xTi_20 _ (List.mem_of_getElem? (i := 15) rfl)
theorem xw_516 : Cond.methodLink "MaskEdgesModel" 98 y_MaskEdgesModel_goesAlongX ∈ xT := xTi_20 _ (List.mem_of_getElem? (i := 16) rfl)
theorem xw_517 : Cond.instanceMethod y_MaskEdgesModel_goesAlongX ∈ xT := xTi_20 _ (List.mem_of_getElem? (i := 17) rfl)
theorem xw_518 : Cond.code y_MaskEdgesModel_goesAlongX prog_8_method_5_code 5 (some .boolean) ∈ xT := xTi_20 _ (List.mem_of_getElem? (i := 18) rfl)
theorem xw_519 : Cond.methodLink "MaskEdgesLaw" 29 y_MaskEdgesModel_kernel ∈ xT := xTi_20 _ (List.mem_of_getElem? (i := 19) rfl)
theorem xw_520 : Cond.instanceMethod y_MaskEdgesModel_kernel ∈ xT := xTi_20 _ (List.mem_of_getElem? (i := 20) rfl)
theorem xw_521 : Cond.selects "MaskEdgesModel" y_MaskEdgesModel_kernel y_MaskEdgesModel_kernel ∈ xT := xTi_20 _ (List.mem_of_getElem? (i := 21) rfl)
theorem xw_522 : Cond.code y_MaskEdgesModel_kernel prog_8_method_9_code 3 (some .int) ∈ xT := xTi_20 _ (List.mem_of_getElem? (i := 22) rfl)
theorem xw_523 : Cond.constantLong "MaskEdgesModel" 109 (-20 : Int64) ∈ xT := xTi_20 _ (List.mem_of_getElem? (i := 23) rfl)
theorem xw_524 : Cond.constantLong "MaskEdgesModel" 111 (20 : Int64) ∈ xT := xTi_20 _ (List.mem_of_getElem? (i := 24) rfl)
theorem xw_525 : Cond.constantLong "MaskEdgesModel" 113 (6 : Int64) ∈ xT := xTi_21 _ (List.mem_of_getElem? (i := 0) rfl)
theorem xw_526 : Cond.methodLink "MaskEdgesLaw" 34 y_MaskEdgesModel_cut ∈ xT := xTi_21 _ (List.mem_of_getElem? (i := 1) rfl)
theorem xw_527 : Cond.instanceMethod y_MaskEdgesModel_cut ∈ xT := xTi_21 _ (List.mem_of_getElem? (i := 2) rfl)
theorem xw_528 : Cond.selects "MaskEdgesModel" y_MaskEdgesModel_cut y_MaskEdgesModel_cut ∈ xT := xTi_21 _ (List.mem_of_getElem? (i := 3) rfl)
theorem xw_529 : Cond.code y_MaskEdgesModel_cut prog_8_method_16_code 5 (some .int) ∈ xT := xTi_21 _ (List.mem_of_getElem? (i := 4) rfl)
theorem xw_530 : Cond.methodLink "MaskEdgesModel" 132 y_MaskEdgesModel_hasClosed ∈ xT := xTi_21 _ (List.mem_of_getElem? (i := 5) rfl)
theorem xw_531 : Cond.instanceMethod y_MaskEdgesModel_hasClosed ∈ xT := xTi_21 _ (List.mem_of_getElem? (i := 6) rfl)
theorem xw_532 : Cond.code y_MaskEdgesModel_hasClosed prog_8_method_10_code 3 (some .boolean) ∈ xT := xTi_21 _ (List.mem_of_getElem? (i := 7) rfl)
theorem xw_533 : Cond.methodLink "MaskEdgesModel" 122 y_MaskEdgesModel_lengthOf ∈ xT := xTi_21 _ (List.mem_of_getElem? (i := 8) rfl)
theorem xw_534 : Cond.instanceMethod y_MaskEdgesModel_lengthOf ∈ xT := xTi_21 _ (List.mem_of_getElem? (i := 9) rfl)
theorem xw_535 : Cond.code y_MaskEdgesModel_lengthOf prog_8_method_11_code 6 (some .int) ∈ xT := xTi_21 _ (List.mem_of_getElem? (i := 10) rfl)
theorem xw_536 : Cond.methodLink "MaskEdgesModel" 136 y_MaskEdgesModel_addPieces ∈ xT := xTi_21 _ (List.mem_of_getElem? (i := 11) rfl)
theorem xw_537 : Cond.instanceMethod y_MaskEdgesModel_addPieces ∈ xT := xTi_21 _ (List.mem_of_getElem? (i := 12) rfl)
theorem xw_538 : Cond.code y_MaskEdgesModel_addPieces prog_8_method_15_code 15 none ∈ xT := xTi_21 _ (List.mem_of_getElem? (i := 13) rfl)
theorem xw_539 : Cond.methodLink "MaskEdgesModel" 126 y_MaskEdgesModel_besideX ∈ xT := xTi_21 _ (List.mem_of_getElem? (i := 14) rfl)
theorem xw_540 : Cond.instanceMethod y_MaskEdgesModel_besideX ∈ xT := xTi_21 _ (List.mem_of_getElem? (i := 15) rfl)
theorem xw_541 : Cond.code y_MaskEdgesModel_besideX prog_8_method_13_code 3 (some .int) ∈ xT := xTi_21 _ (List.mem_of_getElem? (i := 16) rfl)
theorem xw_542 : Cond.methodLink "MaskEdgesModel" 118 y_MaskEdgesModel_middle ∈ xT := xTi_21 _ (List.mem_of_getElem? (i := 17) rfl)
theorem xw_543 : Cond.instanceMethod y_MaskEdgesModel_middle ∈ xT := xTi_21 _ (List.mem_of_getElem? (i := 18) rfl)
theorem xw_544 : Cond.code y_MaskEdgesModel_middle prog_8_method_12_code 2 (some .int) ∈ xT := xTi_21 _ (List.mem_of_getElem? (i := 19) rfl)
theorem xw_545 : Cond.methodLink "MaskEdgesModel" 129 y_MaskEdgesModel_besideY ∈ xT := xTi_21 _ (List.mem_of_getElem? (i := 20) rfl)
theorem xw_546 : Cond.instanceMethod y_MaskEdgesModel_besideY ∈ xT := xTi_21 _ (List.mem_of_getElem? (i := 21) rfl)
theorem xw_547 : Cond.code y_MaskEdgesModel_besideY prog_8_method_14_code 3 (some .int) ∈ xT := xTi_21 _ (List.mem_of_getElem? (i := 22) rfl)
theorem xw_548 : Cond.methodLink "MaskEdgesModel" 105 y_MaskEdgesModel_isIn ∈ xT := xTi_21 _ (List.mem_of_getElem? (i := 23) rfl)
theorem xw_549 : Cond.instanceMethod y_MaskEdgesModel_isIn ∈ xT := xTi_21 _ (List.mem_of_getElem? (i := 24) rfl)
theorem xw_550 : Cond.code y_MaskEdgesModel_isIn prog_8_method_7_code 10 (some .boolean) ∈ xT := xTi_22 _ (List.mem_of_getElem? (i := 0) rfl)
theorem xw_551 : Cond.methodLink "MaskEdgesModel" 102 y_MaskEdgesModel_isCell ∈ xT := xTi_22 _ (List.mem_of_getElem? (i := 1) rfl)
theorem xw_552 : Cond.static y_MaskEdgesModel_isCell ∈ xT := xTi_22 _ (List.mem_of_getElem? (i := 2) rfl)
theorem xw_553 : Cond.code y_MaskEdgesModel_isCell prog_8_method_3_code 2 (some .boolean) ∈ xT := xTi_22 _ (List.mem_of_getElem? (i := 3) rfl)
theorem xw_554 : Cond.constantLong "MaskEdgesModel" 84 (47 : Int64) ∈ xT := xTi_22 _ (List.mem_of_getElem? (i := 4) rfl)
theorem xw_555 : Cond.methodLink "MaskEdgesLaw" 38 y_MaskEdgesModel_image ∈ xT := xTi_22 _ (List.mem_of_getElem? (i := 5) rfl)
theorem xw_556 : Cond.instanceMethod y_MaskEdgesModel_image ∈ xT := xTi_22 _ (List.mem_of_getElem? (i := 6) rfl)
theorem xw_557 : Cond.selects "MaskEdgesModel" y_MaskEdgesModel_image y_MaskEdgesModel_image ∈ xT := xTi_22 _ (List.mem_of_getElem? (i := 7) rfl)
theorem xw_558 : Cond.code y_MaskEdgesModel_image prog_8_method_24_code 3 (some .int) ∈ xT := xTi_22 _ (List.mem_of_getElem? (i := 8) rfl)
theorem xw_559 : Cond.methodLink "MaskEdgesModel" 166 y_MaskEdgesModel_make ∈ xT := xTi_22 _ (List.mem_of_getElem? (i := 9) rfl)
theorem xw_560 : Cond.instanceMethod y_MaskEdgesModel_make ∈ xT := xTi_22 _ (List.mem_of_getElem? (i := 10) rfl)
theorem xw_561 : Cond.code y_MaskEdgesModel_make prog_8_method_19_code 4 none ∈ xT := xTi_22 _ (List.mem_of_getElem? (i := 11) rfl)
theorem xw_562 : Cond.methodLink "MaskEdgesModel" 144 y_MaskEdgesModel_isTarget ∈ xT := xTi_22 _ (List.mem_of_getElem? (i := 12) rfl)
theorem xw_563 : Cond.instanceMethod y_MaskEdgesModel_isTarget ∈ xT := xTi_22 _ (List.mem_of_getElem? (i := 13) rfl)
theorem xw_564 : Cond.code y_MaskEdgesModel_isTarget prog_8_method_8_code 5 (some .boolean) ∈ xT := xTi_22 _ (List.mem_of_getElem? (i := 14) rfl)
theorem xw_565 : Cond.methodLink "MaskEdgesModel" 147 y_MaskEdgesModel_putPiece ∈ xT := xTi_22 _ (List.mem_of_getElem? (i := 15) rfl)
theorem xw_566 : Cond.instanceMethod y_MaskEdgesModel_putPiece ∈ xT := xTi_22 _ (List.mem_of_getElem? (i := 16) rfl)
theorem xw_567 : Cond.code y_MaskEdgesModel_putPiece prog_8_method_18_code 7 none ∈ xT := xTi_22 _ (List.mem_of_getElem? (i := 17) rfl)
theorem xw_568 : Cond.methodLink "MaskEdgesModel" 140 y_MaskEdgesModel_put ∈ xT := xTi_22 _ (List.mem_of_getElem? (i := 18) rfl)
theorem xw_569 : Cond.instanceMethod y_MaskEdgesModel_put ∈ xT := xTi_22 _ (List.mem_of_getElem? (i := 19) rfl)
theorem xw_570 : Cond.code y_MaskEdgesModel_put prog_8_method_17_code 4 none ∈ xT := xTi_22 _ (List.mem_of_getElem? (i := 20) rfl)
theorem xw_571 : Cond.methodLink "MaskEdgesModel" 161 y_MaskEdgesModel_imageAt ∈ xT := xTi_22 _ (List.mem_of_getElem? (i := 21) rfl)
theorem xw_572 : Cond.instanceMethod y_MaskEdgesModel_imageAt ∈ xT := xTi_22 _ (List.mem_of_getElem? (i := 22) rfl)
theorem xw_573 : Cond.code y_MaskEdgesModel_imageAt prog_8_method_22_code 5 (some .int) ∈ xT := xTi_22 _ (List.mem_of_getElem? (i := 23) rfl)
theorem xw_574 : Cond.methodLink "MaskEdgesModel" 157 y_MaskEdgesModel_countAt ∈ xT := xTi_22 _ (List.mem_of_getElem? (i := 24) rfl)
theorem xw_575 : Cond.instanceMethod y_MaskEdgesModel_countAt ∈ xT := xTi_23 _ (List.mem_of_getElem? (i := 0) rfl)
theorem xw_576 : Cond.code y_MaskEdgesModel_countAt prog_8_method_21_code 8 (some .int) ∈ xT := xTi_23 _ (List.mem_of_getElem? (i := 1) rfl)
theorem xw_577 : Cond.methodLink "MaskEdgesModel" 154 y_MaskEdgesModel_within ∈ xT := xTi_23 _ (List.mem_of_getElem? (i := 2) rfl)
theorem xw_578 : Cond.static y_MaskEdgesModel_within ∈ xT := xTi_23 _ (List.mem_of_getElem? (i := 3) rfl)
theorem xw_579 : Cond.code y_MaskEdgesModel_within prog_8_method_20_code 1 (some .int) ∈ xT := xTi_23 _ (List.mem_of_getElem? (i := 4) rfl)
theorem xw_580 : Cond.methodLink "MaskEdgesLaw" 42 y_MaskEdgesModel_error ∈ xT := xTi_23 _ (List.mem_of_getElem? (i := 5) rfl)
theorem xw_581 : Cond.instanceMethod y_MaskEdgesModel_error ∈ xT := xTi_23 _ (List.mem_of_getElem? (i := 6) rfl)
theorem xw_582 : Cond.selects "MaskEdgesModel" y_MaskEdgesModel_error y_MaskEdgesModel_error ∈ xT := xTi_23 _ (List.mem_of_getElem? (i := 7) rfl)
theorem xw_583 : Cond.code y_MaskEdgesModel_error prog_8_method_28_code 2 (some .int) ∈ xT := xTi_23 _ (List.mem_of_getElem? (i := 8) rfl)
theorem xw_584 : Cond.methodLink "MaskEdgesModel" 175 y_MaskEdgesModel_edge ∈ xT := xTi_23 _ (List.mem_of_getElem? (i := 9) rfl)
theorem xw_585 : Cond.instanceMethod y_MaskEdgesModel_edge ∈ xT := xTi_23 _ (List.mem_of_getElem? (i := 10) rfl)
theorem xw_586 : Cond.selects "MaskEdgesModel" y_MaskEdgesModel_edge y_MaskEdgesModel_edge ∈ xT := xTi_23 _ (List.mem_of_getElem? (i := 11) rfl)
theorem xw_587 : Cond.code y_MaskEdgesModel_edge prog_8_method_29_code 3 (some .int) ∈ xT := xTi_23 _ (List.mem_of_getElem? (i := 12) rfl)
theorem xw_588 : Cond.methodLink "MaskEdgesModel" 178 y_MaskEdgesModel_isPiece ∈ xT := xTi_23 _ (List.mem_of_getElem? (i := 13) rfl)
theorem xw_589 : Cond.instanceMethod y_MaskEdgesModel_isPiece ∈ xT := xTi_23 _ (List.mem_of_getElem? (i := 14) rfl)
theorem xw_590 : Cond.code y_MaskEdgesModel_isPiece prog_8_method_25_code 2 (some .boolean) ∈ xT := xTi_23 _ (List.mem_of_getElem? (i := 15) rfl)
theorem xw_591 : Cond.constantLong "MaskEdgesModel" 182 (1000 : Int64) ∈ xT := xTi_23 _ (List.mem_of_getElem? (i := 16) rfl)
theorem xw_592 : Cond.methodLink "MaskEdgesModel" 172 y_MaskEdgesModel_errorAt ∈ xT := xTi_23 _ (List.mem_of_getElem? (i := 17) rfl)
theorem xw_593 : Cond.instanceMethod y_MaskEdgesModel_errorAt ∈ xT := xTi_23 _ (List.mem_of_getElem? (i := 18) rfl)
theorem xw_594 : Cond.code y_MaskEdgesModel_errorAt prog_8_method_26_code 10 (some .int) ∈ xT := xTi_23 _ (List.mem_of_getElem? (i := 19) rfl)
theorem xw_595 : Cond.methodLink "MaskEdgesModel" 169 y_MaskEdgesModel_doesPrint ∈ xT := xTi_23 _ (List.mem_of_getElem? (i := 20) rfl)
theorem xw_596 : Cond.instanceMethod y_MaskEdgesModel_doesPrint ∈ xT := xTi_23 _ (List.mem_of_getElem? (i := 21) rfl)
theorem xw_597 : Cond.code y_MaskEdgesModel_doesPrint prog_8_method_23_code 4 (some .boolean) ∈ xT := xTi_23 _ (List.mem_of_getElem? (i := 22) rfl)
theorem xw_598 : Cond.constantLong "MaskEdgesModel" 164 (100 : Int64) ∈ xT := xTi_23 _ (List.mem_of_getElem? (i := 23) rfl)
theorem xw_599 : Cond.methodLink "MaskEdgesLaw" 68 y_MaskEdgesModel_edge ∈ xT := xTi_23 _ (List.mem_of_getElem? (i := 24) rfl)
theorem xw_600 : Cond.methodLink "MaskEdgesLaw" 47 y_MaskEdgesModel_run ∈ xT := xTi_24 _ (List.mem_of_getElem? (i := 0) rfl)
theorem xw_601 : Cond.instanceMethod y_MaskEdgesModel_run ∈ xT := xTi_24 _ (List.mem_of_getElem? (i := 1) rfl)
theorem xw_602 : Cond.selects "MaskEdgesModel" y_MaskEdgesModel_run y_MaskEdgesModel_run ∈ xT := xTi_24 _ (List.mem_of_getElem? (i := 2) rfl)
theorem xw_603 : Cond.code y_MaskEdgesModel_run prog_8_method_33_code 7 (some .int) ∈ xT := xTi_24 _ (List.mem_of_getElem? (i := 3) rfl)
theorem xw_604 : Cond.constantLong "MaskEdgesModel" 187 (100000 : Int64) ∈ xT := xTi_24 _ (List.mem_of_getElem? (i := 4) rfl)
theorem xw_605 : Cond.constantLong "MaskEdgesModel" 189 (4 : Int64) ∈ xT := xTi_24 _ (List.mem_of_getElem? (i := 5) rfl)
theorem xw_606 : Cond.methodLink "MaskEdgesModel" 191 y_MaskEdgesModel_worstNow ∈ xT := xTi_24 _ (List.mem_of_getElem? (i := 6) rfl)
theorem xw_607 : Cond.instanceMethod y_MaskEdgesModel_worstNow ∈ xT := xTi_24 _ (List.mem_of_getElem? (i := 7) rfl)
theorem xw_608 : Cond.code y_MaskEdgesModel_worstNow prog_8_method_27_code 4 (some .int) ∈ xT := xTi_24 _ (List.mem_of_getElem? (i := 8) rfl)
theorem xw_609 : Cond.methodLink "MaskEdgesModel" 195 y_MaskEdgesModel_moveAll ∈ xT := xTi_24 _ (List.mem_of_getElem? (i := 9) rfl)
theorem xw_610 : Cond.instanceMethod y_MaskEdgesModel_moveAll ∈ xT := xTi_24 _ (List.mem_of_getElem? (i := 10) rfl)
theorem xw_611 : Cond.code y_MaskEdgesModel_moveAll prog_8_method_31_code 6 (some .boolean) ∈ xT := xTi_24 _ (List.mem_of_getElem? (i := 11) rfl)
theorem xw_612 : Cond.methodLink "MaskEdgesModel" 184 y_MaskEdgesModel_clamp ∈ xT := xTi_24 _ (List.mem_of_getElem? (i := 12) rfl)
theorem xw_613 : Cond.static y_MaskEdgesModel_clamp ∈ xT := xTi_24 _ (List.mem_of_getElem? (i := 13) rfl)
theorem xw_614 : Cond.code y_MaskEdgesModel_clamp prog_8_method_30_code 2 (some .int) ∈ xT := xTi_24 _ (List.mem_of_getElem? (i := 14) rfl)
theorem xw_615 : Cond.methodLink "MaskEdgesModel" 198 y_MaskEdgesModel_moveBack ∈ xT := xTi_24 _ (List.mem_of_getElem? (i := 15) rfl)
theorem xw_616 : Cond.instanceMethod y_MaskEdgesModel_moveBack ∈ xT := xTi_24 _ (List.mem_of_getElem? (i := 16) rfl)
theorem xw_617 : Cond.code y_MaskEdgesModel_moveBack prog_8_method_32_code 2 none ∈ xT := xTi_24 _ (List.mem_of_getElem? (i := 17) rfl)
theorem xw_618 : Cond.methodLink "MaskEdgesLaw" 51 y_MaskEdgesModel_moved ∈ xT := xTi_24 _ (List.mem_of_getElem? (i := 18) rfl)
theorem xw_619 : Cond.instanceMethod y_MaskEdgesModel_moved ∈ xT := xTi_24 _ (List.mem_of_getElem? (i := 19) rfl)
theorem xw_620 : Cond.selects "MaskEdgesModel" y_MaskEdgesModel_moved y_MaskEdgesModel_moved ∈ xT := xTi_24 _ (List.mem_of_getElem? (i := 20) rfl)
theorem xw_621 : Cond.code y_MaskEdgesModel_moved prog_8_method_34_code 2 (some .int) ∈ xT := xTi_24 _ (List.mem_of_getElem? (i := 21) rfl)
theorem xw_622 : Cond.methodLink "MaskEdgesLaw" 55 y_MaskEdgesModel_worst ∈ xT := xTi_24 _ (List.mem_of_getElem? (i := 22) rfl)
theorem xw_623 : Cond.instanceMethod y_MaskEdgesModel_worst ∈ xT := xTi_24 _ (List.mem_of_getElem? (i := 23) rfl)
theorem xw_624 : Cond.selects "MaskEdgesModel" y_MaskEdgesModel_worst y_MaskEdgesModel_worst ∈ xT := xTi_24 _ (List.mem_of_getElem? (i := 24) rfl)
theorem xw_625 : Cond.code y_MaskEdgesModel_worst prog_8_method_35_code 2 (some .int) ∈ xT := xTi_25 _ (List.mem_of_getElem? (i := 0) rfl)
theorem xw_626 : Cond.methodLink "MaskEdgesLaw" 59 y_MaskEdgesModel_helper ∈ xT := xTi_25 _ (List.mem_of_getElem? (i := 1) rfl)
theorem xw_627 : Cond.instanceMethod y_MaskEdgesModel_helper ∈ xT := xTi_25 _ (List.mem_of_getElem? (i := 2) rfl)
theorem xw_628 : Cond.selects "MaskEdgesModel" y_MaskEdgesModel_helper y_MaskEdgesModel_helper ∈ xT := xTi_25 _ (List.mem_of_getElem? (i := 3) rfl)
theorem xw_629 : Cond.code y_MaskEdgesModel_helper prog_8_method_38_code 5 (some .int) ∈ xT := xTi_25 _ (List.mem_of_getElem? (i := 4) rfl)
theorem xw_630 : Cond.constantLong "MaskEdgesModel" 205 (8 : Int64) ∈ xT := xTi_25 _ (List.mem_of_getElem? (i := 5) rfl)
theorem xw_631 : Cond.methodLink "MaskEdgesModel" 207 y_MaskEdgesModel_hasCome ∈ xT := xTi_25 _ (List.mem_of_getElem? (i := 6) rfl)
theorem xw_632 : Cond.instanceMethod y_MaskEdgesModel_hasCome ∈ xT := xTi_25 _ (List.mem_of_getElem? (i := 7) rfl)
theorem xw_633 : Cond.code y_MaskEdgesModel_hasCome prog_8_method_37_code 12 (some .boolean) ∈ xT := xTi_25 _ (List.mem_of_getElem? (i := 8) rfl)
theorem xw_634 : Cond.methodLink "MaskEdgesModel" 201 y_MaskEdgesModel_isFree ∈ xT := xTi_25 _ (List.mem_of_getElem? (i := 9) rfl)
theorem xw_635 : Cond.instanceMethod y_MaskEdgesModel_isFree ∈ xT := xTi_25 _ (List.mem_of_getElem? (i := 10) rfl)
theorem xw_636 : Cond.code y_MaskEdgesModel_isFree prog_8_method_36_code 8 (some .boolean) ∈ xT := xTi_25 _ (List.mem_of_getElem? (i := 11) rfl)
theorem xw_637 : Cond.methodLink "MaskEdgesLaw" 64 y_MaskEdgesModel_prints ∈ xT := xTi_25 _ (List.mem_of_getElem? (i := 12) rfl)
theorem xw_638 : Cond.instanceMethod y_MaskEdgesModel_prints ∈ xT := xTi_25 _ (List.mem_of_getElem? (i := 13) rfl)
theorem xw_639 : Cond.selects "MaskEdgesModel" y_MaskEdgesModel_prints y_MaskEdgesModel_prints ∈ xT := xTi_25 _ (List.mem_of_getElem? (i := 14) rfl)
theorem xw_640 : Cond.code y_MaskEdgesModel_prints prog_8_method_39_code 6 (some .boolean) ∈ xT := xTi_25 _ (List.mem_of_getElem? (i := 15) rfl)
theorem xw_641 : Cond.methodLink "MaskEdgesLaw" 72 y_MaskEdgesModel_alike ∈ xT := xTi_25 _ (List.mem_of_getElem? (i := 16) rfl)
theorem xw_642 : Cond.instanceMethod y_MaskEdgesModel_alike ∈ xT := xTi_25 _ (List.mem_of_getElem? (i := 17) rfl)
theorem xw_643 : Cond.selects "MaskEdgesModel" y_MaskEdgesModel_alike y_MaskEdgesModel_alike ∈ xT := xTi_25 _ (List.mem_of_getElem? (i := 18) rfl)
theorem xw_644 : Cond.code y_MaskEdgesModel_alike prog_8_method_40_code 7 (some .boolean) ∈ xT := xTi_25 _ (List.mem_of_getElem? (i := 19) rfl)
theorem xw_645 : Cond.methodLink "MaskEdgesLaw" 76 y_MaskEdgesModel_shift ∈ xT := xTi_25 _ (List.mem_of_getElem? (i := 20) rfl)
theorem xw_646 : Cond.instanceMethod y_MaskEdgesModel_shift ∈ xT := xTi_25 _ (List.mem_of_getElem? (i := 21) rfl)
theorem xw_647 : Cond.selects "MaskEdgesModel" y_MaskEdgesModel_shift y_MaskEdgesModel_shift ∈ xT := xTi_25 _ (List.mem_of_getElem? (i := 22) rfl)
theorem xw_648 : Cond.code y_MaskEdgesModel_shift prog_8_method_41_code 7 (some .int) ∈ xT := xTi_25 _ (List.mem_of_getElem? (i := 23) rfl)
theorem xw_649 : Cond.constantLong "MaskEdgesModel" 210 (3 : Int64) ∈ xT := xTi_25 _ (List.mem_of_getElem? (i := 24) rfl)
theorem xw_650 : Cond.constantLong "MaskEdgesModel" 212 (-6 : Int64) ∈ xT := xTi_26 _ (List.mem_of_getElem? (i := 0) rfl)
theorem xw_651 : Cond.methodLink "MaskEdgesLaw" 81 y_MaskEdgesModel_is ∈ xT := xTi_26 _ (List.mem_of_getElem? (i := 1) rfl)
theorem xw_652 : Cond.instanceMethod y_MaskEdgesModel_is ∈ xT := xTi_26 _ (List.mem_of_getElem? (i := 2) rfl)
theorem xw_653 : Cond.selects "MaskEdgesModel" y_MaskEdgesModel_is y_MaskEdgesModel_is ∈ xT := xTi_26 _ (List.mem_of_getElem? (i := 3) rfl)
theorem xw_654 : Cond.code y_MaskEdgesModel_is prog_8_method_42_code 4 (some .boolean) ∈ xT := xTi_26 _ (List.mem_of_getElem? (i := 4) rfl)
theorem xw_655 : Cond.constantLong "MaskEdgesModel" 214 (2 : Int64) ∈ xT := xTi_26 _ (List.mem_of_getElem? (i := 5) rfl)
theorem xw_656 : Cond.constantLong "MaskEdgesLaw" 18 (4294967295 : Int64) ∈ xT := xTi_26 _ (List.mem_of_getElem? (i := 6) rfl)
def xNl : List Cond := [Cond.methodLinkNest "MaskEdges" 33 y_CellSet_init "MaskEdges", Cond.methodLinkNest "MaskEdges" 46 y_Exposure_init "MaskEdges", Cond.methodLinkNest "MaskEdges" 54 y_Box_init "MaskEdges", Cond.methodLinkNest "MaskEdges" 59 y_Outline_init "MaskEdges", Cond.methodLinkNest "MaskEdges" 60 y_Piece_init "MaskEdges", Cond.methodLinkNest "MaskEdges$CellSet" 15 y_MaskEdges_onGrid "MaskEdges", Cond.methodLinkNest "MaskEdges$CellSet" 28 y_MaskEdges_columnBits "MaskEdges", Cond.methodLinkNest "MaskEdges$Exposure" 31 y_MaskEdges_onGrid "MaskEdges", Cond.methodLinkNest "MaskEdges$Piece" 97 y_MaskEdges_clamp "MaskEdges"]
theorem xn_0 : Cond.methodLinkNest "MaskEdges" 33 y_CellSet_init "MaskEdges" ∈ xNl := List.mem_of_getElem? (i := 0) rfl
theorem xn_1 : Cond.methodLinkNest "MaskEdges" 46 y_Exposure_init "MaskEdges" ∈ xNl := List.mem_of_getElem? (i := 1) rfl
theorem xn_2 : Cond.methodLinkNest "MaskEdges" 54 y_Box_init "MaskEdges" ∈ xNl := List.mem_of_getElem? (i := 2) rfl
theorem xn_3 : Cond.methodLinkNest "MaskEdges" 59 y_Outline_init "MaskEdges" ∈ xNl := List.mem_of_getElem? (i := 3) rfl
theorem xn_4 : Cond.methodLinkNest "MaskEdges" 60 y_Piece_init "MaskEdges" ∈ xNl := List.mem_of_getElem? (i := 4) rfl
theorem xn_5 : Cond.methodLinkNest "MaskEdges$CellSet" 15 y_MaskEdges_onGrid "MaskEdges" ∈ xNl := List.mem_of_getElem? (i := 5) rfl
theorem xn_6 : Cond.methodLinkNest "MaskEdges$CellSet" 28 y_MaskEdges_columnBits "MaskEdges" ∈ xNl := List.mem_of_getElem? (i := 6) rfl
theorem xn_7 : Cond.methodLinkNest "MaskEdges$Exposure" 31 y_MaskEdges_onGrid "MaskEdges" ∈ xNl := List.mem_of_getElem? (i := 7) rfl
theorem xn_8 : Cond.methodLinkNest "MaskEdges$Piece" 97 y_MaskEdges_clamp "MaskEdges" ∈ xNl := List.mem_of_getElem? (i := 8) rfl
theorem xw_math_min : Cond.code Lib.Math.min.name Lib.Math.min.code 2 (some .int) ∈ xT := xTi_8 _ (List.mem_of_getElem? (i := 16) rfl)
theorem xw_math_max : Cond.code Lib.Math.max.name Lib.Math.max.code 2 (some .int) ∈ xT := xTi_8 _ (List.mem_of_getElem? (i := 19) rfl)
theorem xw_math_abs : Cond.code Lib.Math.abs.name Lib.Math.abs.code 1 (some .int) ∈ xT := xTi_11 _ (List.mem_of_getElem? (i := 16) rfl)
theorem xw_obj : Cond.code objectInit ⟨#[0xb1]⟩ 1 none ∈ xT := xTi_2 _ (List.mem_of_getElem? (i := 3) rfl)
def F_Box : u_T := fun k => match k with
  | 0 => ("MaskEdges$Box", "left", "I", false)
  | 1 => ("MaskEdges$Box", "top", "I", false)
  | 2 => ("MaskEdges$Box", "right", "I", false)
  | _ => ("MaskEdges$Box", "bottom", "I", false)
def ty_Box : Nat → FieldType := fun k => match k with
  | 0 => .int
  | 1 => .int
  | 2 => .int
  | _ => .int
theorem nm_Box : ∀ a, a < 4 → ∀ b, b < 4 → a ≠ b → (F_Box a).2.1 ≠ (F_Box b).2.1 := by decide +kernel
theorem tyk_Box : ∀ k, k < 4 → parseFieldDescriptor (F_Box k).2.2.1 = some (ty_Box k) := by decide +kernel
theorem in_Box : ∀ w ∈ u_ws "MaskEdges$Box" F_Box 4, w ∈ xT := List.forall_mem_cons.mpr ⟨xw_96, List.forall_mem_cons.mpr ⟨xw_97, List.forall_mem_cons.mpr ⟨xw_98, List.forall_mem_cons.mpr ⟨xw_99, fun _ h => absurd h List.not_mem_nil⟩⟩⟩⟩
def F_CellSet : u_T := fun k => match k with
  | _ => ("MaskEdges$CellSet", "rows", "[J", true)
def ty_CellSet : Nat → FieldType := fun k => match k with
  | _ => .array .long
theorem nm_CellSet : ∀ a, a < 1 → ∀ b, b < 1 → a ≠ b → (F_CellSet a).2.1 ≠ (F_CellSet b).2.1 := by decide +kernel
theorem tyk_CellSet : ∀ k, k < 1 → parseFieldDescriptor (F_CellSet k).2.2.1 = some (ty_CellSet k) := by decide +kernel
theorem in_CellSet : ∀ w ∈ u_ws "MaskEdges$CellSet" F_CellSet 1, w ∈ xT := List.forall_mem_cons.mpr ⟨xw_63, fun _ h => absurd h List.not_mem_nil⟩
def F_Exposure : u_T := fun k => match k with
  | 0 => ("MaskEdges$Exposure", "weights", "[I", true)
  | 1 => ("MaskEdges$Exposure", "widths", "[I", true)
  | 2 => ("MaskEdges$Exposure", "kernels", "I", false)
  | _ => ("MaskEdges$Exposure", "threshold", "I", false)
def ty_Exposure : Nat → FieldType := fun k => match k with
  | 0 => .array .int
  | 1 => .array .int
  | 2 => .int
  | _ => .int
theorem nm_Exposure : ∀ a, a < 4 → ∀ b, b < 4 → a ≠ b → (F_Exposure a).2.1 ≠ (F_Exposure b).2.1 := by decide +kernel
theorem tyk_Exposure : ∀ k, k < 4 → parseFieldDescriptor (F_Exposure k).2.2.1 = some (ty_Exposure k) := by decide +kernel
theorem in_Exposure : ∀ w ∈ u_ws "MaskEdges$Exposure" F_Exposure 4, w ∈ xT := List.forall_mem_cons.mpr ⟨xw_76, List.forall_mem_cons.mpr ⟨xw_77, List.forall_mem_cons.mpr ⟨xw_78, List.forall_mem_cons.mpr ⟨xw_79, fun _ h => absurd h List.not_mem_nil⟩⟩⟩⟩
def F_Outline : u_T := fun k => match k with
  | 0 => ("MaskEdges$Outline", "xs", "[I", true)
  | 1 => ("MaskEdges$Outline", "ys", "[I", true)
  | 2 => ("MaskEdges$Outline", "corners", "I", false)
  | _ => ("MaskEdges$Outline", "closed", "Z", false)
def ty_Outline : Nat → FieldType := fun k => match k with
  | 0 => .array .int
  | 1 => .array .int
  | 2 => .int
  | _ => .boolean
theorem nm_Outline : ∀ a, a < 4 → ∀ b, b < 4 → a ≠ b → (F_Outline a).2.1 ≠ (F_Outline b).2.1 := by decide +kernel
theorem tyk_Outline : ∀ k, k < 4 → parseFieldDescriptor (F_Outline k).2.2.1 = some (ty_Outline k) := by decide +kernel
theorem in_Outline : ∀ w ∈ u_ws "MaskEdges$Outline" F_Outline 4, w ∈ xT := List.forall_mem_cons.mpr ⟨xw_112, List.forall_mem_cons.mpr ⟨xw_113, List.forall_mem_cons.mpr ⟨xw_114, List.forall_mem_cons.mpr ⟨xw_115, fun _ h => absurd h List.not_mem_nil⟩⟩⟩⟩
def F_Piece : u_T := fun k => match k with
  | 0 => ("MaskEdges$Piece", "alongX", "Z", false)
  | 1 => ("MaskEdges$Piece", "line", "I", false)
  | 2 => ("MaskEdges$Piece", "low", "I", false)
  | 3 => ("MaskEdges$Piece", "high", "I", false)
  | 4 => ("MaskEdges$Piece", "sideLow", "I", false)
  | 5 => ("MaskEdges$Piece", "sideHigh", "I", false)
  | 6 => ("MaskEdges$Piece", "first", "Z", false)
  | 7 => ("MaskEdges$Piece", "last", "Z", false)
  | 8 => ("MaskEdges$Piece", "outward", "I", false)
  | 9 => ("MaskEdges$Piece", "insideX", "I", false)
  | 10 => ("MaskEdges$Piece", "insideY", "I", false)
  | _ => ("MaskEdges$Piece", "move", "I", false)
def ty_Piece : Nat → FieldType := fun k => match k with
  | 0 => .boolean
  | 1 => .int
  | 2 => .int
  | 3 => .int
  | 4 => .int
  | 5 => .int
  | 6 => .boolean
  | 7 => .boolean
  | 8 => .int
  | 9 => .int
  | 10 => .int
  | _ => .int
theorem nm_Piece : ∀ a, a < 12 → ∀ b, b < 12 → a ≠ b → (F_Piece a).2.1 ≠ (F_Piece b).2.1 := by decide +kernel
theorem tyk_Piece : ∀ k, k < 12 → parseFieldDescriptor (F_Piece k).2.2.1 = some (ty_Piece k) := by decide +kernel
theorem in_Piece : ∀ w ∈ u_ws "MaskEdges$Piece" F_Piece 12, w ∈ xT := List.forall_mem_cons.mpr ⟨xw_143, List.forall_mem_cons.mpr ⟨xw_144, List.forall_mem_cons.mpr ⟨xw_145, List.forall_mem_cons.mpr ⟨xw_146, List.forall_mem_cons.mpr ⟨xw_147, List.forall_mem_cons.mpr ⟨xw_148, List.forall_mem_cons.mpr ⟨xw_149, List.forall_mem_cons.mpr ⟨xw_150, List.forall_mem_cons.mpr ⟨xw_151, List.forall_mem_cons.mpr ⟨xw_152, List.forall_mem_cons.mpr ⟨xw_153, List.forall_mem_cons.mpr ⟨xw_154, fun _ h => absurd h List.not_mem_nil⟩⟩⟩⟩⟩⟩⟩⟩⟩⟩⟩⟩
def F_MaskEdges : u_T := fun k => match k with
  | 0 => ("MaskEdges", "outlines", "[LMaskEdges$Outline;", true)
  | 1 => ("MaskEdges", "outlineCount", "I", false)
  | 2 => ("MaskEdges", "pieces", "[LMaskEdges$Piece;", true)
  | 3 => ("MaskEdges", "pieceCount", "I", false)
  | 4 => ("MaskEdges", "movesBefore", "[I", true)
  | 5 => ("MaskEdges", "bars", "[LMaskEdges$Box;", true)
  | 6 => ("MaskEdges", "barCount", "I", false)
  | 7 => ("MaskEdges", "target", "LMaskEdges$CellSet;", true)
  | 8 => ("MaskEdges", "barCells", "LMaskEdges$CellSet;", true)
  | 9 => ("MaskEdges", "mask", "LMaskEdges$CellSet;", true)
  | 10 => ("MaskEdges", "exposure", "LMaskEdges$Exposure;", true)
  | 11 => ("MaskEdges", "worsts", "[I", true)
  | 12 => ("MaskEdges", "worstCount", "I", false)
  | _ => ("MaskEdges", "box", "LMaskEdges$Box;", true)
def ty_MaskEdges : Nat → FieldType := fun k => match k with
  | 0 => .array (.object "MaskEdges$Outline")
  | 1 => .int
  | 2 => .array (.object "MaskEdges$Piece")
  | 3 => .int
  | 4 => .array .int
  | 5 => .array (.object "MaskEdges$Box")
  | 6 => .int
  | 7 => .object "MaskEdges$CellSet"
  | 8 => .object "MaskEdges$CellSet"
  | 9 => .object "MaskEdges$CellSet"
  | 10 => .object "MaskEdges$Exposure"
  | 11 => .array .int
  | 12 => .int
  | _ => .object "MaskEdges$Box"
theorem nm_MaskEdges : ∀ a, a < 14 → ∀ b, b < 14 → a ≠ b → (F_MaskEdges a).2.1 ≠ (F_MaskEdges b).2.1 := by decide +kernel
theorem tyk_MaskEdges : ∀ k, k < 14 → parseFieldDescriptor (F_MaskEdges k).2.2.1 = some (ty_MaskEdges k) := by decide +kernel
theorem in_MaskEdges : ∀ w ∈ u_ws "MaskEdges" F_MaskEdges 14, w ∈ xT := List.forall_mem_cons.mpr ⟨xw_169, List.forall_mem_cons.mpr ⟨xw_170, List.forall_mem_cons.mpr ⟨xw_171, List.forall_mem_cons.mpr ⟨xw_172, List.forall_mem_cons.mpr ⟨xw_173, List.forall_mem_cons.mpr ⟨xw_174, List.forall_mem_cons.mpr ⟨xw_175, List.forall_mem_cons.mpr ⟨xw_176, List.forall_mem_cons.mpr ⟨xw_177, List.forall_mem_cons.mpr ⟨xw_178, List.forall_mem_cons.mpr ⟨xw_179, List.forall_mem_cons.mpr ⟨xw_180, List.forall_mem_cons.mpr ⟨xw_181, List.forall_mem_cons.mpr ⟨xw_182, fun _ h => absurd h List.not_mem_nil⟩⟩⟩⟩⟩⟩⟩⟩⟩⟩⟩⟩⟩⟩
def F_MaskEdgesModel : u_T := fun k => match k with
  | 0 => ("MaskEdgesModel", "polygons", "I", false)
  | 1 => ("MaskEdgesModel", "xs", "[I", true)
  | 2 => ("MaskEdgesModel", "ys", "[I", true)
  | 3 => ("MaskEdgesModel", "sizes", "[I", true)
  | 4 => ("MaskEdgesModel", "isClosed", "[Z", true)
  | 5 => ("MaskEdgesModel", "kernels", "I", false)
  | 6 => ("MaskEdgesModel", "weights", "[I", true)
  | 7 => ("MaskEdgesModel", "widths", "[I", true)
  | 8 => ("MaskEdgesModel", "threshold", "I", false)
  | 9 => ("MaskEdgesModel", "pieces", "I", false)
  | 10 => ("MaskEdgesModel", "across", "[I", true)
  | 11 => ("MaskEdgesModel", "from", "[I", true)
  | 12 => ("MaskEdgesModel", "to", "[I", true)
  | 13 => ("MaskEdgesModel", "isAlongX", "[Z", true)
  | 14 => ("MaskEdgesModel", "isFirst", "[Z", true)
  | 15 => ("MaskEdgesModel", "isLast", "[Z", true)
  | 16 => ("MaskEdgesModel", "out", "[I", true)
  | 17 => ("MaskEdgesModel", "moves", "[I", true)
  | 18 => ("MaskEdgesModel", "before", "[I", true)
  | 19 => ("MaskEdgesModel", "bars", "I", false)
  | 20 => ("MaskEdgesModel", "barX", "[I", true)
  | 21 => ("MaskEdgesModel", "barY", "[I", true)
  | 22 => ("MaskEdgesModel", "barFarX", "[I", true)
  | 23 => ("MaskEdgesModel", "barFarY", "[I", true)
  | 24 => ("MaskEdgesModel", "mask", "[Z", true)
  | 25 => ("MaskEdgesModel", "sums", "[I", true)
  | 26 => ("MaskEdgesModel", "kept", "I", false)
  | _ => ("MaskEdgesModel", "worsts", "[I", true)
def ty_MaskEdgesModel : Nat → FieldType := fun k => match k with
  | 0 => .int
  | 1 => .array .int
  | 2 => .array .int
  | 3 => .array .int
  | 4 => .array .boolean
  | 5 => .int
  | 6 => .array .int
  | 7 => .array .int
  | 8 => .int
  | 9 => .int
  | 10 => .array .int
  | 11 => .array .int
  | 12 => .array .int
  | 13 => .array .boolean
  | 14 => .array .boolean
  | 15 => .array .boolean
  | 16 => .array .int
  | 17 => .array .int
  | 18 => .array .int
  | 19 => .int
  | 20 => .array .int
  | 21 => .array .int
  | 22 => .array .int
  | 23 => .array .int
  | 24 => .array .boolean
  | 25 => .array .int
  | 26 => .int
  | _ => .array .int
theorem nm_MaskEdgesModel : ∀ a, a < 28 → ∀ b, b < 28 → a ≠ b → (F_MaskEdgesModel a).2.1 ≠ (F_MaskEdgesModel b).2.1 := by decide +kernel
theorem tyk_MaskEdgesModel : ∀ k, k < 28 → parseFieldDescriptor (F_MaskEdgesModel k).2.2.1 = some (ty_MaskEdgesModel k) := by decide +kernel
theorem in_MaskEdgesModel : ∀ w ∈ u_ws "MaskEdgesModel" F_MaskEdgesModel 28, w ∈ xT := List.forall_mem_cons.mpr ⟨xw_475, List.forall_mem_cons.mpr ⟨xw_476, List.forall_mem_cons.mpr ⟨xw_477, List.forall_mem_cons.mpr ⟨xw_478, List.forall_mem_cons.mpr ⟨xw_479, List.forall_mem_cons.mpr ⟨xw_480, List.forall_mem_cons.mpr ⟨xw_481, List.forall_mem_cons.mpr ⟨xw_482, List.forall_mem_cons.mpr ⟨xw_483, List.forall_mem_cons.mpr ⟨xw_484, List.forall_mem_cons.mpr ⟨xw_485, List.forall_mem_cons.mpr ⟨xw_486, List.forall_mem_cons.mpr ⟨xw_487, List.forall_mem_cons.mpr ⟨xw_488, List.forall_mem_cons.mpr ⟨xw_489, List.forall_mem_cons.mpr ⟨xw_490, List.forall_mem_cons.mpr ⟨xw_491, List.forall_mem_cons.mpr ⟨xw_492, List.forall_mem_cons.mpr ⟨xw_493, List.forall_mem_cons.mpr ⟨xw_494, List.forall_mem_cons.mpr ⟨xw_495, List.forall_mem_cons.mpr ⟨xw_496, List.forall_mem_cons.mpr ⟨xw_497, List.forall_mem_cons.mpr ⟨xw_498, List.forall_mem_cons.mpr ⟨xw_499, List.forall_mem_cons.mpr ⟨xw_500, List.forall_mem_cons.mpr ⟨xw_501, List.forall_mem_cons.mpr ⟨xw_502, fun _ h => absurd h List.not_mem_nil⟩⟩⟩⟩⟩⟩⟩⟩⟩⟩⟩⟩⟩⟩⟩⟩⟩⟩⟩⟩⟩⟩⟩⟩⟩⟩⟩⟩
abbrev vwCl : List vw_C := [("MaskEdges$Box", F_Box, 4), ("MaskEdges$CellSet", F_CellSet, 1), ("MaskEdges$Exposure", F_Exposure, 4), ("MaskEdges$Outline", F_Outline, 4), ("MaskEdges$Piece", F_Piece, 12), ("MaskEdges", F_MaskEdges, 14), ("MaskEdgesModel", F_MaskEdgesModel, 28)]
