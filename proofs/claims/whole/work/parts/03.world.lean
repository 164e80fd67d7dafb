/-! The states, and the cells that hold them. -/
abbrev t_Box : Type := Int32 × Int32 × Int32 × Int32
def Box_left (o : t_Box) : Int32 := o.1
def Box_top (o : t_Box) : Int32 := o.2.1
def Box_right (o : t_Box) : Int32 := o.2.2.1
def Box_bottom (o : t_Box) : Int32 := o.2.2.2
def Box_u_left (o : t_Box) (v : Int32) : t_Box := (v, o.2.1, o.2.2.1, o.2.2.2)
def Box_u_top (o : t_Box) (v : Int32) : t_Box := (o.1, v, o.2.2.1, o.2.2.2)
def Box_u_right (o : t_Box) (v : Int32) : t_Box := (o.1, o.2.1, v, o.2.2.2)
def Box_u_bottom (o : t_Box) (v : Int32) : t_Box := (o.1, o.2.1, o.2.2.1, v)
abbrev t_CellSet : Type := (Nat → Int64)
def CellSet_rows (o : t_CellSet) : (Nat → Int64) := o
def CellSet_u_rows (o : t_CellSet) (v : (Nat → Int64)) : t_CellSet := (v)
abbrev t_Exposure : Type := (Nat → Int32) × (Nat → Int32) × Int32 × Int32
def Exposure_weights (o : t_Exposure) : (Nat → Int32) := o.1
def Exposure_widths (o : t_Exposure) : (Nat → Int32) := o.2.1
def Exposure_kernels (o : t_Exposure) : Int32 := o.2.2.1
def Exposure_threshold (o : t_Exposure) : Int32 := o.2.2.2
def Exposure_u_weights (o : t_Exposure) (v : (Nat → Int32)) : t_Exposure := (v, o.2.1, o.2.2.1, o.2.2.2)
def Exposure_u_widths (o : t_Exposure) (v : (Nat → Int32)) : t_Exposure := (o.1, v, o.2.2.1, o.2.2.2)
def Exposure_u_kernels (o : t_Exposure) (v : Int32) : t_Exposure := (o.1, o.2.1, v, o.2.2.2)
def Exposure_u_threshold (o : t_Exposure) (v : Int32) : t_Exposure := (o.1, o.2.1, o.2.2.1, v)
abbrev t_Outline : Type := (Nat → Int32) × (Nat → Int32) × Int32 × Int32
def Outline_xs (o : t_Outline) : (Nat → Int32) := o.1
def Outline_ys (o : t_Outline) : (Nat → Int32) := o.2.1
def Outline_corners (o : t_Outline) : Int32 := o.2.2.1
def Outline_closed (o : t_Outline) : Int32 := o.2.2.2
def Outline_u_xs (o : t_Outline) (v : (Nat → Int32)) : t_Outline := (v, o.2.1, o.2.2.1, o.2.2.2)
def Outline_u_ys (o : t_Outline) (v : (Nat → Int32)) : t_Outline := (o.1, v, o.2.2.1, o.2.2.2)
def Outline_u_corners (o : t_Outline) (v : Int32) : t_Outline := (o.1, o.2.1, v, o.2.2.2)
def Outline_u_closed (o : t_Outline) (v : Int32) : t_Outline := (o.1, o.2.1, o.2.2.1, v)
abbrev t_Piece : Type := Int32 × Int32 × Int32 × Int32 × Int32 × Int32 × Int32 × Int32 × Int32 × Int32 × Int32 × Int32
def Piece_alongX (o : t_Piece) : Int32 := o.1
def Piece_line (o : t_Piece) : Int32 := o.2.1
def Piece_low (o : t_Piece) : Int32 := o.2.2.1
def Piece_high (o : t_Piece) : Int32 := o.2.2.2.1
def Piece_sideLow (o : t_Piece) : Int32 := o.2.2.2.2.1
def Piece_sideHigh (o : t_Piece) : Int32 := o.2.2.2.2.2.1
def Piece_first (o : t_Piece) : Int32 := o.2.2.2.2.2.2.1
def Piece_last (o : t_Piece) : Int32 := o.2.2.2.2.2.2.2.1
def Piece_outward (o : t_Piece) : Int32 := o.2.2.2.2.2.2.2.2.1
def Piece_insideX (o : t_Piece) : Int32 := o.2.2.2.2.2.2.2.2.2.1
def Piece_insideY (o : t_Piece) : Int32 := o.2.2.2.2.2.2.2.2.2.2.1
def Piece_move (o : t_Piece) : Int32 := o.2.2.2.2.2.2.2.2.2.2.2
def Piece_u_alongX (o : t_Piece) (v : Int32) : t_Piece := (v, o.2.1, o.2.2.1, o.2.2.2.1, o.2.2.2.2.1, o.2.2.2.2.2.1, o.2.2.2.2.2.2.1, o.2.2.2.2.2.2.2.1, o.2.2.2.2.2.2.2.2.1, o.2.2.2.2.2.2.2.2.2.1, o.2.2.2.2.2.2.2.2.2.2.1, o.2.2.2.2.2.2.2.2.2.2.2)
def Piece_u_line (o : t_Piece) (v : Int32) : t_Piece := (o.1, v, o.2.2.1, o.2.2.2.1, o.2.2.2.2.1, o.2.2.2.2.2.1, o.2.2.2.2.2.2.1, o.2.2.2.2.2.2.2.1, o.2.2.2.2.2.2.2.2.1, o.2.2.2.2.2.2.2.2.2.1, o.2.2.2.2.2.2.2.2.2.2.1, o.2.2.2.2.2.2.2.2.2.2.2)
def Piece_u_low (o : t_Piece) (v : Int32) : t_Piece := (o.1, o.2.1, v, o.2.2.2.1, o.2.2.2.2.1, o.2.2.2.2.2.1, o.2.2.2.2.2.2.1, o.2.2.2.2.2.2.2.1, o.2.2.2.2.2.2.2.2.1, o.2.2.2.2.2.2.2.2.2.1, o.2.2.2.2.2.2.2.2.2.2.1, o.2.2.2.2.2.2.2.2.2.2.2)
def Piece_u_high (o : t_Piece) (v : Int32) : t_Piece := (o.1, o.2.1, o.2.2.1, v, o.2.2.2.2.1, o.2.2.2.2.2.1, o.2.2.2.2.2.2.1, o.2.2.2.2.2.2.2.1, o.2.2.2.2.2.2.2.2.1, o.2.2.2.2.2.2.2.2.2.1, o.2.2.2.2.2.2.2.2.2.2.1, o.2.2.2.2.2.2.2.2.2.2.2)
def Piece_u_sideLow (o : t_Piece) (v : Int32) : t_Piece := (o.1, o.2.1, o.2.2.1, o.2.2.2.1, v, o.2.2.2.2.2.1, o.2.2.2.2.2.2.1, o.2.2.2.2.2.2.2.1, o.2.2.2.2.2.2.2.2.1, o.2.2.2.2.2.2.2.2.2.1, o.2.2.2.2.2.2.2.2.2.2.1, o.2.2.2.2.2.2.2.2.2.2.2)
def Piece_u_sideHigh (o : t_Piece) (v : Int32) : t_Piece := (o.1, o.2.1, o.2.2.1, o.2.2.2.1, o.2.2.2.2.1, v, o.2.2.2.2.2.2.1, o.2.2.2.2.2.2.2.1, o.2.2.2.2.2.2.2.2.1, o.2.2.2.2.2.2.2.2.2.1, o.2.2.2.2.2.2.2.2.2.2.1, o.2.2.2.2.2.2.2.2.2.2.2)
def Piece_u_first (o : t_Piece) (v : Int32) : t_Piece := (o.1, o.2.1, o.2.2.1, o.2.2.2.1, o.2.2.2.2.1, o.2.2.2.2.2.1, v, o.2.2.2.2.2.2.2.1, o.2.2.2.2.2.2.2.2.1, o.2.2.2.2.2.2.2.2.2.1, o.2.2.2.2.2.2.2.2.2.2.1, o.2.2.2.2.2.2.2.2.2.2.2)
def Piece_u_last (o : t_Piece) (v : Int32) : t_Piece := (o.1, o.2.1, o.2.2.1, o.2.2.2.1, o.2.2.2.2.1, o.2.2.2.2.2.1, o.2.2.2.2.2.2.1, v, o.2.2.2.2.2.2.2.2.1, o.2.2.2.2.2.2.2.2.2.1, o.2.2.2.2.2.2.2.2.2.2.1, o.2.2.2.2.2.2.2.2.2.2.2)
def Piece_u_outward (o : t_Piece) (v : Int32) : t_Piece := (o.1, o.2.1, o.2.2.1, o.2.2.2.1, o.2.2.2.2.1, o.2.2.2.2.2.1, o.2.2.2.2.2.2.1, o.2.2.2.2.2.2.2.1, v, o.2.2.2.2.2.2.2.2.2.1, o.2.2.2.2.2.2.2.2.2.2.1, o.2.2.2.2.2.2.2.2.2.2.2)
def Piece_u_insideX (o : t_Piece) (v : Int32) : t_Piece := (o.1, o.2.1, o.2.2.1, o.2.2.2.1, o.2.2.2.2.1, o.2.2.2.2.2.1, o.2.2.2.2.2.2.1, o.2.2.2.2.2.2.2.1, o.2.2.2.2.2.2.2.2.1, v, o.2.2.2.2.2.2.2.2.2.2.1, o.2.2.2.2.2.2.2.2.2.2.2)
def Piece_u_insideY (o : t_Piece) (v : Int32) : t_Piece := (o.1, o.2.1, o.2.2.1, o.2.2.2.1, o.2.2.2.2.1, o.2.2.2.2.2.1, o.2.2.2.2.2.2.1, o.2.2.2.2.2.2.2.1, o.2.2.2.2.2.2.2.2.1, o.2.2.2.2.2.2.2.2.2.1, v, o.2.2.2.2.2.2.2.2.2.2.2)
def Piece_u_move (o : t_Piece) (v : Int32) : t_Piece := (o.1, o.2.1, o.2.2.1, o.2.2.2.1, o.2.2.2.2.1, o.2.2.2.2.2.1, o.2.2.2.2.2.2.1, o.2.2.2.2.2.2.2.1, o.2.2.2.2.2.2.2.2.1, o.2.2.2.2.2.2.2.2.2.1, o.2.2.2.2.2.2.2.2.2.2.1, v)
abbrev xSt : Type := (Nat → t_Outline) × Int32 × (Nat → t_Piece) × Int32 × (Nat → Int32) × (Nat → t_Box) × Int32 × t_CellSet × t_CellSet × t_CellSet × t_Exposure × (Nat → Int32) × Int32 × t_Box
def X_outlines (o : xSt) : (Nat → t_Outline) := o.1
def X_outlineCount (o : xSt) : Int32 := o.2.1
def X_pieces (o : xSt) : (Nat → t_Piece) := o.2.2.1
def X_pieceCount (o : xSt) : Int32 := o.2.2.2.1
def X_movesBefore (o : xSt) : (Nat → Int32) := o.2.2.2.2.1
def X_bars (o : xSt) : (Nat → t_Box) := o.2.2.2.2.2.1
def X_barCount (o : xSt) : Int32 := o.2.2.2.2.2.2.1
def X_target (o : xSt) : t_CellSet := o.2.2.2.2.2.2.2.1
def X_barCells (o : xSt) : t_CellSet := o.2.2.2.2.2.2.2.2.1
def X_mask (o : xSt) : t_CellSet := o.2.2.2.2.2.2.2.2.2.1
def X_exposure (o : xSt) : t_Exposure := o.2.2.2.2.2.2.2.2.2.2.1
def X_worsts (o : xSt) : (Nat → Int32) := o.2.2.2.2.2.2.2.2.2.2.2.1
def X_worstCount (o : xSt) : Int32 := o.2.2.2.2.2.2.2.2.2.2.2.2.1
def X_box (o : xSt) : t_Box := o.2.2.2.2.2.2.2.2.2.2.2.2.2
def X_u_outlines (o : xSt) (v : (Nat → t_Outline)) : xSt := (v, o.2.1, o.2.2.1, o.2.2.2.1, o.2.2.2.2.1, o.2.2.2.2.2.1, o.2.2.2.2.2.2.1, o.2.2.2.2.2.2.2.1, o.2.2.2.2.2.2.2.2.1, o.2.2.2.2.2.2.2.2.2.1, o.2.2.2.2.2.2.2.2.2.2.1, o.2.2.2.2.2.2.2.2.2.2.2.1, o.2.2.2.2.2.2.2.2.2.2.2.2.1, o.2.2.2.2.2.2.2.2.2.2.2.2.2)
def X_u_outlineCount (o : xSt) (v : Int32) : xSt := (o.1, v, o.2.2.1, o.2.2.2.1, o.2.2.2.2.1, o.2.2.2.2.2.1, o.2.2.2.2.2.2.1, o.2.2.2.2.2.2.2.1, o.2.2.2.2.2.2.2.2.1, o.2.2.2.2.2.2.2.2.2.1, o.2.2.2.2.2.2.2.2.2.2.1, o.2.2.2.2.2.2.2.2.2.2.2.1, o.2.2.2.2.2.2.2.2.2.2.2.2.1, o.2.2.2.2.2.2.2.2.2.2.2.2.2)
def X_u_pieces (o : xSt) (v : (Nat → t_Piece)) : xSt := (o.1, o.2.1, v, o.2.2.2.1, o.2.2.2.2.1, o.2.2.2.2.2.1, o.2.2.2.2.2.2.1, o.2.2.2.2.2.2.2.1, o.2.2.2.2.2.2.2.2.1, o.2.2.2.2.2.2.2.2.2.1, o.2.2.2.2.2.2.2.2.2.2.1, o.2.2.2.2.2.2.2.2.2.2.2.1, o.2.2.2.2.2.2.2.2.2.2.2.2.1, o.2.2.2.2.2.2.2.2.2.2.2.2.2)
def X_u_pieceCount (o : xSt) (v : Int32) : xSt := (o.1, o.2.1, o.2.2.1, v, o.2.2.2.2.1, o.2.2.2.2.2.1, o.2.2.2.2.2.2.1, o.2.2.2.2.2.2.2.1, o.2.2.2.2.2.2.2.2.1, o.2.2.2.2.2.2.2.2.2.1, o.2.2.2.2.2.2.2.2.2.2.1, o.2.2.2.2.2.2.2.2.2.2.2.1, o.2.2.2.2.2.2.2.2.2.2.2.2.1, o.2.2.2.2.2.2.2.2.2.2.2.2.2)
def X_u_movesBefore (o : xSt) (v : (Nat → Int32)) : xSt := (o.1, o.2.1, o.2.2.1, o.2.2.2.1, v, o.2.2.2.2.2.1, o.2.2.2.2.2.2.1, o.2.2.2.2.2.2.2.1, o.2.2.2.2.2.2.2.2.1, o.2.2.2.2.2.2.2.2.2.1, o.2.2.2.2.2.2.2.2.2.2.1, o.2.2.2.2.2.2.2.2.2.2.2.1, o.2.2.2.2.2.2.2.2.2.2.2.2.1, o.2.2.2.2.2.2.2.2.2.2.2.2.2)
def X_u_bars (o : xSt) (v : (Nat → t_Box)) : xSt := (o.1, o.2.1, o.2.2.1, o.2.2.2.1, o.2.2.2.2.1, v, o.2.2.2.2.2.2.1, o.2.2.2.2.2.2.2.1, o.2.2.2.2.2.2.2.2.1, o.2.2.2.2.2.2.2.2.2.1, o.2.2.2.2.2.2.2.2.2.2.1, o.2.2.2.2.2.2.2.2.2.2.2.1, o.2.2.2.2.2.2.2.2.2.2.2.2.1, o.2.2.2.2.2.2.2.2.2.2.2.2.2)
def X_u_barCount (o : xSt) (v : Int32) : xSt := (o.1, o.2.1, o.2.2.1, o.2.2.2.1, o.2.2.2.2.1, o.2.2.2.2.2.1, v, o.2.2.2.2.2.2.2.1, o.2.2.2.2.2.2.2.2.1, o.2.2.2.2.2.2.2.2.2.1, o.2.2.2.2.2.2.2.2.2.2.1, o.2.2.2.2.2.2.2.2.2.2.2.1, o.2.2.2.2.2.2.2.2.2.2.2.2.1, o.2.2.2.2.2.2.2.2.2.2.2.2.2)
def X_u_target (o : xSt) (v : t_CellSet) : xSt := (o.1, o.2.1, o.2.2.1, o.2.2.2.1, o.2.2.2.2.1, o.2.2.2.2.2.1, o.2.2.2.2.2.2.1, v, o.2.2.2.2.2.2.2.2.1, o.2.2.2.2.2.2.2.2.2.1, o.2.2.2.2.2.2.2.2.2.2.1, o.2.2.2.2.2.2.2.2.2.2.2.1, o.2.2.2.2.2.2.2.2.2.2.2.2.1, o.2.2.2.2.2.2.2.2.2.2.2.2.2)
def X_u_barCells (o : xSt) (v : t_CellSet) : xSt := (o.1, o.2.1, o.2.2.1, o.2.2.2.1, o.2.2.2.2.1, o.2.2.2.2.2.1, o.2.2.2.2.2.2.1, o.2.2.2.2.2.2.2.1, v, o.2.2.2.2.2.2.2.2.2.1, o.2.2.2.2.2.2.2.2.2.2.1, o.2.2.2.2.2.2.2.2.2.2.2.1, o.2.2.2.2.2.2.2.2.2.2.2.2.1, o.2.2.2.2.2.2.2.2.2.2.2.2.2)
def X_u_mask (o : xSt) (v : t_CellSet) : xSt := (o.1, o.2.1, o.2.2.1, o.2.2.2.1, o.2.2.2.2.1, o.2.2.2.2.2.1, o.2.2.2.2.2.2.1, o.2.2.2.2.2.2.2.1, o.2.2.2.2.2.2.2.2.1, v, o.2.2.2.2.2.2.2.2.2.2.1, o.2.2.2.2.2.2.2.2.2.2.2.1, o.2.2.2.2.2.2.2.2.2.2.2.2.1, o.2.2.2.2.2.2.2.2.2.2.2.2.2)
def X_u_exposure (o : xSt) (v : t_Exposure) : xSt := (o.1, o.2.1, o.2.2.1, o.2.2.2.1, o.2.2.2.2.1, o.2.2.2.2.2.1, o.2.2.2.2.2.2.1, o.2.2.2.2.2.2.2.1, o.2.2.2.2.2.2.2.2.1, o.2.2.2.2.2.2.2.2.2.1, v, o.2.2.2.2.2.2.2.2.2.2.2.1, o.2.2.2.2.2.2.2.2.2.2.2.2.1, o.2.2.2.2.2.2.2.2.2.2.2.2.2)
def X_u_worsts (o : xSt) (v : (Nat → Int32)) : xSt := (o.1, o.2.1, o.2.2.1, o.2.2.2.1, o.2.2.2.2.1, o.2.2.2.2.2.1, o.2.2.2.2.2.2.1, o.2.2.2.2.2.2.2.1, o.2.2.2.2.2.2.2.2.1, o.2.2.2.2.2.2.2.2.2.1, o.2.2.2.2.2.2.2.2.2.2.1, v, o.2.2.2.2.2.2.2.2.2.2.2.2.1, o.2.2.2.2.2.2.2.2.2.2.2.2.2)
def X_u_worstCount (o : xSt) (v : Int32) : xSt := (o.1, o.2.1, o.2.2.1, o.2.2.2.1, o.2.2.2.2.1, o.2.2.2.2.2.1, o.2.2.2.2.2.2.1, o.2.2.2.2.2.2.2.1, o.2.2.2.2.2.2.2.2.1, o.2.2.2.2.2.2.2.2.2.1, o.2.2.2.2.2.2.2.2.2.2.1, o.2.2.2.2.2.2.2.2.2.2.2.1, v, o.2.2.2.2.2.2.2.2.2.2.2.2.2)
def X_u_box (o : xSt) (v : t_Box) : xSt := (o.1, o.2.1, o.2.2.1, o.2.2.2.1, o.2.2.2.2.1, o.2.2.2.2.2.1, o.2.2.2.2.2.2.1, o.2.2.2.2.2.2.2.1, o.2.2.2.2.2.2.2.2.1, o.2.2.2.2.2.2.2.2.2.1, o.2.2.2.2.2.2.2.2.2.2.1, o.2.2.2.2.2.2.2.2.2.2.2.1, o.2.2.2.2.2.2.2.2.2.2.2.2.1, v)
def w_Box (X : xG) (h : Nat) (o : t_Box) : va_W := [(h, .inr (0, [.int (Box_left o), .int (Box_top o), .int (Box_right o), .int (Box_bottom o)]))]
def w_CellSet (X : xG) (h a0 : Nat) (o : t_CellSet) : va_W := [(h, .inr (1, [.ref a0])), (a0, .inl (X.2 1, 48, .inr (.inl (CellSet_rows o))))]
def w_Exposure (X : xG) (h a0 a1 : Nat) (o : t_Exposure) : va_W := [(h, .inr (2, [.ref a0, .ref a1, .int (Exposure_kernels o), .int (Exposure_threshold o)])), (a0, .inl (X.2 0, 6, .inl (Exposure_weights o))), (a1, .inl (X.2 0, 6, .inl (Exposure_widths o)))]
def w_Outline (X : xG) (h a0 a1 : Nat) (o : t_Outline) : va_W := [(h, .inr (3, [.ref a0, .ref a1, .int (Outline_corners o), .int (Outline_closed o)])), (a0, .inl (X.2 0, 16, .inl (Outline_xs o))), (a1, .inl (X.2 0, 16, .inl (Outline_ys o)))]
def w_Piece (X : xG) (h : Nat) (o : t_Piece) : va_W := [(h, .inr (4, [.int (Piece_alongX o), .int (Piece_line o), .int (Piece_low o), .int (Piece_high o), .int (Piece_sideLow o), .int (Piece_sideHigh o), .int (Piece_first o), .int (Piece_last o), .int (Piece_outward o), .int (Piece_insideX o), .int (Piece_insideY o), .int (Piece_move o)]))]
def xfix (X : xG) (ad : Nat → Nat) (o : xSt) : Nat → va_E
  | 0 => .inr (5, [.ref (ad 1), .int (X_outlineCount o), .ref (ad 2), .int (X_pieceCount o), .ref (ad 3), .ref (ad 4), .int (X_barCount o), .ref (ad 5), .ref (ad 7), .ref (ad 9), .ref (ad 11), .ref (ad 14), .int (X_worstCount o), .ref (ad 15)])
  | 1 => .inl (X.2 2, 4, .inr (.inr (.inr (.inr (fun i => some (ad (16 + i)))))))
  | 2 => .inl (X.2 3, 120, .inr (.inr (.inr (.inr (fun i => some (ad (28 + i)))))))
  | 3 => .inl (X.2 0, 120, .inl (X_movesBefore o))
  | 4 => .inl (X.2 4, 24, .inr (.inr (.inr (.inr (fun i => some (ad (148 + i)))))))
  | 5 => .inr (1, [.ref (ad 6)])
  | 6 => .inl (X.2 1, 48, .inr (.inl (CellSet_rows (X_target o))))
  | 7 => .inr (1, [.ref (ad 8)])
  | 8 => .inl (X.2 1, 48, .inr (.inl (CellSet_rows (X_barCells o))))
  | 9 => .inr (1, [.ref (ad 10)])
  | 10 => .inl (X.2 1, 48, .inr (.inl (CellSet_rows (X_mask o))))
  | 11 => .inr (2, [.ref (ad 12), .ref (ad 13), .int (Exposure_kernels (X_exposure o)), .int (Exposure_threshold (X_exposure o))])
  | 12 => .inl (X.2 0, 6, .inl (Exposure_weights (X_exposure o)))
  | 13 => .inl (X.2 0, 6, .inl (Exposure_widths (X_exposure o)))
  | 14 => .inl (X.2 0, 21, .inl (X_worsts o))
  | 15 => .inr (0, [.int (Box_left (X_box o)), .int (Box_top (X_box o)), .int (Box_right (X_box o)), .int (Box_bottom (X_box o))])
  | _ => .inl (X.2 0, 0, .inl (fun _ => 0))
def xp_outlines0 (X : xG) (ad : Nat → Nat) (o : xSt) (i : Nat) : va_E := .inr (3, [.ref (ad (20 + i)), .ref (ad (24 + i)), .int (Outline_corners (X_outlines o i)), .int (Outline_closed (X_outlines o i))])
def xp_outlines1 (X : xG) (ad : Nat → Nat) (o : xSt) (i : Nat) : va_E := .inl (X.2 0, 16, .inl (Outline_xs (X_outlines o i)))
def xp_outlines2 (X : xG) (ad : Nat → Nat) (o : xSt) (i : Nat) : va_E := .inl (X.2 0, 16, .inl (Outline_ys (X_outlines o i)))
def xp_pieces0 (X : xG) (ad : Nat → Nat) (o : xSt) (i : Nat) : va_E := .inr (4, [.int (Piece_alongX (X_pieces o i)), .int (Piece_line (X_pieces o i)), .int (Piece_low (X_pieces o i)), .int (Piece_high (X_pieces o i)), .int (Piece_sideLow (X_pieces o i)), .int (Piece_sideHigh (X_pieces o i)), .int (Piece_first (X_pieces o i)), .int (Piece_last (X_pieces o i)), .int (Piece_outward (X_pieces o i)), .int (Piece_insideX (X_pieces o i)), .int (Piece_insideY (X_pieces o i)), .int (Piece_move (X_pieces o i))])
def xp_bars0 (X : xG) (ad : Nat → Nat) (o : xSt) (i : Nat) : va_E := .inr (0, [.int (Box_left (X_bars o i)), .int (Box_top (X_bars o i)), .int (Box_right (X_bars o i)), .int (Box_bottom (X_bars o i))])
def xpool (X : xG) (ad : Nat → Nat) (o : xSt) (j : Nat) : va_E := if j < 20 then xp_outlines0 X ad o (j - 16) else if j < 24 then xp_outlines1 X ad o (j - 20) else if j < 28 then xp_outlines2 X ad o (j - 24) else if j < 148 then xp_pieces0 X ad o (j - 28) else if j < 172 then xp_bars0 X ad o (j - 148) else .inl (X.2 0, 0, .inl (fun _ => 0))
def xcell (X : xG) (ad : Nat → Nat) (o : xSt) (j : Nat) : va_E := if j < 16 then xfix X ad o j else xpool X ad o j
def wX (X : xG) (ad : Nat → Nat) (o : xSt) : va_W := (List.range 172).map (fun j => (ad j, xcell X ad o j))
theorem xget {X : xG} {ad : Nat → Nat} {o : xSt} (j : Nat) (hj : j < 172) : (wX X ad o)[j]? = some (ad j, xcell X ad o j) := by
  unfold wX
  rw [List.getElem?_map, List.getElem?_range hj]
  rfl
theorem xlen {X : xG} {ad : Nat → Nat} {o : xSt} : (wX X ad o).length = 172 := by
  unfold wX
  rw [List.length_map, List.length_range]
theorem xset {X : xG} {ad : Nat → Nat} {o o1 : xSt} {j : Nat} {e : va_E} (h1 : xcell X ad o1 j = e) (h2 : ∀ i, i ≠ j → xcell X ad o1 i = xcell X ad o i) : (wX X ad o).set j (ad j, e) = wX X ad o1 := by
  apply List.ext_getElem?
  intro i
  by_cases hi : i < 172
  · by_cases hij : i = j
    · subst hij
      rw [List.getElem?_set_self (by rw [xlen]; exact hi), xget i hi, h1]
    · rw [List.getElem?_set_ne (Ne.symm hij), xget i hi, xget i hi, h2 i hij]
  · rw [List.getElem?_eq_none (by rw [List.length_set, xlen]; omega), List.getElem?_eq_none (by rw [xlen]; omega)]
def okA (ad : Nat → Nat) : Prop := ∀ i j, i < 172 → j < 172 → ad i = ad j → i = j
def xA (ad : Nat → Nat) : Nat → Prop := fun q => ∃ j, j < 172 ∧ q = ad j
theorem xA_in {ad : Nat → Nat} (j : Nat) (h : j < 172) : xA ad (ad j) := ⟨j, h, rfl⟩
theorem x_at {X : xG} {ad : Nat → Nat} {o : xSt} {k : Nat} {q : Nat × va_E} (h : (wX X ad o)[k]? = some q) : k < 172 ∧ q = (ad k, xcell X ad o k) := by
  have hk : k < 172 := by
    have := (List.getElem?_eq_some_iff.mp h).1
    rw [xlen] at this
    exact this
  rw [xget k hk] at h
  exact ⟨hk, (Option.some.inj h).symm⟩
theorem xD {X : xG} {ad : Nat → Nat} (hA : okA ad) {o : xSt} : va_D (xA ad) (wX X ad o) := by
  refine ⟨fun i j p q hi hj h => ?_, fun k q h => ?_⟩
  · obtain ⟨h1, rfl⟩ := x_at hi
    obtain ⟨h2, rfl⟩ := x_at hj
    exact hA i j h1 h2 h
  · obtain ⟨h1, rfl⟩ := x_at h
    exact xA_in k h1
theorem xeq {D : va_G} {cl : List vw_C} {w w1 : va_W} {H : Heap} (e : w = w1) (h : va_P D cl w H) : va_P D cl w1 H := e ▸ h
theorem xg0 {X : xG} {ad : Nat → Nat} {o : xSt} : (wX X ad o)[0]? = some (ad 0, .inr (5, [.ref (ad 1), .int (X_outlineCount o), .ref (ad 2), .int (X_pieceCount o), .ref (ad 3), .ref (ad 4), .int (X_barCount o), .ref (ad 5), .ref (ad 7), .ref (ad 9), .ref (ad 11), .ref (ad 14), .int (X_worstCount o), .ref (ad 15)])) := xget 0 (by decide)
theorem xg1 {X : xG} {ad : Nat → Nat} {o : xSt} : (wX X ad o)[1]? = some (ad 1, .inl (X.2 2, 4, .inr (.inr (.inr (.inr (fun i => some (ad (16 + i)))))))) := xget 1 (by decide)
theorem xg2 {X : xG} {ad : Nat → Nat} {o : xSt} : (wX X ad o)[2]? = some (ad 2, .inl (X.2 3, 120, .inr (.inr (.inr (.inr (fun i => some (ad (28 + i)))))))) := xget 2 (by decide)
theorem xg3 {X : xG} {ad : Nat → Nat} {o : xSt} : (wX X ad o)[3]? = some (ad 3, .inl (X.2 0, 120, .inl (X_movesBefore o))) := xget 3 (by decide)
theorem xg4 {X : xG} {ad : Nat → Nat} {o : xSt} : (wX X ad o)[4]? = some (ad 4, .inl (X.2 4, 24, .inr (.inr (.inr (.inr (fun i => some (ad (148 + i)))))))) := xget 4 (by decide)
theorem xg5 {X : xG} {ad : Nat → Nat} {o : xSt} : (wX X ad o)[5]? = some (ad 5, .inr (1, [.ref (ad 6)])) := xget 5 (by decide)
theorem xg6 {X : xG} {ad : Nat → Nat} {o : xSt} : (wX X ad o)[6]? = some (ad 6, .inl (X.2 1, 48, .inr (.inl (CellSet_rows (X_target o))))) := xget 6 (by decide)
theorem xg7 {X : xG} {ad : Nat → Nat} {o : xSt} : (wX X ad o)[7]? = some (ad 7, .inr (1, [.ref (ad 8)])) := xget 7 (by decide)
theorem xg8 {X : xG} {ad : Nat → Nat} {o : xSt} : (wX X ad o)[8]? = some (ad 8, .inl (X.2 1, 48, .inr (.inl (CellSet_rows (X_barCells o))))) := xget 8 (by decide)
theorem xg9 {X : xG} {ad : Nat → Nat} {o : xSt} : (wX X ad o)[9]? = some (ad 9, .inr (1, [.ref (ad 10)])) := xget 9 (by decide)
theorem xg10 {X : xG} {ad : Nat → Nat} {o : xSt} : (wX X ad o)[10]? = some (ad 10, .inl (X.2 1, 48, .inr (.inl (CellSet_rows (X_mask o))))) := xget 10 (by decide)
theorem xg11 {X : xG} {ad : Nat → Nat} {o : xSt} : (wX X ad o)[11]? = some (ad 11, .inr (2, [.ref (ad 12), .ref (ad 13), .int (Exposure_kernels (X_exposure o)), .int (Exposure_threshold (X_exposure o))])) := xget 11 (by decide)
theorem xg12 {X : xG} {ad : Nat → Nat} {o : xSt} : (wX X ad o)[12]? = some (ad 12, .inl (X.2 0, 6, .inl (Exposure_weights (X_exposure o)))) := xget 12 (by decide)
theorem xg13 {X : xG} {ad : Nat → Nat} {o : xSt} : (wX X ad o)[13]? = some (ad 13, .inl (X.2 0, 6, .inl (Exposure_widths (X_exposure o)))) := xget 13 (by decide)
theorem xg14 {X : xG} {ad : Nat → Nat} {o : xSt} : (wX X ad o)[14]? = some (ad 14, .inl (X.2 0, 21, .inl (X_worsts o))) := xget 14 (by decide)
theorem xg15 {X : xG} {ad : Nat → Nat} {o : xSt} : (wX X ad o)[15]? = some (ad 15, .inr (0, [.int (Box_left (X_box o)), .int (Box_top (X_box o)), .int (Box_right (X_box o)), .int (Box_bottom (X_box o))])) := xget 15 (by decide)
theorem xc_outlines0 {X : xG} {ad : Nat → Nat} {o : xSt} {i : Nat} (hi : i < 4) : xcell X ad o (16 + i) = xp_outlines0 X ad o i := by
  unfold xcell xpool
  rw [if_neg (by omega), if_pos (by omega), Nat.add_sub_cancel_left]
theorem xg_outlines0 {X : xG} {ad : Nat → Nat} {o : xSt} {i : Nat} (hi : i < 4) : (wX X ad o)[16 + i]? = some (ad (16 + i), .inr (3, [.ref (ad (20 + i)), .ref (ad (24 + i)), .int (Outline_corners (X_outlines o i)), .int (Outline_closed (X_outlines o i))])) := by
  rw [xget (16 + i) (by omega), xc_outlines0 hi]
  rfl
theorem xc_outlines1 {X : xG} {ad : Nat → Nat} {o : xSt} {i : Nat} (hi : i < 4) : xcell X ad o (20 + i) = xp_outlines1 X ad o i := by
  unfold xcell xpool
  rw [if_neg (by omega), if_neg (by omega), if_pos (by omega), Nat.add_sub_cancel_left]
theorem xg_outlines1 {X : xG} {ad : Nat → Nat} {o : xSt} {i : Nat} (hi : i < 4) : (wX X ad o)[20 + i]? = some (ad (20 + i), .inl (X.2 0, 16, .inl (Outline_xs (X_outlines o i)))) := by
  rw [xget (20 + i) (by omega), xc_outlines1 hi]
  rfl
theorem xc_outlines2 {X : xG} {ad : Nat → Nat} {o : xSt} {i : Nat} (hi : i < 4) : xcell X ad o (24 + i) = xp_outlines2 X ad o i := by
  unfold xcell xpool
  rw [if_neg (by omega), if_neg (by omega), if_neg (by omega), if_pos (by omega), Nat.add_sub_cancel_left]
theorem xg_outlines2 {X : xG} {ad : Nat → Nat} {o : xSt} {i : Nat} (hi : i < 4) : (wX X ad o)[24 + i]? = some (ad (24 + i), .inl (X.2 0, 16, .inl (Outline_ys (X_outlines o i)))) := by
  rw [xget (24 + i) (by omega), xc_outlines2 hi]
  rfl
theorem xc_pieces0 {X : xG} {ad : Nat → Nat} {o : xSt} {i : Nat} (hi : i < 120) : xcell X ad o (28 + i) = xp_pieces0 X ad o i := by
  unfold xcell xpool
  rw [if_neg (by omega), if_neg (by omega), if_neg (by omega), if_neg (by omega), if_pos (by omega), Nat.add_sub_cancel_left]
theorem xg_pieces0 {X : xG} {ad : Nat → Nat} {o : xSt} {i : Nat} (hi : i < 120) : (wX X ad o)[28 + i]? = some (ad (28 + i), .inr (4, [.int (Piece_alongX (X_pieces o i)), .int (Piece_line (X_pieces o i)), .int (Piece_low (X_pieces o i)), .int (Piece_high (X_pieces o i)), .int (Piece_sideLow (X_pieces o i)), .int (Piece_sideHigh (X_pieces o i)), .int (Piece_first (X_pieces o i)), .int (Piece_last (X_pieces o i)), .int (Piece_outward (X_pieces o i)), .int (Piece_insideX (X_pieces o i)), .int (Piece_insideY (X_pieces o i)), .int (Piece_move (X_pieces o i))])) := by
  rw [xget (28 + i) (by omega), xc_pieces0 hi]
  rfl
theorem xc_bars0 {X : xG} {ad : Nat → Nat} {o : xSt} {i : Nat} (hi : i < 24) : xcell X ad o (148 + i) = xp_bars0 X ad o i := by
  unfold xcell xpool
  rw [if_neg (by omega), if_neg (by omega), if_neg (by omega), if_neg (by omega), if_neg (by omega), if_pos (by omega), Nat.add_sub_cancel_left]
theorem xg_bars0 {X : xG} {ad : Nat → Nat} {o : xSt} {i : Nat} (hi : i < 24) : (wX X ad o)[148 + i]? = some (ad (148 + i), .inr (0, [.int (Box_left (X_bars o i)), .int (Box_top (X_bars o i)), .int (Box_right (X_bars o i)), .int (Box_bottom (X_bars o i))])) := by
  rw [xget (148 + i) (by omega), xc_bars0 hi]
  rfl
theorem agf_outlines {X : xG} {ad : Nat → Nat} {o : xSt} {v : (Nat → t_Outline)} : ∀ j, xfix X ad (X_u_outlines o v) j = xfix X ad o j
  | 0 => rfl
  | 1 => rfl
  | 2 => rfl
  | 3 => rfl
  | 4 => rfl
  | 5 => rfl
  | 6 => rfl
  | 7 => rfl
  | 8 => rfl
  | 9 => rfl
  | 10 => rfl
  | 11 => rfl
  | 12 => rfl
  | 13 => rfl
  | 14 => rfl
  | 15 => rfl
  | _ + 16 => rfl
set_option maxRecDepth 100000 in
theorem ag_outlines {X : xG} {ad : Nat → Nat} {o : xSt} {i : Nat} {v : t_Outline} (j : Nat) (h0 : j ≠ 16 + i) (h1 : j ≠ 20 + i) (h2 : j ≠ 24 + i) : xcell X ad (X_u_outlines o (va_up (X_outlines o) i v)) j = xcell X ad o j := by
  unfold xcell
  by_cases hj : j < 16
  · rw [if_pos hj, if_pos hj, agf_outlines]
  · rw [if_neg hj, if_neg hj]
    unfold xpool
    by_cases c16 : j < 20
    · rw [if_pos c16, if_pos c16]
      unfold xp_outlines0
      rw [show X_outlines (X_u_outlines o (va_up (X_outlines o) i v)) (j - 16) = X_outlines o (j - 16) from va_up_ne _ _ (by omega)]
    rw [if_neg c16, if_neg c16]
    by_cases c20 : j < 24
    · rw [if_pos c20, if_pos c20]
      unfold xp_outlines1
      rw [show X_outlines (X_u_outlines o (va_up (X_outlines o) i v)) (j - 20) = X_outlines o (j - 20) from va_up_ne _ _ (by omega)]
    rw [if_neg c20, if_neg c20]
    by_cases c24 : j < 28
    · rw [if_pos c24, if_pos c24]
      unfold xp_outlines2
      rw [show X_outlines (X_u_outlines o (va_up (X_outlines o) i v)) (j - 24) = X_outlines o (j - 24) from va_up_ne _ _ (by omega)]
    rw [if_neg c24, if_neg c24]
    by_cases c28 : j < 148
    · rw [if_pos c28, if_pos c28]; rfl
    rw [if_neg c28, if_neg c28]
    by_cases c148 : j < 172
    · rw [if_pos c148, if_pos c148]; rfl
    rw [if_neg c148, if_neg c148]
theorem xs_outlines {X : xG} {ad : Nat → Nat} {o : xSt} {i : Nat} (hi : i < 4) {H : Heap} (hP : va_P X.1 vwCl (wX X ad o) H) : va_P X.1 vwCl (w_Outline X (ad (16 + i)) (ad (20 + i)) (ad (24 + i)) (X_outlines o i)) H := xp_cons (hP _ _ (xg_outlines0 hi)) (xp_cons (hP _ _ (xg_outlines1 hi)) (xp_cons (hP _ _ (xg_outlines2 hi)) (xp_nil)))
theorem xu_outlines {X : xG} {ad : Nat → Nat} {o : xSt} {i : Nat} (hi : i < 4) {v : t_Outline} {H H1 : Heap} {L : List Loc} (hA : okA ad) (hP : va_P X.1 vwCl (wX X ad o) H) (hq : va_P X.1 vwCl (w_Outline X (ad (16 + i)) (ad (20 + i)) (ad (24 + i)) v) H1) (hz : xFr (xAl [ad (16 + i), ad (20 + i), ad (24 + i)]) H H1 L) : va_P X.1 vwCl (wX X ad (X_u_outlines o (va_up (X_outlines o) i v))) H1 := by
  refine xback hP hz (fun k q hk => ?_)
  obtain ⟨h1, rfl⟩ := x_at hk
  by_cases e0 : k = 16 + i
  · subst e0
    have e : xp_outlines0 X ad (X_u_outlines o (va_up (X_outlines o) i v)) i = .inr (3, [.ref (ad (20 + i)), .ref (ad (24 + i)), .int (Outline_corners v), .int (Outline_closed v)]) := by
      unfold xp_outlines0
      rw [show X_outlines (X_u_outlines o (va_up (X_outlines o) i v)) i = v from va_up_self _ _ _]
    rw [xc_outlines0 hi, e]
    exact Or.inr (hq 0 _ rfl)
  by_cases e1 : k = 20 + i
  · subst e1
    have e : xp_outlines1 X ad (X_u_outlines o (va_up (X_outlines o) i v)) i = .inl (X.2 0, 16, .inl (Outline_xs v)) := by
      unfold xp_outlines1
      rw [show X_outlines (X_u_outlines o (va_up (X_outlines o) i v)) i = v from va_up_self _ _ _]
    rw [xc_outlines1 hi, e]
    exact Or.inr (hq 1 _ rfl)
  by_cases e2 : k = 24 + i
  · subst e2
    have e : xp_outlines2 X ad (X_u_outlines o (va_up (X_outlines o) i v)) i = .inl (X.2 0, 16, .inl (Outline_ys v)) := by
      unfold xp_outlines2
      rw [show X_outlines (X_u_outlines o (va_up (X_outlines o) i v)) i = v from va_up_self _ _ _]
    rw [xc_outlines2 hi, e]
    exact Or.inr (hq 2 _ rfl)
  refine Or.inl ⟨by rw [xget k h1, ag_outlines k e0 e1 e2], fun h => ?_⟩
  simp only [xAl, List.mem_cons, List.mem_nil_iff, or_false] at h
  rcases h with h | h | h
  · exact e0 (hA _ _ h1 (by omega) h)
  · exact e1 (hA _ _ h1 (by omega) h)
  · exact e2 (hA _ _ h1 (by omega) h)
theorem ag_outlineCount {X : xG} {ad : Nat → Nat} {o : xSt} {v : Int32} (j : Nat) (h : j ≠ 0) : xcell X ad (X_u_outlineCount o v) j = xcell X ad o j := by
  unfold xcell
  by_cases hj : j < 16
  · rw [if_pos hj, if_pos hj]
    match j, h with
    | 0, h => exact absurd rfl h
    | 1, _ => rfl
    | 2, _ => rfl
    | 3, _ => rfl
    | 4, _ => rfl
    | 5, _ => rfl
    | 6, _ => rfl
    | 7, _ => rfl
    | 8, _ => rfl
    | 9, _ => rfl
    | 10, _ => rfl
    | 11, _ => rfl
    | 12, _ => rfl
    | 13, _ => rfl
    | 14, _ => rfl
    | 15, _ => rfl
    | _ + 16, _ => rfl
  · rw [if_neg hj, if_neg hj]
    rfl
theorem xm_outlineCount {X : xG} {ad : Nat → Nat} {o : xSt} {v : Int32} : (wX X ad o).set 0 (ad 0, .inr (5, [.ref (ad 1), .int v, .ref (ad 2), .int (X_pieceCount o), .ref (ad 3), .ref (ad 4), .int (X_barCount o), .ref (ad 5), .ref (ad 7), .ref (ad 9), .ref (ad 11), .ref (ad 14), .int (X_worstCount o), .ref (ad 15)])) = wX X ad (X_u_outlineCount o v) := xset (j := 0) rfl ag_outlineCount
theorem agf_pieces {X : xG} {ad : Nat → Nat} {o : xSt} {v : (Nat → t_Piece)} : ∀ j, xfix X ad (X_u_pieces o v) j = xfix X ad o j
  | 0 => rfl
  | 1 => rfl
  | 2 => rfl
  | 3 => rfl
  | 4 => rfl
  | 5 => rfl
  | 6 => rfl
  | 7 => rfl
  | 8 => rfl
  | 9 => rfl
  | 10 => rfl
  | 11 => rfl
  | 12 => rfl
  | 13 => rfl
  | 14 => rfl
  | 15 => rfl
  | _ + 16 => rfl
set_option maxRecDepth 100000 in
theorem ag_pieces {X : xG} {ad : Nat → Nat} {o : xSt} {i : Nat} {v : t_Piece} (j : Nat) (h0 : j ≠ 28 + i) : xcell X ad (X_u_pieces o (va_up (X_pieces o) i v)) j = xcell X ad o j := by
  unfold xcell
  by_cases hj : j < 16
  · rw [if_pos hj, if_pos hj, agf_pieces]
  · rw [if_neg hj, if_neg hj]
    unfold xpool
    by_cases c16 : j < 20
    · rw [if_pos c16, if_pos c16]; rfl
    rw [if_neg c16, if_neg c16]
    by_cases c20 : j < 24
    · rw [if_pos c20, if_pos c20]; rfl
    rw [if_neg c20, if_neg c20]
    by_cases c24 : j < 28
    · rw [if_pos c24, if_pos c24]; rfl
    rw [if_neg c24, if_neg c24]
    by_cases c28 : j < 148
    · rw [if_pos c28, if_pos c28]
      unfold xp_pieces0
      rw [show X_pieces (X_u_pieces o (va_up (X_pieces o) i v)) (j - 28) = X_pieces o (j - 28) from va_up_ne _ _ (by omega)]
    rw [if_neg c28, if_neg c28]
    by_cases c148 : j < 172
    · rw [if_pos c148, if_pos c148]; rfl
    rw [if_neg c148, if_neg c148]
theorem xs_pieces {X : xG} {ad : Nat → Nat} {o : xSt} {i : Nat} (hi : i < 120) {H : Heap} (hP : va_P X.1 vwCl (wX X ad o) H) : va_P X.1 vwCl (w_Piece X (ad (28 + i)) (X_pieces o i)) H := xp_cons (hP _ _ (xg_pieces0 hi)) (xp_nil)
theorem xu_pieces {X : xG} {ad : Nat → Nat} {o : xSt} {i : Nat} (hi : i < 120) {v : t_Piece} {H H1 : Heap} {L : List Loc} (hA : okA ad) (hP : va_P X.1 vwCl (wX X ad o) H) (hq : va_P X.1 vwCl (w_Piece X (ad (28 + i)) v) H1) (hz : xFr (xAl [ad (28 + i)]) H H1 L) : va_P X.1 vwCl (wX X ad (X_u_pieces o (va_up (X_pieces o) i v))) H1 := by
  refine xback hP hz (fun k q hk => ?_)
  obtain ⟨h1, rfl⟩ := x_at hk
  by_cases e0 : k = 28 + i
  · subst e0
    have e : xp_pieces0 X ad (X_u_pieces o (va_up (X_pieces o) i v)) i = .inr (4, [.int (Piece_alongX v), .int (Piece_line v), .int (Piece_low v), .int (Piece_high v), .int (Piece_sideLow v), .int (Piece_sideHigh v), .int (Piece_first v), .int (Piece_last v), .int (Piece_outward v), .int (Piece_insideX v), .int (Piece_insideY v), .int (Piece_move v)]) := by
      unfold xp_pieces0
      rw [show X_pieces (X_u_pieces o (va_up (X_pieces o) i v)) i = v from va_up_self _ _ _]
    rw [xc_pieces0 hi, e]
    exact Or.inr (hq 0 _ rfl)
  refine Or.inl ⟨by rw [xget k h1, ag_pieces k e0], fun h => ?_⟩
  simp only [xAl, List.mem_cons, List.mem_nil_iff, or_false] at h
  rcases h with h
  · exact e0 (hA _ _ h1 (by omega) h)
theorem xm_pieces_move {X : xG} {ad : Nat → Nat} {o : xSt} {i : Nat} (hi : i < 120) {v : Int32} : (wX X ad o).set (28 + i) (ad (28 + i), .inr (4, [.int (Piece_alongX (X_pieces o i)), .int (Piece_line (X_pieces o i)), .int (Piece_low (X_pieces o i)), .int (Piece_high (X_pieces o i)), .int (Piece_sideLow (X_pieces o i)), .int (Piece_sideHigh (X_pieces o i)), .int (Piece_first (X_pieces o i)), .int (Piece_last (X_pieces o i)), .int (Piece_outward (X_pieces o i)), .int (Piece_insideX (X_pieces o i)), .int (Piece_insideY (X_pieces o i)), .int v])) = wX X ad (X_u_pieces o (va_up (X_pieces o) i (Piece_u_move (X_pieces o i) v))) := xset (j := 28 + i) (by
  rw [xc_pieces0 hi]
  unfold xp_pieces0
  rw [show X_pieces (X_u_pieces o (va_up (X_pieces o) i (Piece_u_move (X_pieces o i) v))) i = (Piece_u_move (X_pieces o i) v) from va_up_self _ _ _]
  rfl) ag_pieces
theorem ag_pieceCount {X : xG} {ad : Nat → Nat} {o : xSt} {v : Int32} (j : Nat) (h : j ≠ 0) : xcell X ad (X_u_pieceCount o v) j = xcell X ad o j := by
  unfold xcell
  by_cases hj : j < 16
  · rw [if_pos hj, if_pos hj]
    match j, h with
    | 0, h => exact absurd rfl h
    | 1, _ => rfl
    | 2, _ => rfl
    | 3, _ => rfl
    | 4, _ => rfl
    | 5, _ => rfl
    | 6, _ => rfl
    | 7, _ => rfl
    | 8, _ => rfl
    | 9, _ => rfl
    | 10, _ => rfl
    | 11, _ => rfl
    | 12, _ => rfl
    | 13, _ => rfl
    | 14, _ => rfl
    | 15, _ => rfl
    | _ + 16, _ => rfl
  · rw [if_neg hj, if_neg hj]
    rfl
theorem xm_pieceCount {X : xG} {ad : Nat → Nat} {o : xSt} {v : Int32} : (wX X ad o).set 0 (ad 0, .inr (5, [.ref (ad 1), .int (X_outlineCount o), .ref (ad 2), .int v, .ref (ad 3), .ref (ad 4), .int (X_barCount o), .ref (ad 5), .ref (ad 7), .ref (ad 9), .ref (ad 11), .ref (ad 14), .int (X_worstCount o), .ref (ad 15)])) = wX X ad (X_u_pieceCount o v) := xset (j := 0) rfl ag_pieceCount
theorem ag_movesBefore {X : xG} {ad : Nat → Nat} {o : xSt} {v : (Nat → Int32)} (j : Nat) (h : j ≠ 3) : xcell X ad (X_u_movesBefore o v) j = xcell X ad o j := by
  unfold xcell
  by_cases hj : j < 16
  · rw [if_pos hj, if_pos hj]
    match j, h with
    | 0, _ => rfl
    | 1, _ => rfl
    | 2, _ => rfl
    | 3, h => exact absurd rfl h
    | 4, _ => rfl
    | 5, _ => rfl
    | 6, _ => rfl
    | 7, _ => rfl
    | 8, _ => rfl
    | 9, _ => rfl
    | 10, _ => rfl
    | 11, _ => rfl
    | 12, _ => rfl
    | 13, _ => rfl
    | 14, _ => rfl
    | 15, _ => rfl
    | _ + 16, _ => rfl
  · rw [if_neg hj, if_neg hj]
    rfl
theorem xm_movesBefore {X : xG} {ad : Nat → Nat} {o : xSt} {v : (Nat → Int32)} : (wX X ad o).set 3 (ad 3, .inl (X.2 0, 120, .inl v)) = wX X ad (X_u_movesBefore o v) := xset (j := 3) rfl ag_movesBefore
theorem agf_bars {X : xG} {ad : Nat → Nat} {o : xSt} {v : (Nat → t_Box)} : ∀ j, xfix X ad (X_u_bars o v) j = xfix X ad o j
  | 0 => rfl
  | 1 => rfl
  | 2 => rfl
  | 3 => rfl
  | 4 => rfl
  | 5 => rfl
  | 6 => rfl
  | 7 => rfl
  | 8 => rfl
  | 9 => rfl
  | 10 => rfl
  | 11 => rfl
  | 12 => rfl
  | 13 => rfl
  | 14 => rfl
  | 15 => rfl
  | _ + 16 => rfl
set_option maxRecDepth 100000 in
theorem ag_bars {X : xG} {ad : Nat → Nat} {o : xSt} {i : Nat} {v : t_Box} (j : Nat) (h0 : j ≠ 148 + i) : xcell X ad (X_u_bars o (va_up (X_bars o) i v)) j = xcell X ad o j := by
  unfold xcell
  by_cases hj : j < 16
  · rw [if_pos hj, if_pos hj, agf_bars]
  · rw [if_neg hj, if_neg hj]
    unfold xpool
    by_cases c16 : j < 20
    · rw [if_pos c16, if_pos c16]; rfl
    rw [if_neg c16, if_neg c16]
    by_cases c20 : j < 24
    · rw [if_pos c20, if_pos c20]; rfl
    rw [if_neg c20, if_neg c20]
    by_cases c24 : j < 28
    · rw [if_pos c24, if_pos c24]; rfl
    rw [if_neg c24, if_neg c24]
    by_cases c28 : j < 148
    · rw [if_pos c28, if_pos c28]; rfl
    rw [if_neg c28, if_neg c28]
    by_cases c148 : j < 172
    · rw [if_pos c148, if_pos c148]
      unfold xp_bars0
      rw [show X_bars (X_u_bars o (va_up (X_bars o) i v)) (j - 148) = X_bars o (j - 148) from va_up_ne _ _ (by omega)]
    rw [if_neg c148, if_neg c148]
theorem xs_bars {X : xG} {ad : Nat → Nat} {o : xSt} {i : Nat} (hi : i < 24) {H : Heap} (hP : va_P X.1 vwCl (wX X ad o) H) : va_P X.1 vwCl (w_Box X (ad (148 + i)) (X_bars o i)) H := xp_cons (hP _ _ (xg_bars0 hi)) (xp_nil)
theorem xu_bars {X : xG} {ad : Nat → Nat} {o : xSt} {i : Nat} (hi : i < 24) {v : t_Box} {H H1 : Heap} {L : List Loc} (hA : okA ad) (hP : va_P X.1 vwCl (wX X ad o) H) (hq : va_P X.1 vwCl (w_Box X (ad (148 + i)) v) H1) (hz : xFr (xAl [ad (148 + i)]) H H1 L) : va_P X.1 vwCl (wX X ad (X_u_bars o (va_up (X_bars o) i v))) H1 := by
  refine xback hP hz (fun k q hk => ?_)
  obtain ⟨h1, rfl⟩ := x_at hk
  by_cases e0 : k = 148 + i
  · subst e0
    have e : xp_bars0 X ad (X_u_bars o (va_up (X_bars o) i v)) i = .inr (0, [.int (Box_left v), .int (Box_top v), .int (Box_right v), .int (Box_bottom v)]) := by
      unfold xp_bars0
      rw [show X_bars (X_u_bars o (va_up (X_bars o) i v)) i = v from va_up_self _ _ _]
    rw [xc_bars0 hi, e]
    exact Or.inr (hq 0 _ rfl)
  refine Or.inl ⟨by rw [xget k h1, ag_bars k e0], fun h => ?_⟩
  simp only [xAl, List.mem_cons, List.mem_nil_iff, or_false] at h
  rcases h with h
  · exact e0 (hA _ _ h1 (by omega) h)
theorem ag_barCount {X : xG} {ad : Nat → Nat} {o : xSt} {v : Int32} (j : Nat) (h : j ≠ 0) : xcell X ad (X_u_barCount o v) j = xcell X ad o j := by
  unfold xcell
  by_cases hj : j < 16
  · rw [if_pos hj, if_pos hj]
    match j, h with
    | 0, h => exact absurd rfl h
    | 1, _ => rfl
    | 2, _ => rfl
    | 3, _ => rfl
    | 4, _ => rfl
    | 5, _ => rfl
    | 6, _ => rfl
    | 7, _ => rfl
    | 8, _ => rfl
    | 9, _ => rfl
    | 10, _ => rfl
    | 11, _ => rfl
    | 12, _ => rfl
    | 13, _ => rfl
    | 14, _ => rfl
    | 15, _ => rfl
    | _ + 16, _ => rfl
  · rw [if_neg hj, if_neg hj]
    rfl
theorem xm_barCount {X : xG} {ad : Nat → Nat} {o : xSt} {v : Int32} : (wX X ad o).set 0 (ad 0, .inr (5, [.ref (ad 1), .int (X_outlineCount o), .ref (ad 2), .int (X_pieceCount o), .ref (ad 3), .ref (ad 4), .int v, .ref (ad 5), .ref (ad 7), .ref (ad 9), .ref (ad 11), .ref (ad 14), .int (X_worstCount o), .ref (ad 15)])) = wX X ad (X_u_barCount o v) := xset (j := 0) rfl ag_barCount
theorem ag_target {X : xG} {ad : Nat → Nat} {o : xSt} {v : t_CellSet} (j : Nat) (h5 : j ≠ 5) (h6 : j ≠ 6) : xcell X ad (X_u_target o v) j = xcell X ad o j := by
  unfold xcell
  by_cases hj : j < 16
  · rw [if_pos hj, if_pos hj]
    match j, h5, h6 with
    | 0, _, _ => rfl
    | 1, _, _ => rfl
    | 2, _, _ => rfl
    | 3, _, _ => rfl
    | 4, _, _ => rfl
    | 5, h, _ => exact absurd rfl h
    | 6, _, h => exact absurd rfl h
    | 7, _, _ => rfl
    | 8, _, _ => rfl
    | 9, _, _ => rfl
    | 10, _, _ => rfl
    | 11, _, _ => rfl
    | 12, _, _ => rfl
    | 13, _, _ => rfl
    | 14, _, _ => rfl
    | 15, _, _ => rfl
    | _ + 16, _, _ => rfl
  · rw [if_neg hj, if_neg hj]
    rfl
theorem xs_target {X : xG} {ad : Nat → Nat} {o : xSt} {H : Heap} (hP : va_P X.1 vwCl (wX X ad o) H) : va_P X.1 vwCl (w_CellSet X (ad 5) (ad 6) (X_target o)) H := xp_cons (hP 5 _ xg5) (xp_cons (hP 6 _ xg6) (xp_nil))
theorem xu_target {X : xG} {ad : Nat → Nat} {o : xSt} {v : t_CellSet} {H H1 : Heap} {L : List Loc} (hA : okA ad) (hP : va_P X.1 vwCl (wX X ad o) H) (hq : va_P X.1 vwCl (w_CellSet X (ad 5) (ad 6) v) H1) (hz : xFr (xAl [ad 5, ad 6]) H H1 L) : va_P X.1 vwCl (wX X ad (X_u_target o v)) H1 := by
  refine xback hP hz (fun k q hk => ?_)
  obtain ⟨h1, rfl⟩ := x_at hk
  by_cases e0 : k = 5
  · subst e0; exact Or.inr (hq 0 _ rfl)
  by_cases e1 : k = 6
  · subst e1; exact Or.inr (hq 1 _ rfl)
  refine Or.inl ⟨by rw [xget k h1, ag_target k e0 e1], fun h => ?_⟩
  simp only [xAl, List.mem_cons, List.mem_nil_iff, or_false] at h
  rcases h with h | h
  · exact e0 (hA _ _ h1 (by omega) h)
  · exact e1 (hA _ _ h1 (by omega) h)
theorem ag_barCells {X : xG} {ad : Nat → Nat} {o : xSt} {v : t_CellSet} (j : Nat) (h7 : j ≠ 7) (h8 : j ≠ 8) : xcell X ad (X_u_barCells o v) j = xcell X ad o j := by
  unfold xcell
  by_cases hj : j < 16
  · rw [if_pos hj, if_pos hj]
    match j, h7, h8 with
    | 0, _, _ => rfl
    | 1, _, _ => rfl
    | 2, _, _ => rfl
    | 3, _, _ => rfl
    | 4, _, _ => rfl
    | 5, _, _ => rfl
    | 6, _, _ => rfl
    | 7, h, _ => exact absurd rfl h
    | 8, _, h => exact absurd rfl h
    | 9, _, _ => rfl
    | 10, _, _ => rfl
    | 11, _, _ => rfl
    | 12, _, _ => rfl
    | 13, _, _ => rfl
    | 14, _, _ => rfl
    | 15, _, _ => rfl
    | _ + 16, _, _ => rfl
  · rw [if_neg hj, if_neg hj]
    rfl
theorem xs_barCells {X : xG} {ad : Nat → Nat} {o : xSt} {H : Heap} (hP : va_P X.1 vwCl (wX X ad o) H) : va_P X.1 vwCl (w_CellSet X (ad 7) (ad 8) (X_barCells o)) H := xp_cons (hP 7 _ xg7) (xp_cons (hP 8 _ xg8) (xp_nil))
theorem xu_barCells {X : xG} {ad : Nat → Nat} {o : xSt} {v : t_CellSet} {H H1 : Heap} {L : List Loc} (hA : okA ad) (hP : va_P X.1 vwCl (wX X ad o) H) (hq : va_P X.1 vwCl (w_CellSet X (ad 7) (ad 8) v) H1) (hz : xFr (xAl [ad 7, ad 8]) H H1 L) : va_P X.1 vwCl (wX X ad (X_u_barCells o v)) H1 := by
  refine xback hP hz (fun k q hk => ?_)
  obtain ⟨h1, rfl⟩ := x_at hk
  by_cases e0 : k = 7
  · subst e0; exact Or.inr (hq 0 _ rfl)
  by_cases e1 : k = 8
  · subst e1; exact Or.inr (hq 1 _ rfl)
  refine Or.inl ⟨by rw [xget k h1, ag_barCells k e0 e1], fun h => ?_⟩
  simp only [xAl, List.mem_cons, List.mem_nil_iff, or_false] at h
  rcases h with h | h
  · exact e0 (hA _ _ h1 (by omega) h)
  · exact e1 (hA _ _ h1 (by omega) h)
theorem ag_mask {X : xG} {ad : Nat → Nat} {o : xSt} {v : t_CellSet} (j : Nat) (h9 : j ≠ 9) (h10 : j ≠ 10) : xcell X ad (X_u_mask o v) j = xcell X ad o j := by
  unfold xcell
  by_cases hj : j < 16
  · rw [if_pos hj, if_pos hj]
    match j, h9, h10 with
    | 0, _, _ => rfl
    | 1, _, _ => rfl
    | 2, _, _ => rfl
    | 3, _, _ => rfl
    | 4, _, _ => rfl
    | 5, _, _ => rfl
    | 6, _, _ => rfl
    | 7, _, _ => rfl
    | 8, _, _ => rfl
    | 9, h, _ => exact absurd rfl h
    | 10, _, h => exact absurd rfl h
    | 11, _, _ => rfl
    | 12, _, _ => rfl
    | 13, _, _ => rfl
    | 14, _, _ => rfl
    | 15, _, _ => rfl
    | _ + 16, _, _ => rfl
  · rw [if_neg hj, if_neg hj]
    rfl
theorem xs_mask {X : xG} {ad : Nat → Nat} {o : xSt} {H : Heap} (hP : va_P X.1 vwCl (wX X ad o) H) : va_P X.1 vwCl (w_CellSet X (ad 9) (ad 10) (X_mask o)) H := xp_cons (hP 9 _ xg9) (xp_cons (hP 10 _ xg10) (xp_nil))
theorem xu_mask {X : xG} {ad : Nat → Nat} {o : xSt} {v : t_CellSet} {H H1 : Heap} {L : List Loc} (hA : okA ad) (hP : va_P X.1 vwCl (wX X ad o) H) (hq : va_P X.1 vwCl (w_CellSet X (ad 9) (ad 10) v) H1) (hz : xFr (xAl [ad 9, ad 10]) H H1 L) : va_P X.1 vwCl (wX X ad (X_u_mask o v)) H1 := by
  refine xback hP hz (fun k q hk => ?_)
  obtain ⟨h1, rfl⟩ := x_at hk
  by_cases e0 : k = 9
  · subst e0; exact Or.inr (hq 0 _ rfl)
  by_cases e1 : k = 10
  · subst e1; exact Or.inr (hq 1 _ rfl)
  refine Or.inl ⟨by rw [xget k h1, ag_mask k e0 e1], fun h => ?_⟩
  simp only [xAl, List.mem_cons, List.mem_nil_iff, or_false] at h
  rcases h with h | h
  · exact e0 (hA _ _ h1 (by omega) h)
  · exact e1 (hA _ _ h1 (by omega) h)
theorem ag_exposure {X : xG} {ad : Nat → Nat} {o : xSt} {v : t_Exposure} (j : Nat) (h11 : j ≠ 11) (h12 : j ≠ 12) (h13 : j ≠ 13) : xcell X ad (X_u_exposure o v) j = xcell X ad o j := by
  unfold xcell
  by_cases hj : j < 16
  · rw [if_pos hj, if_pos hj]
    match j, h11, h12, h13 with
    | 0, _, _, _ => rfl
    | 1, _, _, _ => rfl
    | 2, _, _, _ => rfl
    | 3, _, _, _ => rfl
    | 4, _, _, _ => rfl
    | 5, _, _, _ => rfl
    | 6, _, _, _ => rfl
    | 7, _, _, _ => rfl
    | 8, _, _, _ => rfl
    | 9, _, _, _ => rfl
    | 10, _, _, _ => rfl
    | 11, h, _, _ => exact absurd rfl h
    | 12, _, h, _ => exact absurd rfl h
    | 13, _, _, h => exact absurd rfl h
    | 14, _, _, _ => rfl
    | 15, _, _, _ => rfl
    | _ + 16, _, _, _ => rfl
  · rw [if_neg hj, if_neg hj]
    rfl
theorem xs_exposure {X : xG} {ad : Nat → Nat} {o : xSt} {H : Heap} (hP : va_P X.1 vwCl (wX X ad o) H) : va_P X.1 vwCl (w_Exposure X (ad 11) (ad 12) (ad 13) (X_exposure o)) H := xp_cons (hP 11 _ xg11) (xp_cons (hP 12 _ xg12) (xp_cons (hP 13 _ xg13) (xp_nil)))
theorem xu_exposure {X : xG} {ad : Nat → Nat} {o : xSt} {v : t_Exposure} {H H1 : Heap} {L : List Loc} (hA : okA ad) (hP : va_P X.1 vwCl (wX X ad o) H) (hq : va_P X.1 vwCl (w_Exposure X (ad 11) (ad 12) (ad 13) v) H1) (hz : xFr (xAl [ad 11, ad 12, ad 13]) H H1 L) : va_P X.1 vwCl (wX X ad (X_u_exposure o v)) H1 := by
  refine xback hP hz (fun k q hk => ?_)
  obtain ⟨h1, rfl⟩ := x_at hk
  by_cases e0 : k = 11
  · subst e0; exact Or.inr (hq 0 _ rfl)
  by_cases e1 : k = 12
  · subst e1; exact Or.inr (hq 1 _ rfl)
  by_cases e2 : k = 13
  · subst e2; exact Or.inr (hq 2 _ rfl)
  refine Or.inl ⟨by rw [xget k h1, ag_exposure k e0 e1 e2], fun h => ?_⟩
  simp only [xAl, List.mem_cons, List.mem_nil_iff, or_false] at h
  rcases h with h | h | h
  · exact e0 (hA _ _ h1 (by omega) h)
  · exact e1 (hA _ _ h1 (by omega) h)
  · exact e2 (hA _ _ h1 (by omega) h)
theorem ag_exposure_threshold {X : xG} {ad : Nat → Nat} {o : xSt} {v : Int32} (j : Nat) (h : j ≠ 11) : xcell X ad (X_u_exposure o (Exposure_u_threshold (X_exposure o) v)) j = xcell X ad o j := by
  unfold xcell
  by_cases hj : j < 16
  · rw [if_pos hj, if_pos hj]
    match j, h with
    | 0, _ => rfl
    | 1, _ => rfl
    | 2, _ => rfl
    | 3, _ => rfl
    | 4, _ => rfl
    | 5, _ => rfl
    | 6, _ => rfl
    | 7, _ => rfl
    | 8, _ => rfl
    | 9, _ => rfl
    | 10, _ => rfl
    | 11, h => exact absurd rfl h
    | 12, _ => rfl
    | 13, _ => rfl
    | 14, _ => rfl
    | 15, _ => rfl
    | _ + 16, _ => rfl
  · rw [if_neg hj, if_neg hj]
    rfl
theorem xm_exposure_threshold {X : xG} {ad : Nat → Nat} {o : xSt} {v : Int32} : (wX X ad o).set 11 (ad 11, .inr (2, [.ref (ad 12), .ref (ad 13), .int (Exposure_kernels (X_exposure o)), .int v])) = wX X ad (X_u_exposure o (Exposure_u_threshold (X_exposure o) v)) := xset (j := 11) rfl ag_exposure_threshold
theorem ag_worsts {X : xG} {ad : Nat → Nat} {o : xSt} {v : (Nat → Int32)} (j : Nat) (h : j ≠ 14) : xcell X ad (X_u_worsts o v) j = xcell X ad o j := by
  unfold xcell
  by_cases hj : j < 16
  · rw [if_pos hj, if_pos hj]
    match j, h with
    | 0, _ => rfl
    | 1, _ => rfl
    | 2, _ => rfl
    | 3, _ => rfl
    | 4, _ => rfl
    | 5, _ => rfl
    | 6, _ => rfl
    | 7, _ => rfl
    | 8, _ => rfl
    | 9, _ => rfl
    | 10, _ => rfl
    | 11, _ => rfl
    | 12, _ => rfl
    | 13, _ => rfl
    | 14, h => exact absurd rfl h
    | 15, _ => rfl
    | _ + 16, _ => rfl
  · rw [if_neg hj, if_neg hj]
    rfl
theorem xm_worsts {X : xG} {ad : Nat → Nat} {o : xSt} {v : (Nat → Int32)} : (wX X ad o).set 14 (ad 14, .inl (X.2 0, 21, .inl v)) = wX X ad (X_u_worsts o v) := xset (j := 14) rfl ag_worsts
theorem ag_worstCount {X : xG} {ad : Nat → Nat} {o : xSt} {v : Int32} (j : Nat) (h : j ≠ 0) : xcell X ad (X_u_worstCount o v) j = xcell X ad o j := by
  unfold xcell
  by_cases hj : j < 16
  · rw [if_pos hj, if_pos hj]
    match j, h with
    | 0, h => exact absurd rfl h
    | 1, _ => rfl
    | 2, _ => rfl
    | 3, _ => rfl
    | 4, _ => rfl
    | 5, _ => rfl
    | 6, _ => rfl
    | 7, _ => rfl
    | 8, _ => rfl
    | 9, _ => rfl
    | 10, _ => rfl
    | 11, _ => rfl
    | 12, _ => rfl
    | 13, _ => rfl
    | 14, _ => rfl
    | 15, _ => rfl
    | _ + 16, _ => rfl
  · rw [if_neg hj, if_neg hj]
    rfl
theorem xm_worstCount {X : xG} {ad : Nat → Nat} {o : xSt} {v : Int32} : (wX X ad o).set 0 (ad 0, .inr (5, [.ref (ad 1), .int (X_outlineCount o), .ref (ad 2), .int (X_pieceCount o), .ref (ad 3), .ref (ad 4), .int (X_barCount o), .ref (ad 5), .ref (ad 7), .ref (ad 9), .ref (ad 11), .ref (ad 14), .int v, .ref (ad 15)])) = wX X ad (X_u_worstCount o v) := xset (j := 0) rfl ag_worstCount
theorem ag_box {X : xG} {ad : Nat → Nat} {o : xSt} {v : t_Box} (j : Nat) (h15 : j ≠ 15) : xcell X ad (X_u_box o v) j = xcell X ad o j := by
  unfold xcell
  by_cases hj : j < 16
  · rw [if_pos hj, if_pos hj]
    match j, h15 with
    | 0, _ => rfl
    | 1, _ => rfl
    | 2, _ => rfl
    | 3, _ => rfl
    | 4, _ => rfl
    | 5, _ => rfl
    | 6, _ => rfl
    | 7, _ => rfl
    | 8, _ => rfl
    | 9, _ => rfl
    | 10, _ => rfl
    | 11, _ => rfl
    | 12, _ => rfl
    | 13, _ => rfl
    | 14, _ => rfl
    | 15, h => exact absurd rfl h
    | _ + 16, _ => rfl
  · rw [if_neg hj, if_neg hj]
    rfl
theorem xs_box {X : xG} {ad : Nat → Nat} {o : xSt} {H : Heap} (hP : va_P X.1 vwCl (wX X ad o) H) : va_P X.1 vwCl (w_Box X (ad 15) (X_box o)) H := xp_cons (hP 15 _ xg15) (xp_nil)
theorem xu_box {X : xG} {ad : Nat → Nat} {o : xSt} {v : t_Box} {H H1 : Heap} {L : List Loc} (hA : okA ad) (hP : va_P X.1 vwCl (wX X ad o) H) (hq : va_P X.1 vwCl (w_Box X (ad 15) v) H1) (hz : xFr (xAl [ad 15]) H H1 L) : va_P X.1 vwCl (wX X ad (X_u_box o v)) H1 := by
  refine xback hP hz (fun k q hk => ?_)
  obtain ⟨h1, rfl⟩ := x_at hk
  by_cases e0 : k = 15
  · subst e0; exact Or.inr (hq 0 _ rfl)
  refine Or.inl ⟨by rw [xget k h1, ag_box k e0], fun h => ?_⟩
  simp only [xAl, List.mem_cons, List.mem_nil_iff, or_false] at h
  rcases h with h
  · exact e0 (hA _ _ h1 (by omega) h)
theorem xnd2 {ad : Nat → Nat} (hA : okA ad) {i j : Nat} (hi : i < 172) (hj : j < 172) (h : i ≠ j) : [ad i, ad j].Nodup := by
  simp only [List.nodup_cons, List.mem_cons, List.mem_nil_iff, or_false, not_false_eq_true, List.nodup_nil, and_true]
  exact fun e => h (hA i j hi hj e)
theorem xnd3 {ad : Nat → Nat} (hA : okA ad) {i j k : Nat} (hi : i < 172) (hj : j < 172) (hk : k < 172) (h : i ≠ j) (h2 : i ≠ k) (h3 : j ≠ k) : [ad i, ad j, ad k].Nodup := by
  simp only [List.nodup_cons, List.mem_cons, List.mem_nil_iff, or_false, not_false_eq_true, List.nodup_nil, and_true]
  exact ⟨fun e => e.elim (fun e => h (hA i j hi hj e)) (fun e => h2 (hA i k hi hk e)), fun e => h3 (hA j k hj hk e)⟩
