/-! cut: a piece is laid, in class and reference. -/
def yS1 (y : ySt) (m : Nat) (v : Int32) : ySt := Y_u_isAlongX y (upd (Y_isAlongX y) m v)
theorem yb_polygons_1 (y : ySt) (m : Nat) (v : Int32) : Y_polygons (yS1 y m v) = Y_polygons y := rfl
theorem yb_xs_1 (y : ySt) (m : Nat) (v : Int32) : Y_xs (yS1 y m v) = Y_xs y := rfl
theorem yb_ys_1 (y : ySt) (m : Nat) (v : Int32) : Y_ys (yS1 y m v) = Y_ys y := rfl
theorem yb_sizes_1 (y : ySt) (m : Nat) (v : Int32) : Y_sizes (yS1 y m v) = Y_sizes y := rfl
theorem yb_isClosed_1 (y : ySt) (m : Nat) (v : Int32) : Y_isClosed (yS1 y m v) = Y_isClosed y := rfl
theorem yb_kernels_1 (y : ySt) (m : Nat) (v : Int32) : Y_kernels (yS1 y m v) = Y_kernels y := rfl
theorem yb_weights_1 (y : ySt) (m : Nat) (v : Int32) : Y_weights (yS1 y m v) = Y_weights y := rfl
theorem yb_widths_1 (y : ySt) (m : Nat) (v : Int32) : Y_widths (yS1 y m v) = Y_widths y := rfl
theorem yb_threshold_1 (y : ySt) (m : Nat) (v : Int32) : Y_threshold (yS1 y m v) = Y_threshold y := rfl
theorem yb_pieces_1 (y : ySt) (m : Nat) (v : Int32) : Y_pieces (yS1 y m v) = Y_pieces y := rfl
theorem yb_across_1 (y : ySt) (m : Nat) (v : Int32) : Y_across (yS1 y m v) = Y_across y := rfl
theorem yb_from_1 (y : ySt) (m : Nat) (v : Int32) : Y_from (yS1 y m v) = Y_from y := rfl
theorem yb_to_1 (y : ySt) (m : Nat) (v : Int32) : Y_to (yS1 y m v) = Y_to y := rfl
theorem yb_isAlongX_1 (y : ySt) (m : Nat) (v : Int32) : Y_isAlongX (yS1 y m v) = upd (Y_isAlongX y) m v := rfl
theorem yb_isFirst_1 (y : ySt) (m : Nat) (v : Int32) : Y_isFirst (yS1 y m v) = Y_isFirst y := rfl
theorem yb_isLast_1 (y : ySt) (m : Nat) (v : Int32) : Y_isLast (yS1 y m v) = Y_isLast y := rfl
theorem yb_out_1 (y : ySt) (m : Nat) (v : Int32) : Y_out (yS1 y m v) = Y_out y := rfl
theorem yb_moves_1 (y : ySt) (m : Nat) (v : Int32) : Y_moves (yS1 y m v) = Y_moves y := rfl
theorem yb_before_1 (y : ySt) (m : Nat) (v : Int32) : Y_before (yS1 y m v) = Y_before y := rfl
theorem yb_bars_1 (y : ySt) (m : Nat) (v : Int32) : Y_bars (yS1 y m v) = Y_bars y := rfl
theorem yb_barX_1 (y : ySt) (m : Nat) (v : Int32) : Y_barX (yS1 y m v) = Y_barX y := rfl
theorem yb_barY_1 (y : ySt) (m : Nat) (v : Int32) : Y_barY (yS1 y m v) = Y_barY y := rfl
theorem yb_barFarX_1 (y : ySt) (m : Nat) (v : Int32) : Y_barFarX (yS1 y m v) = Y_barFarX y := rfl
theorem yb_barFarY_1 (y : ySt) (m : Nat) (v : Int32) : Y_barFarY (yS1 y m v) = Y_barFarY y := rfl
theorem yb_mask_1 (y : ySt) (m : Nat) (v : Int32) : Y_mask (yS1 y m v) = Y_mask y := rfl
theorem yb_sums_1 (y : ySt) (m : Nat) (v : Int32) : Y_sums (yS1 y m v) = Y_sums y := rfl
theorem yb_kept_1 (y : ySt) (m : Nat) (v : Int32) : Y_kept (yS1 y m v) = Y_kept y := rfl
theorem yb_worsts_1 (y : ySt) (m : Nat) (v : Int32) : Y_worsts (yS1 y m v) = Y_worsts y := rfl
def yS2 (y : ySt) (m : Nat) (v : Int32) : ySt := Y_u_across y (upd (Y_across y) m v)
theorem yb_polygons_2 (y : ySt) (m : Nat) (v : Int32) : Y_polygons (yS2 y m v) = Y_polygons y := rfl
theorem yb_xs_2 (y : ySt) (m : Nat) (v : Int32) : Y_xs (yS2 y m v) = Y_xs y := rfl
theorem yb_ys_2 (y : ySt) (m : Nat) (v : Int32) : Y_ys (yS2 y m v) = Y_ys y := rfl
theorem yb_sizes_2 (y : ySt) (m : Nat) (v : Int32) : Y_sizes (yS2 y m v) = Y_sizes y := rfl
theorem yb_isClosed_2 (y : ySt) (m : Nat) (v : Int32) : Y_isClosed (yS2 y m v) = Y_isClosed y := rfl
theorem yb_kernels_2 (y : ySt) (m : Nat) (v : Int32) : Y_kernels (yS2 y m v) = Y_kernels y := rfl
theorem yb_weights_2 (y : ySt) (m : Nat) (v : Int32) : Y_weights (yS2 y m v) = Y_weights y := rfl
theorem yb_widths_2 (y : ySt) (m : Nat) (v : Int32) : Y_widths (yS2 y m v) = Y_widths y := rfl
theorem yb_threshold_2 (y : ySt) (m : Nat) (v : Int32) : Y_threshold (yS2 y m v) = Y_threshold y := rfl
theorem yb_pieces_2 (y : ySt) (m : Nat) (v : Int32) : Y_pieces (yS2 y m v) = Y_pieces y := rfl
theorem yb_across_2 (y : ySt) (m : Nat) (v : Int32) : Y_across (yS2 y m v) = upd (Y_across y) m v := rfl
theorem yb_from_2 (y : ySt) (m : Nat) (v : Int32) : Y_from (yS2 y m v) = Y_from y := rfl
theorem yb_to_2 (y : ySt) (m : Nat) (v : Int32) : Y_to (yS2 y m v) = Y_to y := rfl
theorem yb_isAlongX_2 (y : ySt) (m : Nat) (v : Int32) : Y_isAlongX (yS2 y m v) = Y_isAlongX y := rfl
theorem yb_isFirst_2 (y : ySt) (m : Nat) (v : Int32) : Y_isFirst (yS2 y m v) = Y_isFirst y := rfl
theorem yb_isLast_2 (y : ySt) (m : Nat) (v : Int32) : Y_isLast (yS2 y m v) = Y_isLast y := rfl
theorem yb_out_2 (y : ySt) (m : Nat) (v : Int32) : Y_out (yS2 y m v) = Y_out y := rfl
theorem yb_moves_2 (y : ySt) (m : Nat) (v : Int32) : Y_moves (yS2 y m v) = Y_moves y := rfl
theorem yb_before_2 (y : ySt) (m : Nat) (v : Int32) : Y_before (yS2 y m v) = Y_before y := rfl
theorem yb_bars_2 (y : ySt) (m : Nat) (v : Int32) : Y_bars (yS2 y m v) = Y_bars y := rfl
theorem yb_barX_2 (y : ySt) (m : Nat) (v : Int32) : Y_barX (yS2 y m v) = Y_barX y := rfl
theorem yb_barY_2 (y : ySt) (m : Nat) (v : Int32) : Y_barY (yS2 y m v) = Y_barY y := rfl
theorem yb_barFarX_2 (y : ySt) (m : Nat) (v : Int32) : Y_barFarX (yS2 y m v) = Y_barFarX y := rfl
theorem yb_barFarY_2 (y : ySt) (m : Nat) (v : Int32) : Y_barFarY (yS2 y m v) = Y_barFarY y := rfl
theorem yb_mask_2 (y : ySt) (m : Nat) (v : Int32) : Y_mask (yS2 y m v) = Y_mask y := rfl
theorem yb_sums_2 (y : ySt) (m : Nat) (v : Int32) : Y_sums (yS2 y m v) = Y_sums y := rfl
theorem yb_kept_2 (y : ySt) (m : Nat) (v : Int32) : Y_kept (yS2 y m v) = Y_kept y := rfl
theorem yb_worsts_2 (y : ySt) (m : Nat) (v : Int32) : Y_worsts (yS2 y m v) = Y_worsts y := rfl
def yS3 (y : ySt) (m : Nat) (v : Int32) : ySt := Y_u_from y (upd (Y_from y) m v)
theorem yb_polygons_3 (y : ySt) (m : Nat) (v : Int32) : Y_polygons (yS3 y m v) = Y_polygons y := rfl
theorem yb_xs_3 (y : ySt) (m : Nat) (v : Int32) : Y_xs (yS3 y m v) = Y_xs y := rfl
theorem yb_ys_3 (y : ySt) (m : Nat) (v : Int32) : Y_ys (yS3 y m v) = Y_ys y := rfl
theorem yb_sizes_3 (y : ySt) (m : Nat) (v : Int32) : Y_sizes (yS3 y m v) = Y_sizes y := rfl
theorem yb_isClosed_3 (y : ySt) (m : Nat) (v : Int32) : Y_isClosed (yS3 y m v) = Y_isClosed y := rfl
theorem yb_kernels_3 (y : ySt) (m : Nat) (v : Int32) : Y_kernels (yS3 y m v) = Y_kernels y := rfl
theorem yb_weights_3 (y : ySt) (m : Nat) (v : Int32) : Y_weights (yS3 y m v) = Y_weights y := rfl
theorem yb_widths_3 (y : ySt) (m : Nat) (v : Int32) : Y_widths (yS3 y m v) = Y_widths y := rfl
theorem yb_threshold_3 (y : ySt) (m : Nat) (v : Int32) : Y_threshold (yS3 y m v) = Y_threshold y := rfl
theorem yb_pieces_3 (y : ySt) (m : Nat) (v : Int32) : Y_pieces (yS3 y m v) = Y_pieces y := rfl
theorem yb_across_3 (y : ySt) (m : Nat) (v : Int32) : Y_across (yS3 y m v) = Y_across y := rfl
theorem yb_from_3 (y : ySt) (m : Nat) (v : Int32) : Y_from (yS3 y m v) = upd (Y_from y) m v := rfl
theorem yb_to_3 (y : ySt) (m : Nat) (v : Int32) : Y_to (yS3 y m v) = Y_to y := rfl
theorem yb_isAlongX_3 (y : ySt) (m : Nat) (v : Int32) : Y_isAlongX (yS3 y m v) = Y_isAlongX y := rfl
theorem yb_isFirst_3 (y : ySt) (m : Nat) (v : Int32) : Y_isFirst (yS3 y m v) = Y_isFirst y := rfl
theorem yb_isLast_3 (y : ySt) (m : Nat) (v : Int32) : Y_isLast (yS3 y m v) = Y_isLast y := rfl
theorem yb_out_3 (y : ySt) (m : Nat) (v : Int32) : Y_out (yS3 y m v) = Y_out y := rfl
theorem yb_moves_3 (y : ySt) (m : Nat) (v : Int32) : Y_moves (yS3 y m v) = Y_moves y := rfl
theorem yb_before_3 (y : ySt) (m : Nat) (v : Int32) : Y_before (yS3 y m v) = Y_before y := rfl
theorem yb_bars_3 (y : ySt) (m : Nat) (v : Int32) : Y_bars (yS3 y m v) = Y_bars y := rfl
theorem yb_barX_3 (y : ySt) (m : Nat) (v : Int32) : Y_barX (yS3 y m v) = Y_barX y := rfl
theorem yb_barY_3 (y : ySt) (m : Nat) (v : Int32) : Y_barY (yS3 y m v) = Y_barY y := rfl
theorem yb_barFarX_3 (y : ySt) (m : Nat) (v : Int32) : Y_barFarX (yS3 y m v) = Y_barFarX y := rfl
theorem yb_barFarY_3 (y : ySt) (m : Nat) (v : Int32) : Y_barFarY (yS3 y m v) = Y_barFarY y := rfl
theorem yb_mask_3 (y : ySt) (m : Nat) (v : Int32) : Y_mask (yS3 y m v) = Y_mask y := rfl
theorem yb_sums_3 (y : ySt) (m : Nat) (v : Int32) : Y_sums (yS3 y m v) = Y_sums y := rfl
theorem yb_kept_3 (y : ySt) (m : Nat) (v : Int32) : Y_kept (yS3 y m v) = Y_kept y := rfl
theorem yb_worsts_3 (y : ySt) (m : Nat) (v : Int32) : Y_worsts (yS3 y m v) = Y_worsts y := rfl
def yS4 (y : ySt) (m : Nat) (v : Int32) : ySt := Y_u_to y (upd (Y_to y) m v)
theorem yb_polygons_4 (y : ySt) (m : Nat) (v : Int32) : Y_polygons (yS4 y m v) = Y_polygons y := rfl
theorem yb_xs_4 (y : ySt) (m : Nat) (v : Int32) : Y_xs (yS4 y m v) = Y_xs y := rfl
theorem yb_ys_4 (y : ySt) (m : Nat) (v : Int32) : Y_ys (yS4 y m v) = Y_ys y := rfl
theorem yb_sizes_4 (y : ySt) (m : Nat) (v : Int32) : Y_sizes (yS4 y m v) = Y_sizes y := rfl
theorem yb_isClosed_4 (y : ySt) (m : Nat) (v : Int32) : Y_isClosed (yS4 y m v) = Y_isClosed y := rfl
theorem yb_kernels_4 (y : ySt) (m : Nat) (v : Int32) : Y_kernels (yS4 y m v) = Y_kernels y := rfl
theorem yb_weights_4 (y : ySt) (m : Nat) (v : Int32) : Y_weights (yS4 y m v) = Y_weights y := rfl
theorem yb_widths_4 (y : ySt) (m : Nat) (v : Int32) : Y_widths (yS4 y m v) = Y_widths y := rfl
theorem yb_threshold_4 (y : ySt) (m : Nat) (v : Int32) : Y_threshold (yS4 y m v) = Y_threshold y := rfl
theorem yb_pieces_4 (y : ySt) (m : Nat) (v : Int32) : Y_pieces (yS4 y m v) = Y_pieces y := rfl
theorem yb_across_4 (y : ySt) (m : Nat) (v : Int32) : Y_across (yS4 y m v) = Y_across y := rfl
theorem yb_from_4 (y : ySt) (m : Nat) (v : Int32) : Y_from (yS4 y m v) = Y_from y := rfl
theorem yb_to_4 (y : ySt) (m : Nat) (v : Int32) : Y_to (yS4 y m v) = upd (Y_to y) m v := rfl
theorem yb_isAlongX_4 (y : ySt) (m : Nat) (v : Int32) : Y_isAlongX (yS4 y m v) = Y_isAlongX y := rfl
theorem yb_isFirst_4 (y : ySt) (m : Nat) (v : Int32) : Y_isFirst (yS4 y m v) = Y_isFirst y := rfl
theorem yb_isLast_4 (y : ySt) (m : Nat) (v : Int32) : Y_isLast (yS4 y m v) = Y_isLast y := rfl
theorem yb_out_4 (y : ySt) (m : Nat) (v : Int32) : Y_out (yS4 y m v) = Y_out y := rfl
theorem yb_moves_4 (y : ySt) (m : Nat) (v : Int32) : Y_moves (yS4 y m v) = Y_moves y := rfl
theorem yb_before_4 (y : ySt) (m : Nat) (v : Int32) : Y_before (yS4 y m v) = Y_before y := rfl
theorem yb_bars_4 (y : ySt) (m : Nat) (v : Int32) : Y_bars (yS4 y m v) = Y_bars y := rfl
theorem yb_barX_4 (y : ySt) (m : Nat) (v : Int32) : Y_barX (yS4 y m v) = Y_barX y := rfl
theorem yb_barY_4 (y : ySt) (m : Nat) (v : Int32) : Y_barY (yS4 y m v) = Y_barY y := rfl
theorem yb_barFarX_4 (y : ySt) (m : Nat) (v : Int32) : Y_barFarX (yS4 y m v) = Y_barFarX y := rfl
theorem yb_barFarY_4 (y : ySt) (m : Nat) (v : Int32) : Y_barFarY (yS4 y m v) = Y_barFarY y := rfl
theorem yb_mask_4 (y : ySt) (m : Nat) (v : Int32) : Y_mask (yS4 y m v) = Y_mask y := rfl
theorem yb_sums_4 (y : ySt) (m : Nat) (v : Int32) : Y_sums (yS4 y m v) = Y_sums y := rfl
theorem yb_kept_4 (y : ySt) (m : Nat) (v : Int32) : Y_kept (yS4 y m v) = Y_kept y := rfl
theorem yb_worsts_4 (y : ySt) (m : Nat) (v : Int32) : Y_worsts (yS4 y m v) = Y_worsts y := rfl
def yS5 (y : ySt) (m : Nat) (v : Int32) : ySt := Y_u_isFirst y (upd (Y_isFirst y) m v)
theorem yb_polygons_5 (y : ySt) (m : Nat) (v : Int32) : Y_polygons (yS5 y m v) = Y_polygons y := rfl
theorem yb_xs_5 (y : ySt) (m : Nat) (v : Int32) : Y_xs (yS5 y m v) = Y_xs y := rfl
theorem yb_ys_5 (y : ySt) (m : Nat) (v : Int32) : Y_ys (yS5 y m v) = Y_ys y := rfl
theorem yb_sizes_5 (y : ySt) (m : Nat) (v : Int32) : Y_sizes (yS5 y m v) = Y_sizes y := rfl
theorem yb_isClosed_5 (y : ySt) (m : Nat) (v : Int32) : Y_isClosed (yS5 y m v) = Y_isClosed y := rfl
theorem yb_kernels_5 (y : ySt) (m : Nat) (v : Int32) : Y_kernels (yS5 y m v) = Y_kernels y := rfl
theorem yb_weights_5 (y : ySt) (m : Nat) (v : Int32) : Y_weights (yS5 y m v) = Y_weights y := rfl
theorem yb_widths_5 (y : ySt) (m : Nat) (v : Int32) : Y_widths (yS5 y m v) = Y_widths y := rfl
theorem yb_threshold_5 (y : ySt) (m : Nat) (v : Int32) : Y_threshold (yS5 y m v) = Y_threshold y := rfl
theorem yb_pieces_5 (y : ySt) (m : Nat) (v : Int32) : Y_pieces (yS5 y m v) = Y_pieces y := rfl
theorem yb_across_5 (y : ySt) (m : Nat) (v : Int32) : Y_across (yS5 y m v) = Y_across y := rfl
theorem yb_from_5 (y : ySt) (m : Nat) (v : Int32) : Y_from (yS5 y m v) = Y_from y := rfl
theorem yb_to_5 (y : ySt) (m : Nat) (v : Int32) : Y_to (yS5 y m v) = Y_to y := rfl
theorem yb_isAlongX_5 (y : ySt) (m : Nat) (v : Int32) : Y_isAlongX (yS5 y m v) = Y_isAlongX y := rfl
theorem yb_isFirst_5 (y : ySt) (m : Nat) (v : Int32) : Y_isFirst (yS5 y m v) = upd (Y_isFirst y) m v := rfl
theorem yb_isLast_5 (y : ySt) (m : Nat) (v : Int32) : Y_isLast (yS5 y m v) = Y_isLast y := rfl
theorem yb_out_5 (y : ySt) (m : Nat) (v : Int32) : Y_out (yS5 y m v) = Y_out y := rfl
theorem yb_moves_5 (y : ySt) (m : Nat) (v : Int32) : Y_moves (yS5 y m v) = Y_moves y := rfl
theorem yb_before_5 (y : ySt) (m : Nat) (v : Int32) : Y_before (yS5 y m v) = Y_before y := rfl
theorem yb_bars_5 (y : ySt) (m : Nat) (v : Int32) : Y_bars (yS5 y m v) = Y_bars y := rfl
theorem yb_barX_5 (y : ySt) (m : Nat) (v : Int32) : Y_barX (yS5 y m v) = Y_barX y := rfl
theorem yb_barY_5 (y : ySt) (m : Nat) (v : Int32) : Y_barY (yS5 y m v) = Y_barY y := rfl
theorem yb_barFarX_5 (y : ySt) (m : Nat) (v : Int32) : Y_barFarX (yS5 y m v) = Y_barFarX y := rfl
theorem yb_barFarY_5 (y : ySt) (m : Nat) (v : Int32) : Y_barFarY (yS5 y m v) = Y_barFarY y := rfl
theorem yb_mask_5 (y : ySt) (m : Nat) (v : Int32) : Y_mask (yS5 y m v) = Y_mask y := rfl
theorem yb_sums_5 (y : ySt) (m : Nat) (v : Int32) : Y_sums (yS5 y m v) = Y_sums y := rfl
theorem yb_kept_5 (y : ySt) (m : Nat) (v : Int32) : Y_kept (yS5 y m v) = Y_kept y := rfl
theorem yb_worsts_5 (y : ySt) (m : Nat) (v : Int32) : Y_worsts (yS5 y m v) = Y_worsts y := rfl
def yS6 (y : ySt) (m : Nat) (v : Int32) : ySt := Y_u_isLast y (upd (Y_isLast y) m v)
theorem yb_polygons_6 (y : ySt) (m : Nat) (v : Int32) : Y_polygons (yS6 y m v) = Y_polygons y := rfl
theorem yb_xs_6 (y : ySt) (m : Nat) (v : Int32) : Y_xs (yS6 y m v) = Y_xs y := rfl
theorem yb_ys_6 (y : ySt) (m : Nat) (v : Int32) : Y_ys (yS6 y m v) = Y_ys y := rfl
theorem yb_sizes_6 (y : ySt) (m : Nat) (v : Int32) : Y_sizes (yS6 y m v) = Y_sizes y := rfl
theorem yb_isClosed_6 (y : ySt) (m : Nat) (v : Int32) : Y_isClosed (yS6 y m v) = Y_isClosed y := rfl
theorem yb_kernels_6 (y : ySt) (m : Nat) (v : Int32) : Y_kernels (yS6 y m v) = Y_kernels y := rfl
theorem yb_weights_6 (y : ySt) (m : Nat) (v : Int32) : Y_weights (yS6 y m v) = Y_weights y := rfl
theorem yb_widths_6 (y : ySt) (m : Nat) (v : Int32) : Y_widths (yS6 y m v) = Y_widths y := rfl
theorem yb_threshold_6 (y : ySt) (m : Nat) (v : Int32) : Y_threshold (yS6 y m v) = Y_threshold y := rfl
theorem yb_pieces_6 (y : ySt) (m : Nat) (v : Int32) : Y_pieces (yS6 y m v) = Y_pieces y := rfl
theorem yb_across_6 (y : ySt) (m : Nat) (v : Int32) : Y_across (yS6 y m v) = Y_across y := rfl
theorem yb_from_6 (y : ySt) (m : Nat) (v : Int32) : Y_from (yS6 y m v) = Y_from y := rfl
theorem yb_to_6 (y : ySt) (m : Nat) (v : Int32) : Y_to (yS6 y m v) = Y_to y := rfl
theorem yb_isAlongX_6 (y : ySt) (m : Nat) (v : Int32) : Y_isAlongX (yS6 y m v) = Y_isAlongX y := rfl
theorem yb_isFirst_6 (y : ySt) (m : Nat) (v : Int32) : Y_isFirst (yS6 y m v) = Y_isFirst y := rfl
theorem yb_isLast_6 (y : ySt) (m : Nat) (v : Int32) : Y_isLast (yS6 y m v) = upd (Y_isLast y) m v := rfl
theorem yb_out_6 (y : ySt) (m : Nat) (v : Int32) : Y_out (yS6 y m v) = Y_out y := rfl
theorem yb_moves_6 (y : ySt) (m : Nat) (v : Int32) : Y_moves (yS6 y m v) = Y_moves y := rfl
theorem yb_before_6 (y : ySt) (m : Nat) (v : Int32) : Y_before (yS6 y m v) = Y_before y := rfl
theorem yb_bars_6 (y : ySt) (m : Nat) (v : Int32) : Y_bars (yS6 y m v) = Y_bars y := rfl
theorem yb_barX_6 (y : ySt) (m : Nat) (v : Int32) : Y_barX (yS6 y m v) = Y_barX y := rfl
theorem yb_barY_6 (y : ySt) (m : Nat) (v : Int32) : Y_barY (yS6 y m v) = Y_barY y := rfl
theorem yb_barFarX_6 (y : ySt) (m : Nat) (v : Int32) : Y_barFarX (yS6 y m v) = Y_barFarX y := rfl
theorem yb_barFarY_6 (y : ySt) (m : Nat) (v : Int32) : Y_barFarY (yS6 y m v) = Y_barFarY y := rfl
theorem yb_mask_6 (y : ySt) (m : Nat) (v : Int32) : Y_mask (yS6 y m v) = Y_mask y := rfl
theorem yb_sums_6 (y : ySt) (m : Nat) (v : Int32) : Y_sums (yS6 y m v) = Y_sums y := rfl
theorem yb_kept_6 (y : ySt) (m : Nat) (v : Int32) : Y_kept (yS6 y m v) = Y_kept y := rfl
theorem yb_worsts_6 (y : ySt) (m : Nat) (v : Int32) : Y_worsts (yS6 y m v) = Y_worsts y := rfl
def yS7 (y : ySt) (m : Nat) (v : Int32) : ySt := Y_u_moves y (upd (Y_moves y) m v)
theorem yb_polygons_7 (y : ySt) (m : Nat) (v : Int32) : Y_polygons (yS7 y m v) = Y_polygons y := rfl
theorem yb_xs_7 (y : ySt) (m : Nat) (v : Int32) : Y_xs (yS7 y m v) = Y_xs y := rfl
theorem yb_ys_7 (y : ySt) (m : Nat) (v : Int32) : Y_ys (yS7 y m v) = Y_ys y := rfl
theorem yb_sizes_7 (y : ySt) (m : Nat) (v : Int32) : Y_sizes (yS7 y m v) = Y_sizes y := rfl
theorem yb_isClosed_7 (y : ySt) (m : Nat) (v : Int32) : Y_isClosed (yS7 y m v) = Y_isClosed y := rfl
theorem yb_kernels_7 (y : ySt) (m : Nat) (v : Int32) : Y_kernels (yS7 y m v) = Y_kernels y := rfl
theorem yb_weights_7 (y : ySt) (m : Nat) (v : Int32) : Y_weights (yS7 y m v) = Y_weights y := rfl
theorem yb_widths_7 (y : ySt) (m : Nat) (v : Int32) : Y_widths (yS7 y m v) = Y_widths y := rfl
theorem yb_threshold_7 (y : ySt) (m : Nat) (v : Int32) : Y_threshold (yS7 y m v) = Y_threshold y := rfl
theorem yb_pieces_7 (y : ySt) (m : Nat) (v : Int32) : Y_pieces (yS7 y m v) = Y_pieces y := rfl
theorem yb_across_7 (y : ySt) (m : Nat) (v : Int32) : Y_across (yS7 y m v) = Y_across y := rfl
theorem yb_from_7 (y : ySt) (m : Nat) (v : Int32) : Y_from (yS7 y m v) = Y_from y := rfl
theorem yb_to_7 (y : ySt) (m : Nat) (v : Int32) : Y_to (yS7 y m v) = Y_to y := rfl
theorem yb_isAlongX_7 (y : ySt) (m : Nat) (v : Int32) : Y_isAlongX (yS7 y m v) = Y_isAlongX y := rfl
theorem yb_isFirst_7 (y : ySt) (m : Nat) (v : Int32) : Y_isFirst (yS7 y m v) = Y_isFirst y := rfl
theorem yb_isLast_7 (y : ySt) (m : Nat) (v : Int32) : Y_isLast (yS7 y m v) = Y_isLast y := rfl
theorem yb_out_7 (y : ySt) (m : Nat) (v : Int32) : Y_out (yS7 y m v) = Y_out y := rfl
theorem yb_moves_7 (y : ySt) (m : Nat) (v : Int32) : Y_moves (yS7 y m v) = upd (Y_moves y) m v := rfl
theorem yb_before_7 (y : ySt) (m : Nat) (v : Int32) : Y_before (yS7 y m v) = Y_before y := rfl
theorem yb_bars_7 (y : ySt) (m : Nat) (v : Int32) : Y_bars (yS7 y m v) = Y_bars y := rfl
theorem yb_barX_7 (y : ySt) (m : Nat) (v : Int32) : Y_barX (yS7 y m v) = Y_barX y := rfl
theorem yb_barY_7 (y : ySt) (m : Nat) (v : Int32) : Y_barY (yS7 y m v) = Y_barY y := rfl
theorem yb_barFarX_7 (y : ySt) (m : Nat) (v : Int32) : Y_barFarX (yS7 y m v) = Y_barFarX y := rfl
theorem yb_barFarY_7 (y : ySt) (m : Nat) (v : Int32) : Y_barFarY (yS7 y m v) = Y_barFarY y := rfl
theorem yb_mask_7 (y : ySt) (m : Nat) (v : Int32) : Y_mask (yS7 y m v) = Y_mask y := rfl
theorem yb_sums_7 (y : ySt) (m : Nat) (v : Int32) : Y_sums (yS7 y m v) = Y_sums y := rfl
theorem yb_kept_7 (y : ySt) (m : Nat) (v : Int32) : Y_kept (yS7 y m v) = Y_kept y := rfl
theorem yb_worsts_7 (y : ySt) (m : Nat) (v : Int32) : Y_worsts (yS7 y m v) = Y_worsts y := rfl
def yS8 (y : ySt) (m : Nat) (v : Int32) : ySt := Y_u_out y (upd (Y_out y) m v)
theorem yb_polygons_8 (y : ySt) (m : Nat) (v : Int32) : Y_polygons (yS8 y m v) = Y_polygons y := rfl
theorem yb_xs_8 (y : ySt) (m : Nat) (v : Int32) : Y_xs (yS8 y m v) = Y_xs y := rfl
theorem yb_ys_8 (y : ySt) (m : Nat) (v : Int32) : Y_ys (yS8 y m v) = Y_ys y := rfl
theorem yb_sizes_8 (y : ySt) (m : Nat) (v : Int32) : Y_sizes (yS8 y m v) = Y_sizes y := rfl
theorem yb_isClosed_8 (y : ySt) (m : Nat) (v : Int32) : Y_isClosed (yS8 y m v) = Y_isClosed y := rfl
theorem yb_kernels_8 (y : ySt) (m : Nat) (v : Int32) : Y_kernels (yS8 y m v) = Y_kernels y := rfl
theorem yb_weights_8 (y : ySt) (m : Nat) (v : Int32) : Y_weights (yS8 y m v) = Y_weights y := rfl
theorem yb_widths_8 (y : ySt) (m : Nat) (v : Int32) : Y_widths (yS8 y m v) = Y_widths y := rfl
theorem yb_threshold_8 (y : ySt) (m : Nat) (v : Int32) : Y_threshold (yS8 y m v) = Y_threshold y := rfl
theorem yb_pieces_8 (y : ySt) (m : Nat) (v : Int32) : Y_pieces (yS8 y m v) = Y_pieces y := rfl
theorem yb_across_8 (y : ySt) (m : Nat) (v : Int32) : Y_across (yS8 y m v) = Y_across y := rfl
theorem yb_from_8 (y : ySt) (m : Nat) (v : Int32) : Y_from (yS8 y m v) = Y_from y := rfl
theorem yb_to_8 (y : ySt) (m : Nat) (v : Int32) : Y_to (yS8 y m v) = Y_to y := rfl
theorem yb_isAlongX_8 (y : ySt) (m : Nat) (v : Int32) : Y_isAlongX (yS8 y m v) = Y_isAlongX y := rfl
theorem yb_isFirst_8 (y : ySt) (m : Nat) (v : Int32) : Y_isFirst (yS8 y m v) = Y_isFirst y := rfl
theorem yb_isLast_8 (y : ySt) (m : Nat) (v : Int32) : Y_isLast (yS8 y m v) = Y_isLast y := rfl
theorem yb_out_8 (y : ySt) (m : Nat) (v : Int32) : Y_out (yS8 y m v) = upd (Y_out y) m v := rfl
theorem yb_moves_8 (y : ySt) (m : Nat) (v : Int32) : Y_moves (yS8 y m v) = Y_moves y := rfl
theorem yb_before_8 (y : ySt) (m : Nat) (v : Int32) : Y_before (yS8 y m v) = Y_before y := rfl
theorem yb_bars_8 (y : ySt) (m : Nat) (v : Int32) : Y_bars (yS8 y m v) = Y_bars y := rfl
theorem yb_barX_8 (y : ySt) (m : Nat) (v : Int32) : Y_barX (yS8 y m v) = Y_barX y := rfl
theorem yb_barY_8 (y : ySt) (m : Nat) (v : Int32) : Y_barY (yS8 y m v) = Y_barY y := rfl
theorem yb_barFarX_8 (y : ySt) (m : Nat) (v : Int32) : Y_barFarX (yS8 y m v) = Y_barFarX y := rfl
theorem yb_barFarY_8 (y : ySt) (m : Nat) (v : Int32) : Y_barFarY (yS8 y m v) = Y_barFarY y := rfl
theorem yb_mask_8 (y : ySt) (m : Nat) (v : Int32) : Y_mask (yS8 y m v) = Y_mask y := rfl
theorem yb_sums_8 (y : ySt) (m : Nat) (v : Int32) : Y_sums (yS8 y m v) = Y_sums y := rfl
theorem yb_kept_8 (y : ySt) (m : Nat) (v : Int32) : Y_kept (yS8 y m v) = Y_kept y := rfl
theorem yb_worsts_8 (y : ySt) (m : Nat) (v : Int32) : Y_worsts (yS8 y m v) = Y_worsts y := rfl
def yS9 (y : ySt) (m : Nat) : ySt := Y_u_pieces y (nI (m + 1))
theorem yb_polygons_9 (y : ySt) (m : Nat) : Y_polygons (yS9 y m) = Y_polygons y := rfl
theorem yb_xs_9 (y : ySt) (m : Nat) : Y_xs (yS9 y m) = Y_xs y := rfl
theorem yb_ys_9 (y : ySt) (m : Nat) : Y_ys (yS9 y m) = Y_ys y := rfl
theorem yb_sizes_9 (y : ySt) (m : Nat) : Y_sizes (yS9 y m) = Y_sizes y := rfl
theorem yb_isClosed_9 (y : ySt) (m : Nat) : Y_isClosed (yS9 y m) = Y_isClosed y := rfl
theorem yb_kernels_9 (y : ySt) (m : Nat) : Y_kernels (yS9 y m) = Y_kernels y := rfl
theorem yb_weights_9 (y : ySt) (m : Nat) : Y_weights (yS9 y m) = Y_weights y := rfl
theorem yb_widths_9 (y : ySt) (m : Nat) : Y_widths (yS9 y m) = Y_widths y := rfl
theorem yb_threshold_9 (y : ySt) (m : Nat) : Y_threshold (yS9 y m) = Y_threshold y := rfl
theorem yb_pieces_9 (y : ySt) (m : Nat) : Y_pieces (yS9 y m) = nI (m + 1) := rfl
theorem yb_across_9 (y : ySt) (m : Nat) : Y_across (yS9 y m) = Y_across y := rfl
theorem yb_from_9 (y : ySt) (m : Nat) : Y_from (yS9 y m) = Y_from y := rfl
theorem yb_to_9 (y : ySt) (m : Nat) : Y_to (yS9 y m) = Y_to y := rfl
theorem yb_isAlongX_9 (y : ySt) (m : Nat) : Y_isAlongX (yS9 y m) = Y_isAlongX y := rfl
theorem yb_isFirst_9 (y : ySt) (m : Nat) : Y_isFirst (yS9 y m) = Y_isFirst y := rfl
theorem yb_isLast_9 (y : ySt) (m : Nat) : Y_isLast (yS9 y m) = Y_isLast y := rfl
theorem yb_out_9 (y : ySt) (m : Nat) : Y_out (yS9 y m) = Y_out y := rfl
theorem yb_moves_9 (y : ySt) (m : Nat) : Y_moves (yS9 y m) = Y_moves y := rfl
theorem yb_before_9 (y : ySt) (m : Nat) : Y_before (yS9 y m) = Y_before y := rfl
theorem yb_bars_9 (y : ySt) (m : Nat) : Y_bars (yS9 y m) = Y_bars y := rfl
theorem yb_barX_9 (y : ySt) (m : Nat) : Y_barX (yS9 y m) = Y_barX y := rfl
theorem yb_barY_9 (y : ySt) (m : Nat) : Y_barY (yS9 y m) = Y_barY y := rfl
theorem yb_barFarX_9 (y : ySt) (m : Nat) : Y_barFarX (yS9 y m) = Y_barFarX y := rfl
theorem yb_barFarY_9 (y : ySt) (m : Nat) : Y_barFarY (yS9 y m) = Y_barFarY y := rfl
theorem yb_mask_9 (y : ySt) (m : Nat) : Y_mask (yS9 y m) = Y_mask y := rfl
theorem yb_sums_9 (y : ySt) (m : Nat) : Y_sums (yS9 y m) = Y_sums y := rfl
theorem yb_kept_9 (y : ySt) (m : Nat) : Y_kept (yS9 y m) = Y_kept y := rfl
theorem yb_worsts_9 (y : ySt) (m : Nat) : Y_worsts (yS9 y m) = Y_worsts y := rfl
def yPc (y : ySt) (m : Nat) (p : t_Piece) : ySt := yS9 (yS8 (yS7 (yS6 (yS5 (yS4 (yS3 (yS2 (yS1 y m (Piece_alongX p)) m (Piece_line p)) m (Piece_low p)) m (Piece_high p)) m (Piece_first p)) m (Piece_last p)) m (Piece_move p)) m (Piece_outward p)) m
def yG (x : xSt) (y : ySt) (c nk nb nw : Nat) : Prop := relO (X_outlines x) y c ∧ relE (X_exposure x) y nk ∧ rB (X_bars x) (X_barCells x) y nb ∧ rW (X_worsts x) y nw ∧ zS (Y_sums y)
theorem yG_1 {x : xSt} {y : ySt} {c nk nb nw : Nat} (h : yG x y c nk nb nw) (m : Nat) (v : Int32) : yG x (yS1 y m v) c nk nb nw := by
  obtain ⟨h1, h2, h3, h4, h5⟩ := h
  exact ⟨h1, h2, h3, h4, h5⟩
theorem yG_2 {x : xSt} {y : ySt} {c nk nb nw : Nat} (h : yG x y c nk nb nw) (m : Nat) (v : Int32) : yG x (yS2 y m v) c nk nb nw := by
  obtain ⟨h1, h2, h3, h4, h5⟩ := h
  exact ⟨h1, h2, h3, h4, h5⟩
theorem yG_3 {x : xSt} {y : ySt} {c nk nb nw : Nat} (h : yG x y c nk nb nw) (m : Nat) (v : Int32) : yG x (yS3 y m v) c nk nb nw := by
  obtain ⟨h1, h2, h3, h4, h5⟩ := h
  exact ⟨h1, h2, h3, h4, h5⟩
theorem yG_4 {x : xSt} {y : ySt} {c nk nb nw : Nat} (h : yG x y c nk nb nw) (m : Nat) (v : Int32) : yG x (yS4 y m v) c nk nb nw := by
  obtain ⟨h1, h2, h3, h4, h5⟩ := h
  exact ⟨h1, h2, h3, h4, h5⟩
theorem yG_5 {x : xSt} {y : ySt} {c nk nb nw : Nat} (h : yG x y c nk nb nw) (m : Nat) (v : Int32) : yG x (yS5 y m v) c nk nb nw := by
  obtain ⟨h1, h2, h3, h4, h5⟩ := h
  exact ⟨h1, h2, h3, h4, h5⟩
theorem yG_6 {x : xSt} {y : ySt} {c nk nb nw : Nat} (h : yG x y c nk nb nw) (m : Nat) (v : Int32) : yG x (yS6 y m v) c nk nb nw := by
  obtain ⟨h1, h2, h3, h4, h5⟩ := h
  exact ⟨h1, h2, h3, h4, h5⟩
theorem yG_7 {x : xSt} {y : ySt} {c nk nb nw : Nat} (h : yG x y c nk nb nw) (m : Nat) (v : Int32) : yG x (yS7 y m v) c nk nb nw := by
  obtain ⟨h1, h2, h3, h4, h5⟩ := h
  exact ⟨h1, h2, h3, h4, h5⟩
theorem yG_8 {x : xSt} {y : ySt} {c nk nb nw : Nat} (h : yG x y c nk nb nw) (m : Nat) (v : Int32) : yG x (yS8 y m v) c nk nb nw := by
  obtain ⟨h1, h2, h3, h4, h5⟩ := h
  exact ⟨h1, h2, h3, h4, h5⟩
theorem yG_9 {x : xSt} {y : ySt} {c nk nb nw : Nat} (h : yG x y c nk nb nw) (m : Nat) : yG x (yS9 y m) c nk nb nw := by
  obtain ⟨h1, h2, h3, h4, h5⟩ := h
  exact ⟨h1, h2, h3, h4, h5⟩
theorem yG_pc {x : xSt} {y : ySt} {c nk nb nw : Nat} (h : yG x y c nk nb nw) (m : Nat) (p : t_Piece) : yG x (yPc y m p) c nk nb nw := yG_9 (yG_8 (yG_7 (yG_6 (yG_5 (yG_4 (yG_3 (yG_2 (yG_1 h m _) m _) m _) m _) m _) m _) m _) m _) m
theorem yp_isAlongX (y : ySt) (m : Nat) (p : t_Piece) : Y_isAlongX (yPc y m p) = upd (Y_isAlongX y) m (Piece_alongX p) := by unfold yPc; simp only [yb_isAlongX_1, yb_isAlongX_2, yb_isAlongX_3, yb_isAlongX_4, yb_isAlongX_5, yb_isAlongX_6, yb_isAlongX_7, yb_isAlongX_8, yb_isAlongX_9]
theorem yp_across (y : ySt) (m : Nat) (p : t_Piece) : Y_across (yPc y m p) = upd (Y_across y) m (Piece_line p) := by unfold yPc; simp only [yb_across_1, yb_across_2, yb_across_3, yb_across_4, yb_across_5, yb_across_6, yb_across_7, yb_across_8, yb_across_9]
theorem yp_from (y : ySt) (m : Nat) (p : t_Piece) : Y_from (yPc y m p) = upd (Y_from y) m (Piece_low p) := by unfold yPc; simp only [yb_from_1, yb_from_2, yb_from_3, yb_from_4, yb_from_5, yb_from_6, yb_from_7, yb_from_8, yb_from_9]
theorem yp_to (y : ySt) (m : Nat) (p : t_Piece) : Y_to (yPc y m p) = upd (Y_to y) m (Piece_high p) := by unfold yPc; simp only [yb_to_1, yb_to_2, yb_to_3, yb_to_4, yb_to_5, yb_to_6, yb_to_7, yb_to_8, yb_to_9]
theorem yp_isFirst (y : ySt) (m : Nat) (p : t_Piece) : Y_isFirst (yPc y m p) = upd (Y_isFirst y) m (Piece_first p) := by unfold yPc; simp only [yb_isFirst_1, yb_isFirst_2, yb_isFirst_3, yb_isFirst_4, yb_isFirst_5, yb_isFirst_6, yb_isFirst_7, yb_isFirst_8, yb_isFirst_9]
theorem yp_isLast (y : ySt) (m : Nat) (p : t_Piece) : Y_isLast (yPc y m p) = upd (Y_isLast y) m (Piece_last p) := by unfold yPc; simp only [yb_isLast_1, yb_isLast_2, yb_isLast_3, yb_isLast_4, yb_isLast_5, yb_isLast_6, yb_isLast_7, yb_isLast_8, yb_isLast_9]
theorem yp_out (y : ySt) (m : Nat) (p : t_Piece) : Y_out (yPc y m p) = upd (Y_out y) m (Piece_outward p) := by unfold yPc; simp only [yb_out_1, yb_out_2, yb_out_3, yb_out_4, yb_out_5, yb_out_6, yb_out_7, yb_out_8, yb_out_9]
theorem yp_moves (y : ySt) (m : Nat) (p : t_Piece) : Y_moves (yPc y m p) = upd (Y_moves y) m (Piece_move p) := by unfold yPc; simp only [yb_moves_1, yb_moves_2, yb_moves_3, yb_moves_4, yb_moves_5, yb_moves_6, yb_moves_7, yb_moves_8, yb_moves_9]
theorem yp_pieces (y : ySt) (m : Nat) (p : t_Piece) : Y_pieces (yPc y m p) = nI (m + 1) := by unfold yPc; rw [yb_pieces_9]
theorem relQ_pc {y : ySt} {m : Nat} {p : t_Piece} : relQ p (yPc y m p) m := by
  unfold relQ
  rw [yp_isAlongX, yp_across, yp_from, yp_to, yp_isFirst, yp_isLast, yp_out, yp_moves]
  unfold upd
  exact ⟨if_pos rfl, if_pos rfl, if_pos rfl, if_pos rfl, if_pos rfl, if_pos rfl, if_pos rfl, if_pos rfl⟩
theorem relQ_old {y : ySt} {m k : Nat} {p q : t_Piece} (hk : k ≠ m) (h : relQ q y k) : relQ q (yPc y m p) k := by
  obtain ⟨r1, r2, r3, r4, r5, r6, r7, r8⟩ := h
  unfold relQ
  rw [yp_isAlongX, yp_across, yp_from, yp_to, yp_isFirst, yp_isLast, yp_out, yp_moves]
  unfold upd
  rw [if_neg hk, if_neg hk, if_neg hk, if_neg hk, if_neg hk, if_neg hk, if_neg hk, if_neg hk]
  exact ⟨r1, r2, r3, r4, r5, r6, r7, r8⟩
theorem v_face {o : t_Outline} (h : okO o) {k i n : Nat} (q : t_Piece) (e1 : Piece_alongX q = b2 (aX o k)) (e2 : Piece_line q = lnI o k) (e3 : Piece_low q = loI o k i n) (e4 : Piece_high q = hiI o k i n) : f_Piece_faceOutward o q = some (Piece_u_insideY (Piece_u_insideX (Piece_u_outward q (ouI o k i n)) (if aX o k = true then mdI o k i n else acrI o k i n)) (if aX o k = true then acrI o k i n else mdI o k i n)) := by
  have em : (Piece_low q + Piece_high q - 1) / 2 = mdI o k i n := by rw [e3, e4]; rfl
  have k101 : ∀ v : Int32, f_Piece_faceOutward_101 o (mdI o k i n) (b2 (inW o k i n (-1))) (Piece_u_outward q v) = some (Piece_u_insideY (Piece_u_insideX (Piece_u_outward q v) (if aX o k = true then mdI o k i n else acrI o k i n)) (if aX o k = true then acrI o k i n else mdI o k i n)) := by
    intro v
    unfold f_Piece_faceOutward_101 f_Piece_faceOutward_118 f_Piece_faceOutward_134 f_Piece_faceOutward_151
    have a1 : Piece_alongX (Piece_u_outward q v) = b2 (aX o k) := e1
    have a2 : Piece_line (Piece_u_outward q v) = lnI o k := e2
    have a3 : ∀ w, Piece_alongX (Piece_u_insideX (Piece_u_outward q v) w) = b2 (aX o k) := fun _ => e1
    rw [a1, a2]
    simp only [a3, b2_if]
    unfold acrI
    cases inW o k i n (-1) <;> cases aX o k <;> rfl
  have k75 : f_Piece_faceOutward_75 o (mdI o k i n) (b2 (inW o k i n (-1))) (b2 (inW o k i n 0)) q = some (Piece_u_insideY (Piece_u_insideX (Piece_u_outward q (ouI o k i n)) (if aX o k = true then mdI o k i n else acrI o k i n)) (if aX o k = true then acrI o k i n else mdI o k i n)) := by
    unfold f_Piece_faceOutward_75 f_Piece_faceOutward_98
    have uu : ∀ a b : Int32, Piece_u_outward (Piece_u_outward q a) b = Piece_u_outward q b := fun _ _ => rfl
    rw [uu, uu, k101, k101, k101, b2_if]
    unfold ouI
    by_cases e : inW o k i n (-1) = inW o k i n 0
    · rw [if_pos (b2_inj.mpr e), if_pos e]
    · rw [if_neg (fun w => e (b2_inj.mp w)), if_neg e]
      split <;> rfl
  have sm : Piece_line q - 1 = lnI o k + -1 := by rw [e2, Int32.sub_eq_add_neg]
  have s0 : Piece_line q = lnI o k + 0 := by rw [e2, add0]
  unfold f_Piece_faceOutward f_Piece_faceOutward_46
  rw [e1, em, sm, v_holds h, Option.bind_some, v_holds h, Option.bind_some, s0, v_holds h, Option.bind_some, v_holds h, Option.bind_some]
  simp only [b2_if]
  unfold inW at k75
  cases q : aX o k with
  | true => rw [q] at k75; rw [if_pos rfl] at k75 ⊢; rw [if_pos rfl] at k75 ⊢; exact k75
  | false => rw [q] at k75; rw [if_neg (show ¬ false = true by decide)] at k75 ⊢; rw [if_neg (show ¬ false = true by decide)] at k75 ⊢; exact k75
theorem v_lieOn {o : t_Outline} (h : okO o) (hc : Outline_closed o = 1) {k i n : Nat} (hk : k < on o) (hn : 1 ≤ n) (hd : n ≤ lenN o k) (hi : i < n) (p : t_Piece) : f_Piece_lieOn o (nI k) (nI i) (nI n) p = some (pcQ o k i n) := by
  obtain ⟨c1', c2', l1, l2, -⟩ := side_ok h hc hk
  obtain ⟨e1, e2, e3⟩ := v_sides h hc hk
  have hn16 := h.2.1
  have gk : xin (nI k) 16 = true := xin_n (by omega) (by omega)
  have ck : (nI k).toNatClampNeg = k := nI_clamp (by omega)
  have p1 := v_pointAt h hc hk hn (by omega) (i := i) (by omega)
  have p2 := v_pointAt h hc hk hn (by omega) (i := i + 1) (by omega)
  obtain ⟨a1, a2, a3, a4, a5⟩ := loI_ok h hc hk hn hd hi
  have k98 : ∀ (la : Bool) (q : t_Piece), Piece_alongX q = b2 (aX o k) → Piece_line q = lnI o k → f_Piece_lieOn_98 o (nI i) (nI n) (stI o k) (enI o k) (b2 la) q = some (Piece_u_insideY (Piece_u_insideX (Piece_u_outward (Piece_u_high (Piece_u_low (Piece_u_move (Piece_u_last q (b2 la)) 0) (loI o k i n)) (hiI o k i n)) (ouI o k i n)) (if aX o k = true then mdI o k i n else acrI o k i n)) (if aX o k = true then acrI o k i n else mdI o k i n)) := by
    intro la q q1 q2
    unfold f_Piece_lieOn_98
    rw [if_pos (b2_z _), p1, Option.bind_some, nI_1, p2, Option.bind_some]
    have elo : (if (if upS o k = true then stI o k + nI (lenN o k * (i + 1) / n) else stI o k - nI (lenN o k * (i + 1) / n)) < (if upS o k = true then stI o k + nI (lenN o k * i / n) else stI o k - nI (lenN o k * i / n)) then (if upS o k = true then stI o k + nI (lenN o k * (i + 1) / n) else stI o k - nI (lenN o k * (i + 1) / n)) else (if upS o k = true then stI o k + nI (lenN o k * i / n) else stI o k - nI (lenN o k * i / n))) = loI o k i n := by
      unfold loI hiI at a2
      unfold loI
      cases u : upS o k with
      | true =>
        rw [u, if_pos rfl, if_pos rfl] at a2
        simp only [if_true]
        rw [if_neg (by rw [i_lt]; omega)]
      | false =>
        rw [u, if_neg (by decide), if_neg (by decide)] at a2
        simp only [Bool.false_eq_true, if_false]
        rw [if_pos (by rw [i_lt]; omega)]
    have ehi : (if (if upS o k = true then stI o k + nI (lenN o k * i / n) else stI o k - nI (lenN o k * i / n)) < (if upS o k = true then stI o k + nI (lenN o k * (i + 1) / n) else stI o k - nI (lenN o k * (i + 1) / n)) then (if upS o k = true then stI o k + nI (lenN o k * (i + 1) / n) else stI o k - nI (lenN o k * (i + 1) / n)) else (if upS o k = true then stI o k + nI (lenN o k * i / n) else stI o k - nI (lenN o k * i / n))) = hiI o k i n := by
      unfold loI hiI at a2
      unfold hiI
      cases u : upS o k with
      | true =>
        rw [u, if_pos rfl, if_pos rfl] at a2
        simp only [if_true]
        rw [if_pos (by rw [i_lt]; omega)]
      | false =>
        rw [u, if_neg (by decide), if_neg (by decide)] at a2
        simp only [Bool.false_eq_true, if_false]
        rw [if_neg (by rw [i_lt]; omega)]
    rw [elo, ehi, v_face h (k := k) (i := i) (n := n) (Piece_u_high (Piece_u_low (Piece_u_move (Piece_u_last q (b2 la)) 0) (loI o k i n)) (hiI o k i n)) q1 q2 rfl rfl, Option.bind_some]
  have k46 : ∀ q : t_Piece, Piece_alongX q = b2 (aX o k) → f_Piece_lieOn_46 o (nI i) (nI n) (stI o k) (enI o k) (lnI o k) q = some (pcQ o k i n) := by
    intro q q1
    unfold f_Piece_lieOn_46 f_Piece_lieOn_81
    have z1 : (if nI i = 0 then (1 : Int32) else 0) = b2 (decide (i = 0)) := by
      by_cases e : i = 0
      · rw [if_pos (by rw [e]; rfl), decide_eq_true e]; rfl
      · rw [if_neg (n_ne0 (by omega) (by omega)), decide_eq_false e]; rfl
    have z2 : ∀ {α : Type} (A B : α), (if nI i = nI n - 1 then A else B) = (if i + 1 = n then A else B) := by
      intro α A B
      rw [n_sub hn 1 rfl]
      by_cases e : i + 1 = n
      · rw [if_pos e, if_pos (by rw [show n - 1 = i from by omega])]
      · rw [if_neg e, if_neg (by rw [i_eq, i_n (by omega), i_n (by omega)]; omega)]
    have t1 := fun (q : t_Piece) => k98 true q
    have t0 := fun (q : t_Piece) => k98 false q
    rw [b2_t] at t1
    rw [b2_f] at t0
    simp only [z2]
    have fin : ∀ s : Int32, s = b2 (decide (i = 0)) → (if xz s = true then (if i + 1 = n then f_Piece_lieOn_98 o (nI i) (nI n) (stI o k) (enI o k) 1 (Piece_u_first (Piece_u_sideHigh (Piece_u_sideLow (Piece_u_line q (lnI o k)) (if enI o k < stI o k then enI o k else stI o k)) (if stI o k < enI o k then enI o k else stI o k)) s) else f_Piece_lieOn_98 o (nI i) (nI n) (stI o k) (enI o k) 0 (Piece_u_first (Piece_u_sideHigh (Piece_u_sideLow (Piece_u_line q (lnI o k)) (if enI o k < stI o k then enI o k else stI o k)) (if stI o k < enI o k then enI o k else stI o k)) s)) else none) = some (pcQ o k i n) := by
      intro s hs
      rw [hs, if_pos (b2_z _)]
      have ps : ∀ lb : Bool, Piece_u_insideY (Piece_u_insideX (Piece_u_outward (Piece_u_high (Piece_u_low (Piece_u_move (Piece_u_last (Piece_u_first (Piece_u_sideHigh (Piece_u_sideLow (Piece_u_line q (lnI o k)) (if enI o k < stI o k then enI o k else stI o k)) (if stI o k < enI o k then enI o k else stI o k)) (b2 (decide (i = 0)))) (b2 lb)) 0) (loI o k i n)) (hiI o k i n)) (ouI o k i n)) (if aX o k = true then mdI o k i n else acrI o k i n)) (if aX o k = true then acrI o k i n else mdI o k i n) = (Piece_alongX q, lnI o k, loI o k i n, hiI o k i n, (if enI o k < stI o k then enI o k else stI o k), (if stI o k < enI o k then enI o k else stI o k), b2 (decide (i = 0)), b2 lb, ouI o k i n, (if aX o k = true then mdI o k i n else acrI o k i n), (if aX o k = true then acrI o k i n else mdI o k i n), 0) := fun _ => rfl
      by_cases e : i + 1 = n
      · rw [if_pos e, t1 _ (by exact q1) rfl]
        refine Eq.trans (congrArg some (ps true)) ?_
        rw [q1]
        unfold pcQ
        rw [decide_eq_true e]
      · rw [if_neg e, t0 _ (by exact q1) rfl]
        refine Eq.trans (congrArg some (ps false)) ?_
        rw [q1]
        unfold pcQ
        rw [decide_eq_false e]
    by_cases e : nI i = 0
    · rw [if_pos e]
      rw [if_pos e] at z1
      exact fin 1 z1
    · rw [if_neg e]
      rw [if_neg e] at z1
      exact fin 0 z1
  unfold f_Piece_lieOn
  rw [e2, Option.bind_some, e3, Option.bind_some, e1, Option.bind_some, if_pos (b2_z _), if_pos gk, if_pos gk, ck]
  show (if b2 (aX o k) = 0 then _ else _) = _
  rw [b2_if]
  have := k46 (Piece_u_alongX p (b2 (aX o k))) rfl
  unfold lnI at this
  cases q : aX o k with
  | true => rw [q, if_pos rfl] at this; rw [if_pos rfl]; exact this
  | false => rw [q, if_neg (show ¬ false = true by decide)] at this; rw [if_neg (show ¬ false = true by decide)]; exact this
