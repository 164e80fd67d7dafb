/-! One accessor behind one update. -/
theorem ya_polygons_bars (y : ySt) (v : Int32) : Y_polygons (Y_u_bars y v) = Y_polygons y := rfl
theorem ya_xs_bars (y : ySt) (v : Int32) : Y_xs (Y_u_bars y v) = Y_xs y := rfl
theorem ya_ys_bars (y : ySt) (v : Int32) : Y_ys (Y_u_bars y v) = Y_ys y := rfl
theorem ya_sizes_bars (y : ySt) (v : Int32) : Y_sizes (Y_u_bars y v) = Y_sizes y := rfl
theorem ya_isClosed_bars (y : ySt) (v : Int32) : Y_isClosed (Y_u_bars y v) = Y_isClosed y := rfl
theorem ya_kernels_bars (y : ySt) (v : Int32) : Y_kernels (Y_u_bars y v) = Y_kernels y := rfl
theorem ya_weights_bars (y : ySt) (v : Int32) : Y_weights (Y_u_bars y v) = Y_weights y := rfl
theorem ya_widths_bars (y : ySt) (v : Int32) : Y_widths (Y_u_bars y v) = Y_widths y := rfl
theorem ya_threshold_bars (y : ySt) (v : Int32) : Y_threshold (Y_u_bars y v) = Y_threshold y := rfl
theorem ya_pieces_bars (y : ySt) (v : Int32) : Y_pieces (Y_u_bars y v) = Y_pieces y := rfl
theorem ya_across_bars (y : ySt) (v : Int32) : Y_across (Y_u_bars y v) = Y_across y := rfl
theorem ya_from_bars (y : ySt) (v : Int32) : Y_from (Y_u_bars y v) = Y_from y := rfl
theorem ya_to_bars (y : ySt) (v : Int32) : Y_to (Y_u_bars y v) = Y_to y := rfl
theorem ya_isAlongX_bars (y : ySt) (v : Int32) : Y_isAlongX (Y_u_bars y v) = Y_isAlongX y := rfl
theorem ya_isFirst_bars (y : ySt) (v : Int32) : Y_isFirst (Y_u_bars y v) = Y_isFirst y := rfl
theorem ya_isLast_bars (y : ySt) (v : Int32) : Y_isLast (Y_u_bars y v) = Y_isLast y := rfl
theorem ya_out_bars (y : ySt) (v : Int32) : Y_out (Y_u_bars y v) = Y_out y := rfl
theorem ya_moves_bars (y : ySt) (v : Int32) : Y_moves (Y_u_bars y v) = Y_moves y := rfl
theorem ya_before_bars (y : ySt) (v : Int32) : Y_before (Y_u_bars y v) = Y_before y := rfl
theorem ya_bars_bars (y : ySt) (v : Int32) : Y_bars (Y_u_bars y v) = v := rfl
theorem ya_barX_bars (y : ySt) (v : Int32) : Y_barX (Y_u_bars y v) = Y_barX y := rfl
theorem ya_barY_bars (y : ySt) (v : Int32) : Y_barY (Y_u_bars y v) = Y_barY y := rfl
theorem ya_barFarX_bars (y : ySt) (v : Int32) : Y_barFarX (Y_u_bars y v) = Y_barFarX y := rfl
theorem ya_barFarY_bars (y : ySt) (v : Int32) : Y_barFarY (Y_u_bars y v) = Y_barFarY y := rfl
theorem ya_mask_bars (y : ySt) (v : Int32) : Y_mask (Y_u_bars y v) = Y_mask y := rfl
theorem ya_sums_bars (y : ySt) (v : Int32) : Y_sums (Y_u_bars y v) = Y_sums y := rfl
theorem ya_kept_bars (y : ySt) (v : Int32) : Y_kept (Y_u_bars y v) = Y_kept y := rfl
theorem ya_worsts_bars (y : ySt) (v : Int32) : Y_worsts (Y_u_bars y v) = Y_worsts y := rfl
theorem ya_polygons_barX (y : ySt) (v : (Nat → Int32)) : Y_polygons (Y_u_barX y v) = Y_polygons y := rfl
theorem ya_xs_barX (y : ySt) (v : (Nat → Int32)) : Y_xs (Y_u_barX y v) = Y_xs y := rfl
theorem ya_ys_barX (y : ySt) (v : (Nat → Int32)) : Y_ys (Y_u_barX y v) = Y_ys y := rfl
theorem ya_sizes_barX (y : ySt) (v : (Nat → Int32)) : Y_sizes (Y_u_barX y v) = Y_sizes y := rfl
theorem ya_isClosed_barX (y : ySt) (v : (Nat → Int32)) : Y_isClosed (Y_u_barX y v) = Y_isClosed y := rfl
theorem ya_kernels_barX (y : ySt) (v : (Nat → Int32)) : Y_kernels (Y_u_barX y v) = Y_kernels y := rfl
theorem ya_weights_barX (y : ySt) (v : (Nat → Int32)) : Y_weights (Y_u_barX y v) = Y_weights y := rfl
theorem ya_widths_barX (y : ySt) (v : (Nat → Int32)) : Y_widths (Y_u_barX y v) = Y_widths y := rfl
theorem ya_threshold_barX (y : ySt) (v : (Nat → Int32)) : Y_threshold (Y_u_barX y v) = Y_threshold y := rfl
theorem ya_pieces_barX (y : ySt) (v : (Nat → Int32)) : Y_pieces (Y_u_barX y v) = Y_pieces y := rfl
theorem ya_across_barX (y : ySt) (v : (Nat → Int32)) : Y_across (Y_u_barX y v) = Y_across y := rfl
theorem ya_from_barX (y : ySt) (v : (Nat → Int32)) : Y_from (Y_u_barX y v) = Y_from y := rfl
theorem ya_to_barX (y : ySt) (v : (Nat → Int32)) : Y_to (Y_u_barX y v) = Y_to y := rfl
theorem ya_isAlongX_barX (y : ySt) (v : (Nat → Int32)) : Y_isAlongX (Y_u_barX y v) = Y_isAlongX y := rfl
theorem ya_isFirst_barX (y : ySt) (v : (Nat → Int32)) : Y_isFirst (Y_u_barX y v) = Y_isFirst y := rfl
theorem ya_isLast_barX (y : ySt) (v : (Nat → Int32)) : Y_isLast (Y_u_barX y v) = Y_isLast y := rfl
theorem ya_out_barX (y : ySt) (v : (Nat → Int32)) : Y_out (Y_u_barX y v) = Y_out y := rfl
theorem ya_moves_barX (y : ySt) (v : (Nat → Int32)) : Y_moves (Y_u_barX y v) = Y_moves y := rfl
theorem ya_before_barX (y : ySt) (v : (Nat → Int32)) : Y_before (Y_u_barX y v) = Y_before y := rfl
theorem ya_bars_barX (y : ySt) (v : (Nat → Int32)) : Y_bars (Y_u_barX y v) = Y_bars y := rfl
theorem ya_barX_barX (y : ySt) (v : (Nat → Int32)) : Y_barX (Y_u_barX y v) = v := rfl
theorem ya_barY_barX (y : ySt) (v : (Nat → Int32)) : Y_barY (Y_u_barX y v) = Y_barY y := rfl
theorem ya_barFarX_barX (y : ySt) (v : (Nat → Int32)) : Y_barFarX (Y_u_barX y v) = Y_barFarX y := rfl
theorem ya_barFarY_barX (y : ySt) (v : (Nat → Int32)) : Y_barFarY (Y_u_barX y v) = Y_barFarY y := rfl
theorem ya_mask_barX (y : ySt) (v : (Nat → Int32)) : Y_mask (Y_u_barX y v) = Y_mask y := rfl
theorem ya_sums_barX (y : ySt) (v : (Nat → Int32)) : Y_sums (Y_u_barX y v) = Y_sums y := rfl
theorem ya_kept_barX (y : ySt) (v : (Nat → Int32)) : Y_kept (Y_u_barX y v) = Y_kept y := rfl
theorem ya_worsts_barX (y : ySt) (v : (Nat → Int32)) : Y_worsts (Y_u_barX y v) = Y_worsts y := rfl
theorem ya_polygons_barY (y : ySt) (v : (Nat → Int32)) : Y_polygons (Y_u_barY y v) = Y_polygons y := rfl
theorem ya_xs_barY (y : ySt) (v : (Nat → Int32)) : Y_xs (Y_u_barY y v) = Y_xs y := rfl
theorem ya_ys_barY (y : ySt) (v : (Nat → Int32)) : Y_ys (Y_u_barY y v) = Y_ys y := rfl
theorem ya_sizes_barY (y : ySt) (v : (Nat → Int32)) : Y_sizes (Y_u_barY y v) = Y_sizes y := rfl
theorem ya_isClosed_barY (y : ySt) (v : (Nat → Int32)) : Y_isClosed (Y_u_barY y v) = Y_isClosed y := rfl
theorem ya_kernels_barY (y : ySt) (v : (Nat → Int32)) : Y_kernels (Y_u_barY y v) = Y_kernels y := rfl
theorem ya_weights_barY (y : ySt) (v : (Nat → Int32)) : Y_weights (Y_u_barY y v) = Y_weights y := rfl
theorem ya_widths_barY (y : ySt) (v : (Nat → Int32)) : Y_widths (Y_u_barY y v) = Y_widths y := rfl
theorem ya_threshold_barY (y : ySt) (v : (Nat → Int32)) : Y_threshold (Y_u_barY y v) = Y_threshold y := rfl
theorem ya_pieces_barY (y : ySt) (v : (Nat → Int32)) : Y_pieces (Y_u_barY y v) = Y_pieces y := rfl
theorem ya_across_barY (y : ySt) (v : (Nat → Int32)) : Y_across (Y_u_barY y v) = Y_across y := rfl
theorem ya_from_barY (y : ySt) (v : (Nat → Int32)) : Y_from (Y_u_barY y v) = Y_from y := rfl
theorem ya_to_barY (y : ySt) (v : (Nat → Int32)) : Y_to (Y_u_barY y v) = Y_to y := rfl
theorem ya_isAlongX_barY (y : ySt) (v : (Nat → Int32)) : Y_isAlongX (Y_u_barY y v) = Y_isAlongX y := rfl
theorem ya_isFirst_barY (y : ySt) (v : (Nat → Int32)) : Y_isFirst (Y_u_barY y v) = Y_isFirst y := rfl
theorem ya_isLast_barY (y : ySt) (v : (Nat → Int32)) : Y_isLast (Y_u_barY y v) = Y_isLast y := rfl
theorem ya_out_barY (y : ySt) (v : (Nat → Int32)) : Y_out (Y_u_barY y v) = Y_out y := rfl
theorem ya_moves_barY (y : ySt) (v : (Nat → Int32)) : Y_moves (Y_u_barY y v) = Y_moves y := rfl
theorem ya_before_barY (y : ySt) (v : (Nat → Int32)) : Y_before (Y_u_barY y v) = Y_before y := rfl
theorem ya_bars_barY (y : ySt) (v : (Nat → Int32)) : Y_bars (Y_u_barY y v) = Y_bars y := rfl
theorem ya_barX_barY (y : ySt) (v : (Nat → Int32)) : Y_barX (Y_u_barY y v) = Y_barX y := rfl
theorem ya_barY_barY (y : ySt) (v : (Nat → Int32)) : Y_barY (Y_u_barY y v) = v := rfl
theorem ya_barFarX_barY (y : ySt) (v : (Nat → Int32)) : Y_barFarX (Y_u_barY y v) = Y_barFarX y := rfl
theorem ya_barFarY_barY (y : ySt) (v : (Nat → Int32)) : Y_barFarY (Y_u_barY y v) = Y_barFarY y := rfl
theorem ya_mask_barY (y : ySt) (v : (Nat → Int32)) : Y_mask (Y_u_barY y v) = Y_mask y := rfl
theorem ya_sums_barY (y : ySt) (v : (Nat → Int32)) : Y_sums (Y_u_barY y v) = Y_sums y := rfl
theorem ya_kept_barY (y : ySt) (v : (Nat → Int32)) : Y_kept (Y_u_barY y v) = Y_kept y := rfl
theorem ya_worsts_barY (y : ySt) (v : (Nat → Int32)) : Y_worsts (Y_u_barY y v) = Y_worsts y := rfl
theorem ya_polygons_barFarX (y : ySt) (v : (Nat → Int32)) : Y_polygons (Y_u_barFarX y v) = Y_polygons y := rfl
theorem ya_xs_barFarX (y : ySt) (v : (Nat → Int32)) : Y_xs (Y_u_barFarX y v) = Y_xs y := rfl
theorem ya_ys_barFarX (y : ySt) (v : (Nat → Int32)) : Y_ys (Y_u_barFarX y v) = Y_ys y := rfl
theorem ya_sizes_barFarX (y : ySt) (v : (Nat → Int32)) : Y_sizes (Y_u_barFarX y v) = Y_sizes y := rfl
theorem ya_isClosed_barFarX (y : ySt) (v : (Nat → Int32)) : Y_isClosed (Y_u_barFarX y v) = Y_isClosed y := rfl
theorem ya_kernels_barFarX (y : ySt) (v : (Nat → Int32)) : Y_kernels (Y_u_barFarX y v) = Y_kernels y := rfl
theorem ya_weights_barFarX (y : ySt) (v : (Nat → Int32)) : Y_weights (Y_u_barFarX y v) = Y_weights y := rfl
theorem ya_widths_barFarX (y : ySt) (v : (Nat → Int32)) : Y_widths (Y_u_barFarX y v) = Y_widths y := rfl
theorem ya_threshold_barFarX (y : ySt) (v : (Nat → Int32)) : Y_threshold (Y_u_barFarX y v) = Y_threshold y := rfl
theorem ya_pieces_barFarX (y : ySt) (v : (Nat → Int32)) : Y_pieces (Y_u_barFarX y v) = Y_pieces y := rfl
theorem ya_across_barFarX (y : ySt) (v : (Nat → Int32)) : Y_across (Y_u_barFarX y v) = Y_across y := rfl
theorem ya_from_barFarX (y : ySt) (v : (Nat → Int32)) : Y_from (Y_u_barFarX y v) = Y_from y := rfl
theorem ya_to_barFarX (y : ySt) (v : (Nat → Int32)) : Y_to (Y_u_barFarX y v) = Y_to y := rfl
theorem ya_isAlongX_barFarX (y : ySt) (v : (Nat → Int32)) : Y_isAlongX (Y_u_barFarX y v) = Y_isAlongX y := rfl
theorem ya_isFirst_barFarX (y : ySt) (v : (Nat → Int32)) : Y_isFirst (Y_u_barFarX y v) = Y_isFirst y := rfl
theorem ya_isLast_barFarX (y : ySt) (v : (Nat → Int32)) : Y_isLast (Y_u_barFarX y v) = Y_isLast y := rfl
theorem ya_out_barFarX (y : ySt) (v : (Nat → Int32)) : Y_out (Y_u_barFarX y v) = Y_out y := rfl
theorem ya_moves_barFarX (y : ySt) (v : (Nat → Int32)) : Y_moves (Y_u_barFarX y v) = Y_moves y := rfl
theorem ya_before_barFarX (y : ySt) (v : (Nat → Int32)) : Y_before (Y_u_barFarX y v) = Y_before y := rfl
theorem ya_bars_barFarX (y : ySt) (v : (Nat → Int32)) : Y_bars (Y_u_barFarX y v) = Y_bars y := rfl
theorem ya_barX_barFarX (y : ySt) (v : (Nat → Int32)) : Y_barX (Y_u_barFarX y v) = Y_barX y := rfl
theorem ya_barY_barFarX (y : ySt) (v : (Nat → Int32)) : Y_barY (Y_u_barFarX y v) = Y_barY y := rfl
theorem ya_barFarX_barFarX (y : ySt) (v : (Nat → Int32)) : Y_barFarX (Y_u_barFarX y v) = v := rfl
theorem ya_barFarY_barFarX (y : ySt) (v : (Nat → Int32)) : Y_barFarY (Y_u_barFarX y v) = Y_barFarY y := rfl
theorem ya_mask_barFarX (y : ySt) (v : (Nat → Int32)) : Y_mask (Y_u_barFarX y v) = Y_mask y := rfl
theorem ya_sums_barFarX (y : ySt) (v : (Nat → Int32)) : Y_sums (Y_u_barFarX y v) = Y_sums y := rfl
theorem ya_kept_barFarX (y : ySt) (v : (Nat → Int32)) : Y_kept (Y_u_barFarX y v) = Y_kept y := rfl
theorem ya_worsts_barFarX (y : ySt) (v : (Nat → Int32)) : Y_worsts (Y_u_barFarX y v) = Y_worsts y := rfl
theorem ya_polygons_barFarY (y : ySt) (v : (Nat → Int32)) : Y_polygons (Y_u_barFarY y v) = Y_polygons y := rfl
theorem ya_xs_barFarY (y : ySt) (v : (Nat → Int32)) : Y_xs (Y_u_barFarY y v) = Y_xs y := rfl
theorem ya_ys_barFarY (y : ySt) (v : (Nat → Int32)) : Y_ys (Y_u_barFarY y v) = Y_ys y := rfl
theorem ya_sizes_barFarY (y : ySt) (v : (Nat → Int32)) : Y_sizes (Y_u_barFarY y v) = Y_sizes y := rfl
theorem ya_isClosed_barFarY (y : ySt) (v : (Nat → Int32)) : Y_isClosed (Y_u_barFarY y v) = Y_isClosed y := rfl
theorem ya_kernels_barFarY (y : ySt) (v : (Nat → Int32)) : Y_kernels (Y_u_barFarY y v) = Y_kernels y := rfl
theorem ya_weights_barFarY (y : ySt) (v : (Nat → Int32)) : Y_weights (Y_u_barFarY y v) = Y_weights y := rfl
theorem ya_widths_barFarY (y : ySt) (v : (Nat → Int32)) : Y_widths (Y_u_barFarY y v) = Y_widths y := rfl
theorem ya_threshold_barFarY (y : ySt) (v : (Nat → Int32)) : Y_threshold (Y_u_barFarY y v) = Y_threshold y := rfl
theorem ya_pieces_barFarY (y : ySt) (v : (Nat → Int32)) : Y_pieces (Y_u_barFarY y v) = Y_pieces y := rfl
theorem ya_across_barFarY (y : ySt) (v : (Nat → Int32)) : Y_across (Y_u_barFarY y v) = Y_across y := rfl
theorem ya_from_barFarY (y : ySt) (v : (Nat → Int32)) : Y_from (Y_u_barFarY y v) = Y_from y := rfl
theorem ya_to_barFarY (y : ySt) (v : (Nat → Int32)) : Y_to (Y_u_barFarY y v) = Y_to y := rfl
theorem ya_isAlongX_barFarY (y : ySt) (v : (Nat → Int32)) : Y_isAlongX (Y_u_barFarY y v) = Y_isAlongX y := rfl
theorem ya_isFirst_barFarY (y : ySt) (v : (Nat → Int32)) : Y_isFirst (Y_u_barFarY y v) = Y_isFirst y := rfl
theorem ya_isLast_barFarY (y : ySt) (v : (Nat → Int32)) : Y_isLast (Y_u_barFarY y v) = Y_isLast y := rfl
theorem ya_out_barFarY (y : ySt) (v : (Nat → Int32)) : Y_out (Y_u_barFarY y v) = Y_out y := rfl
theorem ya_moves_barFarY (y : ySt) (v : (Nat → Int32)) : Y_moves (Y_u_barFarY y v) = Y_moves y := rfl
theorem ya_before_barFarY (y : ySt) (v : (Nat → Int32)) : Y_before (Y_u_barFarY y v) = Y_before y := rfl
theorem ya_bars_barFarY (y : ySt) (v : (Nat → Int32)) : Y_bars (Y_u_barFarY y v) = Y_bars y := rfl
theorem ya_barX_barFarY (y : ySt) (v : (Nat → Int32)) : Y_barX (Y_u_barFarY y v) = Y_barX y := rfl
theorem ya_barY_barFarY (y : ySt) (v : (Nat → Int32)) : Y_barY (Y_u_barFarY y v) = Y_barY y := rfl
theorem ya_barFarX_barFarY (y : ySt) (v : (Nat → Int32)) : Y_barFarX (Y_u_barFarY y v) = Y_barFarX y := rfl
theorem ya_barFarY_barFarY (y : ySt) (v : (Nat → Int32)) : Y_barFarY (Y_u_barFarY y v) = v := rfl
theorem ya_mask_barFarY (y : ySt) (v : (Nat → Int32)) : Y_mask (Y_u_barFarY y v) = Y_mask y := rfl
theorem ya_sums_barFarY (y : ySt) (v : (Nat → Int32)) : Y_sums (Y_u_barFarY y v) = Y_sums y := rfl
theorem ya_kept_barFarY (y : ySt) (v : (Nat → Int32)) : Y_kept (Y_u_barFarY y v) = Y_kept y := rfl
theorem ya_worsts_barFarY (y : ySt) (v : (Nat → Int32)) : Y_worsts (Y_u_barFarY y v) = Y_worsts y := rfl
theorem ya_polygons_pieces (y : ySt) (v : Int32) : Y_polygons (Y_u_pieces y v) = Y_polygons y := rfl
theorem ya_xs_pieces (y : ySt) (v : Int32) : Y_xs (Y_u_pieces y v) = Y_xs y := rfl
theorem ya_ys_pieces (y : ySt) (v : Int32) : Y_ys (Y_u_pieces y v) = Y_ys y := rfl
theorem ya_sizes_pieces (y : ySt) (v : Int32) : Y_sizes (Y_u_pieces y v) = Y_sizes y := rfl
theorem ya_isClosed_pieces (y : ySt) (v : Int32) : Y_isClosed (Y_u_pieces y v) = Y_isClosed y := rfl
theorem ya_kernels_pieces (y : ySt) (v : Int32) : Y_kernels (Y_u_pieces y v) = Y_kernels y := rfl
theorem ya_weights_pieces (y : ySt) (v : Int32) : Y_weights (Y_u_pieces y v) = Y_weights y := rfl
theorem ya_widths_pieces (y : ySt) (v : Int32) : Y_widths (Y_u_pieces y v) = Y_widths y := rfl
theorem ya_threshold_pieces (y : ySt) (v : Int32) : Y_threshold (Y_u_pieces y v) = Y_threshold y := rfl
theorem ya_pieces_pieces (y : ySt) (v : Int32) : Y_pieces (Y_u_pieces y v) = v := rfl
theorem ya_across_pieces (y : ySt) (v : Int32) : Y_across (Y_u_pieces y v) = Y_across y := rfl
theorem ya_from_pieces (y : ySt) (v : Int32) : Y_from (Y_u_pieces y v) = Y_from y := rfl
theorem ya_to_pieces (y : ySt) (v : Int32) : Y_to (Y_u_pieces y v) = Y_to y := rfl
theorem ya_isAlongX_pieces (y : ySt) (v : Int32) : Y_isAlongX (Y_u_pieces y v) = Y_isAlongX y := rfl
theorem ya_isFirst_pieces (y : ySt) (v : Int32) : Y_isFirst (Y_u_pieces y v) = Y_isFirst y := rfl
theorem ya_isLast_pieces (y : ySt) (v : Int32) : Y_isLast (Y_u_pieces y v) = Y_isLast y := rfl
theorem ya_out_pieces (y : ySt) (v : Int32) : Y_out (Y_u_pieces y v) = Y_out y := rfl
theorem ya_moves_pieces (y : ySt) (v : Int32) : Y_moves (Y_u_pieces y v) = Y_moves y := rfl
theorem ya_before_pieces (y : ySt) (v : Int32) : Y_before (Y_u_pieces y v) = Y_before y := rfl
theorem ya_bars_pieces (y : ySt) (v : Int32) : Y_bars (Y_u_pieces y v) = Y_bars y := rfl
theorem ya_barX_pieces (y : ySt) (v : Int32) : Y_barX (Y_u_pieces y v) = Y_barX y := rfl
theorem ya_barY_pieces (y : ySt) (v : Int32) : Y_barY (Y_u_pieces y v) = Y_barY y := rfl
theorem ya_barFarX_pieces (y : ySt) (v : Int32) : Y_barFarX (Y_u_pieces y v) = Y_barFarX y := rfl
theorem ya_barFarY_pieces (y : ySt) (v : Int32) : Y_barFarY (Y_u_pieces y v) = Y_barFarY y := rfl
theorem ya_mask_pieces (y : ySt) (v : Int32) : Y_mask (Y_u_pieces y v) = Y_mask y := rfl
theorem ya_sums_pieces (y : ySt) (v : Int32) : Y_sums (Y_u_pieces y v) = Y_sums y := rfl
theorem ya_kept_pieces (y : ySt) (v : Int32) : Y_kept (Y_u_pieces y v) = Y_kept y := rfl
theorem ya_worsts_pieces (y : ySt) (v : Int32) : Y_worsts (Y_u_pieces y v) = Y_worsts y := rfl
theorem ya_polygons_isAlongX (y : ySt) (v : (Nat → Int32)) : Y_polygons (Y_u_isAlongX y v) = Y_polygons y := rfl
theorem ya_xs_isAlongX (y : ySt) (v : (Nat → Int32)) : Y_xs (Y_u_isAlongX y v) = Y_xs y := rfl
theorem ya_ys_isAlongX (y : ySt) (v : (Nat → Int32)) : Y_ys (Y_u_isAlongX y v) = Y_ys y := rfl
theorem ya_sizes_isAlongX (y : ySt) (v : (Nat → Int32)) : Y_sizes (Y_u_isAlongX y v) = Y_sizes y := rfl
theorem ya_isClosed_isAlongX (y : ySt) (v : (Nat → Int32)) : Y_isClosed (Y_u_isAlongX y v) = Y_isClosed y := rfl
theorem ya_kernels_isAlongX (y : ySt) (v : (Nat → Int32)) : Y_kernels (Y_u_isAlongX y v) = Y_kernels y := rfl
theorem ya_weights_isAlongX (y : ySt) (v : (Nat → Int32)) : Y_weights (Y_u_isAlongX y v) = Y_weights y := rfl
theorem ya_widths_isAlongX (y : ySt) (v : (Nat → Int32)) : Y_widths (Y_u_isAlongX y v) = Y_widths y := rfl
theorem ya_threshold_isAlongX (y : ySt) (v : (Nat → Int32)) : Y_threshold (Y_u_isAlongX y v) = Y_threshold y := rfl
theorem ya_pieces_isAlongX (y : ySt) (v : (Nat → Int32)) : Y_pieces (Y_u_isAlongX y v) = Y_pieces y := rfl
theorem ya_across_isAlongX (y : ySt) (v : (Nat → Int32)) : Y_across (Y_u_isAlongX y v) = Y_across y := rfl
theorem ya_from_isAlongX (y : ySt) (v : (Nat → Int32)) : Y_from (Y_u_isAlongX y v) = Y_from y := rfl
theorem ya_to_isAlongX (y : ySt) (v : (Nat → Int32)) : Y_to (Y_u_isAlongX y v) = Y_to y := rfl
theorem ya_isAlongX_isAlongX (y : ySt) (v : (Nat → Int32)) : Y_isAlongX (Y_u_isAlongX y v) = v := rfl
theorem ya_isFirst_isAlongX (y : ySt) (v : (Nat → Int32)) : Y_isFirst (Y_u_isAlongX y v) = Y_isFirst y := rfl
theorem ya_isLast_isAlongX (y : ySt) (v : (Nat → Int32)) : Y_isLast (Y_u_isAlongX y v) = Y_isLast y := rfl
theorem ya_out_isAlongX (y : ySt) (v : (Nat → Int32)) : Y_out (Y_u_isAlongX y v) = Y_out y := rfl
theorem ya_moves_isAlongX (y : ySt) (v : (Nat → Int32)) : Y_moves (Y_u_isAlongX y v) = Y_moves y := rfl
theorem ya_before_isAlongX (y : ySt) (v : (Nat → Int32)) : Y_before (Y_u_isAlongX y v) = Y_before y := rfl
theorem ya_bars_isAlongX (y : ySt) (v : (Nat → Int32)) : Y_bars (Y_u_isAlongX y v) = Y_bars y := rfl
theorem ya_barX_isAlongX (y : ySt) (v : (Nat → Int32)) : Y_barX (Y_u_isAlongX y v) = Y_barX y := rfl
theorem ya_barY_isAlongX (y : ySt) (v : (Nat → Int32)) : Y_barY (Y_u_isAlongX y v) = Y_barY y := rfl
theorem ya_barFarX_isAlongX (y : ySt) (v : (Nat → Int32)) : Y_barFarX (Y_u_isAlongX y v) = Y_barFarX y := rfl
theorem ya_barFarY_isAlongX (y : ySt) (v : (Nat → Int32)) : Y_barFarY (Y_u_isAlongX y v) = Y_barFarY y := rfl
theorem ya_mask_isAlongX (y : ySt) (v : (Nat → Int32)) : Y_mask (Y_u_isAlongX y v) = Y_mask y := rfl
theorem ya_sums_isAlongX (y : ySt) (v : (Nat → Int32)) : Y_sums (Y_u_isAlongX y v) = Y_sums y := rfl
theorem ya_kept_isAlongX (y : ySt) (v : (Nat → Int32)) : Y_kept (Y_u_isAlongX y v) = Y_kept y := rfl
theorem ya_worsts_isAlongX (y : ySt) (v : (Nat → Int32)) : Y_worsts (Y_u_isAlongX y v) = Y_worsts y := rfl
theorem ya_polygons_across (y : ySt) (v : (Nat → Int32)) : Y_polygons (Y_u_across y v) = Y_polygons y := rfl
theorem ya_xs_across (y : ySt) (v : (Nat → Int32)) : Y_xs (Y_u_across y v) = Y_xs y := rfl
theorem ya_ys_across (y : ySt) (v : (Nat → Int32)) : Y_ys (Y_u_across y v) = Y_ys y := rfl
theorem ya_sizes_across (y : ySt) (v : (Nat → Int32)) : Y_sizes (Y_u_across y v) = Y_sizes y := rfl
theorem ya_isClosed_across (y : ySt) (v : (Nat → Int32)) : Y_isClosed (Y_u_across y v) = Y_isClosed y := rfl
theorem ya_kernels_across (y : ySt) (v : (Nat → Int32)) : Y_kernels (Y_u_across y v) = Y_kernels y := rfl
theorem ya_weights_across (y : ySt) (v : (Nat → Int32)) : Y_weights (Y_u_across y v) = Y_weights y := rfl
theorem ya_widths_across (y : ySt) (v : (Nat → Int32)) : Y_widths (Y_u_across y v) = Y_widths y := rfl
theorem ya_threshold_across (y : ySt) (v : (Nat → Int32)) : Y_threshold (Y_u_across y v) = Y_threshold y := rfl
theorem ya_pieces_across (y : ySt) (v : (Nat → Int32)) : Y_pieces (Y_u_across y v) = Y_pieces y := rfl
theorem ya_across_across (y : ySt) (v : (Nat → Int32)) : Y_across (Y_u_across y v) = v := rfl
theorem ya_from_across (y : ySt) (v : (Nat → Int32)) : Y_from (Y_u_across y v) = Y_from y := rfl
theorem ya_to_across (y : ySt) (v : (Nat → Int32)) : Y_to (Y_u_across y v) = Y_to y := rfl
theorem ya_isAlongX_across (y : ySt) (v : (Nat → Int32)) : Y_isAlongX (Y_u_across y v) = Y_isAlongX y := rfl
theorem ya_isFirst_across (y : ySt) (v : (Nat → Int32)) : Y_isFirst (Y_u_across y v) = Y_isFirst y := rfl
theorem ya_isLast_across (y : ySt) (v : (Nat → Int32)) : Y_isLast (Y_u_across y v) = Y_isLast y := rfl
theorem ya_out_across (y : ySt) (v : (Nat → Int32)) : Y_out (Y_u_across y v) = Y_out y := rfl
theorem ya_moves_across (y : ySt) (v : (Nat → Int32)) : Y_moves (Y_u_across y v) = Y_moves y := rfl
theorem ya_before_across (y : ySt) (v : (Nat → Int32)) : Y_before (Y_u_across y v) = Y_before y := rfl
theorem ya_bars_across (y : ySt) (v : (Nat → Int32)) : Y_bars (Y_u_across y v) = Y_bars y := rfl
theorem ya_barX_across (y : ySt) (v : (Nat → Int32)) : Y_barX (Y_u_across y v) = Y_barX y := rfl
theorem ya_barY_across (y : ySt) (v : (Nat → Int32)) : Y_barY (Y_u_across y v) = Y_barY y := rfl
theorem ya_barFarX_across (y : ySt) (v : (Nat → Int32)) : Y_barFarX (Y_u_across y v) = Y_barFarX y := rfl
theorem ya_barFarY_across (y : ySt) (v : (Nat → Int32)) : Y_barFarY (Y_u_across y v) = Y_barFarY y := rfl
theorem ya_mask_across (y : ySt) (v : (Nat → Int32)) : Y_mask (Y_u_across y v) = Y_mask y := rfl
theorem ya_sums_across (y : ySt) (v : (Nat → Int32)) : Y_sums (Y_u_across y v) = Y_sums y := rfl
theorem ya_kept_across (y : ySt) (v : (Nat → Int32)) : Y_kept (Y_u_across y v) = Y_kept y := rfl
theorem ya_worsts_across (y : ySt) (v : (Nat → Int32)) : Y_worsts (Y_u_across y v) = Y_worsts y := rfl
theorem ya_polygons_from (y : ySt) (v : (Nat → Int32)) : Y_polygons (Y_u_from y v) = Y_polygons y := rfl
theorem ya_xs_from (y : ySt) (v : (Nat → Int32)) : Y_xs (Y_u_from y v) = Y_xs y := rfl
theorem ya_ys_from (y : ySt) (v : (Nat → Int32)) : Y_ys (Y_u_from y v) = Y_ys y := rfl
theorem ya_sizes_from (y : ySt) (v : (Nat → Int32)) : Y_sizes (Y_u_from y v) = Y_sizes y := rfl
theorem ya_isClosed_from (y : ySt) (v : (Nat → Int32)) : Y_isClosed (Y_u_from y v) = Y_isClosed y := rfl
theorem ya_kernels_from (y : ySt) (v : (Nat → Int32)) : Y_kernels (Y_u_from y v) = Y_kernels y := rfl
theorem ya_weights_from (y : ySt) (v : (Nat → Int32)) : Y_weights (Y_u_from y v) = Y_weights y := rfl
theorem ya_widths_from (y : ySt) (v : (Nat → Int32)) : Y_widths (Y_u_from y v) = Y_widths y := rfl
theorem ya_threshold_from (y : ySt) (v : (Nat → Int32)) : Y_threshold (Y_u_from y v) = Y_threshold y := rfl
theorem ya_pieces_from (y : ySt) (v : (Nat → Int32)) : Y_pieces (Y_u_from y v) = Y_pieces y := rfl
theorem ya_across_from (y : ySt) (v : (Nat → Int32)) : Y_across (Y_u_from y v) = Y_across y := rfl
theorem ya_from_from (y : ySt) (v : (Nat → Int32)) : Y_from (Y_u_from y v) = v := rfl
theorem ya_to_from (y : ySt) (v : (Nat → Int32)) : Y_to (Y_u_from y v) = Y_to y := rfl
theorem ya_isAlongX_from (y : ySt) (v : (Nat → Int32)) : Y_isAlongX (Y_u_from y v) = Y_isAlongX y := rfl
theorem ya_isFirst_from (y : ySt) (v : (Nat → Int32)) : Y_isFirst (Y_u_from y v) = Y_isFirst y := rfl
theorem ya_isLast_from (y : ySt) (v : (Nat → Int32)) : Y_isLast (Y_u_from y v) = Y_isLast y := rfl
theorem ya_out_from (y : ySt) (v : (Nat → Int32)) : Y_out (Y_u_from y v) = Y_out y := rfl
theorem ya_moves_from (y : ySt) (v : (Nat → Int32)) : Y_moves (Y_u_from y v) = Y_moves y := rfl
theorem ya_before_from (y : ySt) (v : (Nat → Int32)) : Y_before (Y_u_from y v) = Y_before y := rfl
theorem ya_bars_from (y : ySt) (v : (Nat → Int32)) : Y_bars (Y_u_from y v) = Y_bars y := rfl
theorem ya_barX_from (y : ySt) (v : (Nat → Int32)) : Y_barX (Y_u_from y v) = Y_barX y := rfl
theorem ya_barY_from (y : ySt) (v : (Nat → Int32)) : Y_barY (Y_u_from y v) = Y_barY y := rfl
theorem ya_barFarX_from (y : ySt) (v : (Nat → Int32)) : Y_barFarX (Y_u_from y v) = Y_barFarX y := rfl
theorem ya_barFarY_from (y : ySt) (v : (Nat → Int32)) : Y_barFarY (Y_u_from y v) = Y_barFarY y := rfl
theorem ya_mask_from (y : ySt) (v : (Nat → Int32)) : Y_mask (Y_u_from y v) = Y_mask y := rfl
theorem ya_sums_from (y : ySt) (v : (Nat → Int32)) : Y_sums (Y_u_from y v) = Y_sums y := rfl
theorem ya_kept_from (y : ySt) (v : (Nat → Int32)) : Y_kept (Y_u_from y v) = Y_kept y := rfl
theorem ya_worsts_from (y : ySt) (v : (Nat → Int32)) : Y_worsts (Y_u_from y v) = Y_worsts y := rfl
theorem ya_polygons_to (y : ySt) (v : (Nat → Int32)) : Y_polygons (Y_u_to y v) = Y_polygons y := rfl
theorem ya_xs_to (y : ySt) (v : (Nat → Int32)) : Y_xs (Y_u_to y v) = Y_xs y := rfl
theorem ya_ys_to (y : ySt) (v : (Nat → Int32)) : Y_ys (Y_u_to y v) = Y_ys y := rfl
theorem ya_sizes_to (y : ySt) (v : (Nat → Int32)) : Y_sizes (Y_u_to y v) = Y_sizes y := rfl
theorem ya_isClosed_to (y : ySt) (v : (Nat → Int32)) : Y_isClosed (Y_u_to y v) = Y_isClosed y := rfl
theorem ya_kernels_to (y : ySt) (v : (Nat → Int32)) : Y_kernels (Y_u_to y v) = Y_kernels y := rfl
theorem ya_weights_to (y : ySt) (v : (Nat → Int32)) : Y_weights (Y_u_to y v) = Y_weights y := rfl
theorem ya_widths_to (y : ySt) (v : (Nat → Int32)) : Y_widths (Y_u_to y v) = Y_widths y := rfl
theorem ya_threshold_to (y : ySt) (v : (Nat → Int32)) : Y_threshold (Y_u_to y v) = Y_threshold y := rfl
theorem ya_pieces_to (y : ySt) (v : (Nat → Int32)) : Y_pieces (Y_u_to y v) = Y_pieces y := rfl
theorem ya_across_to (y : ySt) (v : (Nat → Int32)) : Y_across (Y_u_to y v) = Y_across y := rfl
theorem ya_from_to (y : ySt) (v : (Nat → Int32)) : Y_from (Y_u_to y v) = Y_from y := rfl
theorem ya_to_to (y : ySt) (v : (Nat → Int32)) : Y_to (Y_u_to y v) = v := rfl
theorem ya_isAlongX_to (y : ySt) (v : (Nat → Int32)) : Y_isAlongX (Y_u_to y v) = Y_isAlongX y := rfl
theorem ya_isFirst_to (y : ySt) (v : (Nat → Int32)) : Y_isFirst (Y_u_to y v) = Y_isFirst y := rfl
theorem ya_isLast_to (y : ySt) (v : (Nat → Int32)) : Y_isLast (Y_u_to y v) = Y_isLast y := rfl
theorem ya_out_to (y : ySt) (v : (Nat → Int32)) : Y_out (Y_u_to y v) = Y_out y := rfl
theorem ya_moves_to (y : ySt) (v : (Nat → Int32)) : Y_moves (Y_u_to y v) = Y_moves y := rfl
theorem ya_before_to (y : ySt) (v : (Nat → Int32)) : Y_before (Y_u_to y v) = Y_before y := rfl
theorem ya_bars_to (y : ySt) (v : (Nat → Int32)) : Y_bars (Y_u_to y v) = Y_bars y := rfl
theorem ya_barX_to (y : ySt) (v : (Nat → Int32)) : Y_barX (Y_u_to y v) = Y_barX y := rfl
theorem ya_barY_to (y : ySt) (v : (Nat → Int32)) : Y_barY (Y_u_to y v) = Y_barY y := rfl
theorem ya_barFarX_to (y : ySt) (v : (Nat → Int32)) : Y_barFarX (Y_u_to y v) = Y_barFarX y := rfl
theorem ya_barFarY_to (y : ySt) (v : (Nat → Int32)) : Y_barFarY (Y_u_to y v) = Y_barFarY y := rfl
theorem ya_mask_to (y : ySt) (v : (Nat → Int32)) : Y_mask (Y_u_to y v) = Y_mask y := rfl
theorem ya_sums_to (y : ySt) (v : (Nat → Int32)) : Y_sums (Y_u_to y v) = Y_sums y := rfl
theorem ya_kept_to (y : ySt) (v : (Nat → Int32)) : Y_kept (Y_u_to y v) = Y_kept y := rfl
theorem ya_worsts_to (y : ySt) (v : (Nat → Int32)) : Y_worsts (Y_u_to y v) = Y_worsts y := rfl
theorem ya_polygons_isFirst (y : ySt) (v : (Nat → Int32)) : Y_polygons (Y_u_isFirst y v) = Y_polygons y := rfl
theorem ya_xs_isFirst (y : ySt) (v : (Nat → Int32)) : Y_xs (Y_u_isFirst y v) = Y_xs y := rfl
theorem ya_ys_isFirst (y : ySt) (v : (Nat → Int32)) : Y_ys (Y_u_isFirst y v) = Y_ys y := rfl
theorem ya_sizes_isFirst (y : ySt) (v : (Nat → Int32)) : Y_sizes (Y_u_isFirst y v) = Y_sizes y := rfl
theorem ya_isClosed_isFirst (y : ySt) (v : (Nat → Int32)) : Y_isClosed (Y_u_isFirst y v) = Y_isClosed y := rfl
theorem ya_kernels_isFirst (y : ySt) (v : (Nat → Int32)) : Y_kernels (Y_u_isFirst y v) = Y_kernels y := rfl
theorem ya_weights_isFirst (y : ySt) (v : (Nat → Int32)) : Y_weights (Y_u_isFirst y v) = Y_weights y := rfl
theorem ya_widths_isFirst (y : ySt) (v : (Nat → Int32)) : Y_widths (Y_u_isFirst y v) = Y_widths y := rfl
theorem ya_threshold_isFirst (y : ySt) (v : (Nat → Int32)) : Y_threshold (Y_u_isFirst y v) = Y_threshold y := rfl
theorem ya_pieces_isFirst (y : ySt) (v : (Nat → Int32)) : Y_pieces (Y_u_isFirst y v) = Y_pieces y := rfl
theorem ya_across_isFirst (y : ySt) (v : (Nat → Int32)) : Y_across (Y_u_isFirst y v) = Y_across y := rfl
theorem ya_from_isFirst (y : ySt) (v : (Nat → Int32)) : Y_from (Y_u_isFirst y v) = Y_from y := rfl
theorem ya_to_isFirst (y : ySt) (v : (Nat → Int32)) : Y_to (Y_u_isFirst y v) = Y_to y := rfl
theorem ya_isAlongX_isFirst (y : ySt) (v : (Nat → Int32)) : Y_isAlongX (Y_u_isFirst y v) = Y_isAlongX y := rfl
theorem ya_isFirst_isFirst (y : ySt) (v : (Nat → Int32)) : Y_isFirst (Y_u_isFirst y v) = v := rfl
theorem ya_isLast_isFirst (y : ySt) (v : (Nat → Int32)) : Y_isLast (Y_u_isFirst y v) = Y_isLast y := rfl
theorem ya_out_isFirst (y : ySt) (v : (Nat → Int32)) : Y_out (Y_u_isFirst y v) = Y_out y := rfl
theorem ya_moves_isFirst (y : ySt) (v : (Nat → Int32)) : Y_moves (Y_u_isFirst y v) = Y_moves y := rfl
theorem ya_before_isFirst (y : ySt) (v : (Nat → Int32)) : Y_before (Y_u_isFirst y v) = Y_before y := rfl
theorem ya_bars_isFirst (y : ySt) (v : (Nat → Int32)) : Y_bars (Y_u_isFirst y v) = Y_bars y := rfl
theorem ya_barX_isFirst (y : ySt) (v : (Nat → Int32)) : Y_barX (Y_u_isFirst y v) = Y_barX y := rfl
theorem ya_barY_isFirst (y : ySt) (v : (Nat → Int32)) : Y_barY (Y_u_isFirst y v) = Y_barY y := rfl
theorem ya_barFarX_isFirst (y : ySt) (v : (Nat → Int32)) : Y_barFarX (Y_u_isFirst y v) = Y_barFarX y := rfl
theorem ya_barFarY_isFirst (y : ySt) (v : (Nat → Int32)) : Y_barFarY (Y_u_isFirst y v) = Y_barFarY y := rfl
theorem ya_mask_isFirst (y : ySt) (v : (Nat → Int32)) : Y_mask (Y_u_isFirst y v) = Y_mask y := rfl
theorem ya_sums_isFirst (y : ySt) (v : (Nat → Int32)) : Y_sums (Y_u_isFirst y v) = Y_sums y := rfl
theorem ya_kept_isFirst (y : ySt) (v : (Nat → Int32)) : Y_kept (Y_u_isFirst y v) = Y_kept y := rfl
theorem ya_worsts_isFirst (y : ySt) (v : (Nat → Int32)) : Y_worsts (Y_u_isFirst y v) = Y_worsts y := rfl
theorem ya_polygons_isLast (y : ySt) (v : (Nat → Int32)) : Y_polygons (Y_u_isLast y v) = Y_polygons y := rfl
theorem ya_xs_isLast (y : ySt) (v : (Nat → Int32)) : Y_xs (Y_u_isLast y v) = Y_xs y := rfl
theorem ya_ys_isLast (y : ySt) (v : (Nat → Int32)) : Y_ys (Y_u_isLast y v) = Y_ys y := rfl
theorem ya_sizes_isLast (y : ySt) (v : (Nat → Int32)) : Y_sizes (Y_u_isLast y v) = Y_sizes y := rfl
theorem ya_isClosed_isLast (y : ySt) (v : (Nat → Int32)) : Y_isClosed (Y_u_isLast y v) = Y_isClosed y := rfl
theorem ya_kernels_isLast (y : ySt) (v : (Nat → Int32)) : Y_kernels (Y_u_isLast y v) = Y_kernels y := rfl
theorem ya_weights_isLast (y : ySt) (v : (Nat → Int32)) : Y_weights (Y_u_isLast y v) = Y_weights y := rfl
theorem ya_widths_isLast (y : ySt) (v : (Nat → Int32)) : Y_widths (Y_u_isLast y v) = Y_widths y := rfl
theorem ya_threshold_isLast (y : ySt) (v : (Nat → Int32)) : Y_threshold (Y_u_isLast y v) = Y_threshold y := rfl
theorem ya_pieces_isLast (y : ySt) (v : (Nat → Int32)) : Y_pieces (Y_u_isLast y v) = Y_pieces y := rfl
theorem ya_across_isLast (y : ySt) (v : (Nat → Int32)) : Y_across (Y_u_isLast y v) = Y_across y := rfl
theorem ya_from_isLast (y : ySt) (v : (Nat → Int32)) : Y_from (Y_u_isLast y v) = Y_from y := rfl
theorem ya_to_isLast (y : ySt) (v : (Nat → Int32)) : Y_to (Y_u_isLast y v) = Y_to y := rfl
theorem ya_isAlongX_isLast (y : ySt) (v : (Nat → Int32)) : Y_isAlongX (Y_u_isLast y v) = Y_isAlongX y := rfl
theorem ya_isFirst_isLast (y : ySt) (v : (Nat → Int32)) : Y_isFirst (Y_u_isLast y v) = Y_isFirst y := rfl
theorem ya_isLast_isLast (y : ySt) (v : (Nat → Int32)) : Y_isLast (Y_u_isLast y v) = v := rfl
theorem ya_out_isLast (y : ySt) (v : (Nat → Int32)) : Y_out (Y_u_isLast y v) = Y_out y := rfl
theorem ya_moves_isLast (y : ySt) (v : (Nat → Int32)) : Y_moves (Y_u_isLast y v) = Y_moves y := rfl
theorem ya_before_isLast (y : ySt) (v : (Nat → Int32)) : Y_before (Y_u_isLast y v) = Y_before y := rfl
theorem ya_bars_isLast (y : ySt) (v : (Nat → Int32)) : Y_bars (Y_u_isLast y v) = Y_bars y := rfl
theorem ya_barX_isLast (y : ySt) (v : (Nat → Int32)) : Y_barX (Y_u_isLast y v) = Y_barX y := rfl
theorem ya_barY_isLast (y : ySt) (v : (Nat → Int32)) : Y_barY (Y_u_isLast y v) = Y_barY y := rfl
theorem ya_barFarX_isLast (y : ySt) (v : (Nat → Int32)) : Y_barFarX (Y_u_isLast y v) = Y_barFarX y := rfl
theorem ya_barFarY_isLast (y : ySt) (v : (Nat → Int32)) : Y_barFarY (Y_u_isLast y v) = Y_barFarY y := rfl
theorem ya_mask_isLast (y : ySt) (v : (Nat → Int32)) : Y_mask (Y_u_isLast y v) = Y_mask y := rfl
theorem ya_sums_isLast (y : ySt) (v : (Nat → Int32)) : Y_sums (Y_u_isLast y v) = Y_sums y := rfl
theorem ya_kept_isLast (y : ySt) (v : (Nat → Int32)) : Y_kept (Y_u_isLast y v) = Y_kept y := rfl
theorem ya_worsts_isLast (y : ySt) (v : (Nat → Int32)) : Y_worsts (Y_u_isLast y v) = Y_worsts y := rfl
theorem ya_polygons_moves (y : ySt) (v : (Nat → Int32)) : Y_polygons (Y_u_moves y v) = Y_polygons y := rfl
theorem ya_xs_moves (y : ySt) (v : (Nat → Int32)) : Y_xs (Y_u_moves y v) = Y_xs y := rfl
theorem ya_ys_moves (y : ySt) (v : (Nat → Int32)) : Y_ys (Y_u_moves y v) = Y_ys y := rfl
theorem ya_sizes_moves (y : ySt) (v : (Nat → Int32)) : Y_sizes (Y_u_moves y v) = Y_sizes y := rfl
theorem ya_isClosed_moves (y : ySt) (v : (Nat → Int32)) : Y_isClosed (Y_u_moves y v) = Y_isClosed y := rfl
theorem ya_kernels_moves (y : ySt) (v : (Nat → Int32)) : Y_kernels (Y_u_moves y v) = Y_kernels y := rfl
theorem ya_weights_moves (y : ySt) (v : (Nat → Int32)) : Y_weights (Y_u_moves y v) = Y_weights y := rfl
theorem ya_widths_moves (y : ySt) (v : (Nat → Int32)) : Y_widths (Y_u_moves y v) = Y_widths y := rfl
theorem ya_threshold_moves (y : ySt) (v : (Nat → Int32)) : Y_threshold (Y_u_moves y v) = Y_threshold y := rfl
theorem ya_pieces_moves (y : ySt) (v : (Nat → Int32)) : Y_pieces (Y_u_moves y v) = Y_pieces y := rfl
theorem ya_across_moves (y : ySt) (v : (Nat → Int32)) : Y_across (Y_u_moves y v) = Y_across y := rfl
theorem ya_from_moves (y : ySt) (v : (Nat → Int32)) : Y_from (Y_u_moves y v) = Y_from y := rfl
theorem ya_to_moves (y : ySt) (v : (Nat → Int32)) : Y_to (Y_u_moves y v) = Y_to y := rfl
theorem ya_isAlongX_moves (y : ySt) (v : (Nat → Int32)) : Y_isAlongX (Y_u_moves y v) = Y_isAlongX y := rfl
theorem ya_isFirst_moves (y : ySt) (v : (Nat → Int32)) : Y_isFirst (Y_u_moves y v) = Y_isFirst y := rfl
theorem ya_isLast_moves (y : ySt) (v : (Nat → Int32)) : Y_isLast (Y_u_moves y v) = Y_isLast y := rfl
theorem ya_out_moves (y : ySt) (v : (Nat → Int32)) : Y_out (Y_u_moves y v) = Y_out y := rfl
theorem ya_moves_moves (y : ySt) (v : (Nat → Int32)) : Y_moves (Y_u_moves y v) = v := rfl
theorem ya_before_moves (y : ySt) (v : (Nat → Int32)) : Y_before (Y_u_moves y v) = Y_before y := rfl
theorem ya_bars_moves (y : ySt) (v : (Nat → Int32)) : Y_bars (Y_u_moves y v) = Y_bars y := rfl
theorem ya_barX_moves (y : ySt) (v : (Nat → Int32)) : Y_barX (Y_u_moves y v) = Y_barX y := rfl
theorem ya_barY_moves (y : ySt) (v : (Nat → Int32)) : Y_barY (Y_u_moves y v) = Y_barY y := rfl
theorem ya_barFarX_moves (y : ySt) (v : (Nat → Int32)) : Y_barFarX (Y_u_moves y v) = Y_barFarX y := rfl
theorem ya_barFarY_moves (y : ySt) (v : (Nat → Int32)) : Y_barFarY (Y_u_moves y v) = Y_barFarY y := rfl
theorem ya_mask_moves (y : ySt) (v : (Nat → Int32)) : Y_mask (Y_u_moves y v) = Y_mask y := rfl
theorem ya_sums_moves (y : ySt) (v : (Nat → Int32)) : Y_sums (Y_u_moves y v) = Y_sums y := rfl
theorem ya_kept_moves (y : ySt) (v : (Nat → Int32)) : Y_kept (Y_u_moves y v) = Y_kept y := rfl
theorem ya_worsts_moves (y : ySt) (v : (Nat → Int32)) : Y_worsts (Y_u_moves y v) = Y_worsts y := rfl
theorem ya_polygons_out (y : ySt) (v : (Nat → Int32)) : Y_polygons (Y_u_out y v) = Y_polygons y := rfl
theorem ya_xs_out (y : ySt) (v : (Nat → Int32)) : Y_xs (Y_u_out y v) = Y_xs y := rfl
theorem ya_ys_out (y : ySt) (v : (Nat → Int32)) : Y_ys (Y_u_out y v) = Y_ys y := rfl
theorem ya_sizes_out (y : ySt) (v : (Nat → Int32)) : Y_sizes (Y_u_out y v) = Y_sizes y := rfl
theorem ya_isClosed_out (y : ySt) (v : (Nat → Int32)) : Y_isClosed (Y_u_out y v) = Y_isClosed y := rfl
theorem ya_kernels_out (y : ySt) (v : (Nat → Int32)) : Y_kernels (Y_u_out y v) = Y_kernels y := rfl
theorem ya_weights_out (y : ySt) (v : (Nat → Int32)) : Y_weights (Y_u_out y v) = Y_weights y := rfl
theorem ya_widths_out (y : ySt) (v : (Nat → Int32)) : Y_widths (Y_u_out y v) = Y_widths y := rfl
theorem ya_threshold_out (y : ySt) (v : (Nat → Int32)) : Y_threshold (Y_u_out y v) = Y_threshold y := rfl
theorem ya_pieces_out (y : ySt) (v : (Nat → Int32)) : Y_pieces (Y_u_out y v) = Y_pieces y := rfl
theorem ya_across_out (y : ySt) (v : (Nat → Int32)) : Y_across (Y_u_out y v) = Y_across y := rfl
theorem ya_from_out (y : ySt) (v : (Nat → Int32)) : Y_from (Y_u_out y v) = Y_from y := rfl
theorem ya_to_out (y : ySt) (v : (Nat → Int32)) : Y_to (Y_u_out y v) = Y_to y := rfl
theorem ya_isAlongX_out (y : ySt) (v : (Nat → Int32)) : Y_isAlongX (Y_u_out y v) = Y_isAlongX y := rfl
theorem ya_isFirst_out (y : ySt) (v : (Nat → Int32)) : Y_isFirst (Y_u_out y v) = Y_isFirst y := rfl
theorem ya_isLast_out (y : ySt) (v : (Nat → Int32)) : Y_isLast (Y_u_out y v) = Y_isLast y := rfl
theorem ya_out_out (y : ySt) (v : (Nat → Int32)) : Y_out (Y_u_out y v) = v := rfl
theorem ya_moves_out (y : ySt) (v : (Nat → Int32)) : Y_moves (Y_u_out y v) = Y_moves y := rfl
theorem ya_before_out (y : ySt) (v : (Nat → Int32)) : Y_before (Y_u_out y v) = Y_before y := rfl
theorem ya_bars_out (y : ySt) (v : (Nat → Int32)) : Y_bars (Y_u_out y v) = Y_bars y := rfl
theorem ya_barX_out (y : ySt) (v : (Nat → Int32)) : Y_barX (Y_u_out y v) = Y_barX y := rfl
theorem ya_barY_out (y : ySt) (v : (Nat → Int32)) : Y_barY (Y_u_out y v) = Y_barY y := rfl
theorem ya_barFarX_out (y : ySt) (v : (Nat → Int32)) : Y_barFarX (Y_u_out y v) = Y_barFarX y := rfl
theorem ya_barFarY_out (y : ySt) (v : (Nat → Int32)) : Y_barFarY (Y_u_out y v) = Y_barFarY y := rfl
theorem ya_mask_out (y : ySt) (v : (Nat → Int32)) : Y_mask (Y_u_out y v) = Y_mask y := rfl
theorem ya_sums_out (y : ySt) (v : (Nat → Int32)) : Y_sums (Y_u_out y v) = Y_sums y := rfl
theorem ya_kept_out (y : ySt) (v : (Nat → Int32)) : Y_kept (Y_u_out y v) = Y_kept y := rfl
theorem ya_worsts_out (y : ySt) (v : (Nat → Int32)) : Y_worsts (Y_u_out y v) = Y_worsts y := rfl
