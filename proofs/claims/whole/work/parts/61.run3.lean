/-! run. -/
theorem C_thr {x : xSt} {y : ySt} {c nk n nb : Nat} (h : relC x y c nk n nb) {v : Int32} (hv : 1 ≤ v.toInt ∧ v.toInt ≤ 100000) : relC (X_u_exposure x (Exposure_u_threshold (X_exposure x) v)) (Y_u_threshold y v) c nk n nb := by
  obtain ⟨hA, ⟨⟨k1, k2, k3, -⟩, ⟨r1, r2, -⟩⟩, hP, hB, hM, hz⟩ := h
  exact ⟨hA, ⟨⟨k1, k2, k3, hv⟩, ⟨r1, r2, rfl⟩⟩, hP, hB, hM, hz⟩
theorem op_run {x : xSt} {y : ySt} (h : rel x y) (a b d e : Int32) : ∃ v x' y', f_MaskEdges_run a b d e x = some (v, x') ∧ f_MaskEdgesModel_run a b d e y = some (v, y') ∧ rel x' y' := by
  obtain ⟨c, nk, n, nb, nw, h⟩ := h
  have h0 := h
  obtain ⟨hn, hn2, hQ⟩ := h.2.2.1
  unfold f_MaskEdges_run f_MaskEdgesModel_run
  rw [v_wi a (show (1 : Int32).toInt = 1 from rfl) (show (20 : Int32).toInt = 20 from rfl), Option.bind_some, b2_iff, v_isB a (show (1 : Int64).toInt = 1 from rfl) (show (20 : Int64).toInt = 20 from rfl), Option.bind_some, b2_iff]
  by_cases ga : 1 ≤ a.toInt ∧ a.toInt ≤ 20
  · rw [if_pos ga, if_pos ga, v_wi b (show (1 : Int32).toInt = 1 from rfl) (show (100000 : Int32).toInt = 100000 from rfl), Option.bind_some, b2_iff, v_isB b (show (1 : Int64).toInt = 1 from rfl) (show (100000 : Int64).toInt = 100000 from rfl), Option.bind_some, b2_iff]
    by_cases gb : 1 ≤ b.toInt ∧ b.toInt ≤ 100000
    · rw [if_pos gb, if_pos gb, v_wi d (show (1 : Int32).toInt = 1 from rfl) (show (4 : Int32).toInt = 4 from rfl), Option.bind_some, b2_iff, v_isB d (show (1 : Int64).toInt = 1 from rfl) (show (4 : Int64).toInt = 4 from rfl), Option.bind_some, b2_iff]
      by_cases gd : 1 ≤ d.toInt ∧ d.toInt ≤ 4
      · rw [if_pos gd, if_pos gd, v_wi e (show (1 : Int32).toInt = 1 from rfl) (show (6 : Int32).toInt = 6 from rfl), Option.bind_some, b2_iff, v_isB e (show (1 : Int64).toInt = 1 from rfl) (show (6 : Int64).toInt = 6 from rfl), Option.bind_some, b2_iff]
        by_cases ge : 1 ≤ e.toInt ∧ e.toInt ≤ 6
        · rw [if_pos ge, if_pos ge, hn, hQ.1]
          by_cases z : nI n = 0
          · rw [if_pos z, if_pos z]
            exact ⟨_, _, _, rfl, rfl, c, nk, n, nb, nw, h0⟩
          · rw [if_neg z, if_neg z]
            have ht := C_thr (rel_C h0) gb
            generalize X_u_exposure x (Exposure_u_threshold (X_exposure x) b) = x1 at ht ⊢
            generalize Y_u_threshold y b = y1 at ht ⊢
            obtain ⟨m, t, ek, gk⟩ := v_makeC ht
            have hm := C_made ht m (gS_z gk)
            have es : Y_sums (Y_u_sums (Y_u_mask y1 m) t) = t := y_sg2 _ _ _
            rw [ek, Option.bind_some]
            generalize Y_u_sums (Y_u_mask y1 m) t = y2 at hm es ⊢
            have hm2 := C_yk hm 0
            obtain ⟨w1, w2⟩ := C_worst hm2 (by rw [y_sk, es]; exact gk)
            have g0 : xin (0 : Int32) 21 = true := by decide
            have c00 : (0 : Int32).toNatClampNeg = 0 := rfl
            rw [w1, w2, Option.bind_some, Option.bind_some, if_pos g0, if_pos g0, c00, y_wk]
            generalize wst (EX x1 nk) n = w
            have ea : a = nI a.toInt.toNat := i_of (by omega)
            rw [ea]
            refine run_loop (rounds := a.toInt.toNat) (by omega) (by omega : 0 ≤ d.toInt) ge a.toInt.toNat 0 100000 100000 _ _ (by omega) (by omega) (by omega) (C_yw (C_xw hm2 _) _) (by rw [y_sw, y_sk, x_mw, es]; exact gk) ⟨?_, fun k hk => ?_⟩
            · rw [y_kw, y_kk]; rfl
            · rw [x_ww, y_ww]
              unfold upd
              rw [if_pos (by omega), if_pos (by omega)]
        · rw [if_neg ge, if_neg ge]
          exact ⟨_, _, _, rfl, rfl, c, nk, n, nb, nw, h0⟩
      · rw [if_neg gd, if_neg gd]
        exact ⟨_, _, _, rfl, rfl, c, nk, n, nb, nw, h0⟩
    · rw [if_neg gb, if_neg gb]
      exact ⟨_, _, _, rfl, rfl, c, nk, n, nb, nw, h0⟩
  · rw [if_neg ga, if_neg ga]
    exact ⟨_, _, _, rfl, rfl, c, nk, n, nb, nw, h0⟩
