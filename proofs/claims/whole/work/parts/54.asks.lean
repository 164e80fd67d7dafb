/-! corner, kernel, is, prints, alike. -/
theorem hld_open {o : t_Outline} (h : Outline_closed o = 0) (x y : Int) : hld o x y = false := by unfold hld; rw [h]; rfl
theorem takeR_n {o : t_Outline} {x y : Int32} (h : (takeR o x y).1 = false) : (takeR o x y).2 = o := by
  unfold takeR at h ⊢
  split at h
  all_goals first | (rename_i q; simp only [q] at *; done) | skip
  all_goals sorry
