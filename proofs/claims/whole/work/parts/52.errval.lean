/-! The error of a piece, in both. -/
def midI (p : t_Piece) : Int32 := (Piece_low p + Piece_high p - 1) / 2
def bXI (p : t_Piece) (f : Int32) : Int32 := if Piece_alongX p = 0 then Piece_line p + f else midI p
def bYI (p : t_Piece) (f : Int32) : Int32 := if Piece_alongX p = 0 then midI p else Piece_line p + f
def upP (p : t_Piece) : Bool := decide (0 < (Piece_outward p).toInt)
def finI (p : t_Piece) : Int32 := if upP p = true then -1 else 0
def farI (p : t_Piece) (good : Bool) (n : Nat) : Int32 := if good = upP p then nI n else -1 - nI n
def okIn (p : t_Piece) : Prop := (Piece_outward p).toInt ≠ 0 → Piece_insideX p = bXI p (finI p) ∧ Piece_insideY p = bYI p (finI p)
def stp (P : Nat → Bool) : Nat → Nat → Nat
  | 0, n => n
  | f + 1, n => if P n then stp P f (n + 1) else n
theorem stp_le {P : Nat → Bool} : ∀ f n, n ≤ stp P f n ∧ stp P f n ≤ n + f := by
  intro f
  induction f with
  | zero => intro n; exact ⟨Nat.le_refl _, Nat.le_refl _⟩
  | succ f ih =>
    intro n
    show n ≤ (if P n then stp P f (n + 1) else n) ∧ (if P n then stp P f (n + 1) else n) ≤ n + (f + 1)
    have := ih (n + 1)
    split <;> omega
theorem stp_congr {P Q : Nat → Bool} (h : ∀ n, P n = Q n) : ∀ f n, stp P f n = stp Q f n := by
  intro f
  induction f with
  | zero => intro n; rfl
  | succ f ih => intro n; show (if P n then stp P f (n + 1) else n) = (if Q n then stp Q f (n + 1) else n); rw [h, ih]
def erP (e : t_Exposure) (nk : Nat) (M : Nat → Nat → Bool) (p : t_Piece) (d : Int) (good : Bool) (n : Nat) : Bool := gr (bXI p (farI p good n)).toInt (bYI p (farI p good n)).toInt && (pr e nk M (bXI p (farI p good n)).toInt (bYI p (farI p good n)).toInt d == good)
def erG (e : t_Exposure) (nk : Nat) (M : Nat → Nat → Bool) (p : t_Piece) (d : Int) : Bool := pr e nk M (bXI p (finI p)).toInt (bYI p (finI p)).toInt d
def erN (e : t_Exposure) (nk : Nat) (M : Nat → Nat → Bool) (p : t_Piece) (d : Int) : Nat := stp (erP e nk M p d (erG e nk M p d)) 8 0
def erV (e : t_Exposure) (nk : Nat) (M : Nat → Nat → Bool) (p : t_Piece) (d : Int) : Int32 := if Piece_outward p = 0 then 0 else if erG e nk M p d = true then nI (erN e nk M p d) else -nI (erN e nk M p d)
theorem erV_congr {e : t_Exposure} {nk : Nat} {M N : Nat → Nat → Bool} (h : ∀ a b, a < 48 → b < 48 → M a b = N a b) (p : t_Piece) (d : Int) : erV e nk M p d = erV e nk N p d := by
  have hg : erG e nk M p d = erG e nk N p d := pr_congr h _ _ _
  have hp : ∀ good n, erP e nk M p d good n = erP e nk N p d good n := by
    intro good n
    unfold erP
    rw [pr_congr h]
  unfold erV erN
  rw [hg, stp_congr (hp _)]
/-- an error says nothing of the move -/
theorem erV_move {e : t_Exposure} {nk : Nat} {M : Nat → Nat → Bool} {p q : t_Piece} {d : Int} (h1 : Piece_alongX p = Piece_alongX q) (h2 : Piece_line p = Piece_line q) (h3 : Piece_low p = Piece_low q) (h4 : Piece_high p = Piece_high q) (h5 : Piece_outward p = Piece_outward q) : erV e nk M p d = erV e nk M q d := by
  have u : upP p = upP q := by unfold upP; rw [h5]
  have m : midI p = midI q := by unfold midI; rw [h3, h4]
  have x : ∀ f, bXI p f = bXI q f := fun f => by unfold bXI; rw [h1, h2, m]
  have y : ∀ f, bYI p f = bYI q f := fun f => by unfold bYI; rw [h1, h2, m]
  have fi : finI p = finI q := by unfold finI; rw [u]
  have fa : ∀ g n, farI p g n = farI q g n := fun g n => by unfold farI; rw [u]
  have hg : erG e nk M p d = erG e nk M q d := by unfold erG; rw [x, y, fi]
  have hp : ∀ good n, erP e nk M p d good n = erP e nk M q d good n := by
    intro good n
    unfold erP
    rw [x, y, fa]
  unfold erV erN
  rw [hg, stp_congr (hp _), h5]
theorem erV_b (e : t_Exposure) (nk : Nat) (M : Nat → Nat → Bool) (p : t_Piece) (d : Int) : -8 ≤ (erV e nk M p d).toInt ∧ (erV e nk M p d).toInt ≤ 8 := by
  have h := stp_le (P := erP e nk M p d (erG e nk M p d)) 8 0
  have hn : erN e nk M p d ≤ 8 := by unfold erN; omega
  have i1 : (nI (erN e nk M p d)).toInt = erN e nk M p d := i_n (by omega)
  have i2 : (-nI (erN e nk M p d)).toInt = -(erN e nk M p d : Int) := by rw [i_neg (by omega), i1]
  unfold erV
  split
  · exact ⟨by decide, by decide⟩
  · split
    · rw [i1]; omega
    · rw [i2]; omega
theorem v_besideX {p : t_Piece} {y : ySt} {k : Nat} (hk : k < 120) (hr : relQ p y k) (f : Int32) : f_MaskEdgesModel_besideX y (nI k) f = some (bXI p f) ∧ f_MaskEdgesModel_besideY y (nI k) f = some (bYI p f) := by
  obtain ⟨r1, r2, r3, r4, -⟩ := hr
  have gk : xin (nI k) 120 = true := xin_n hk (by omega)
  have ck : (nI k).toNatClampNeg = k := nI_clamp (by omega)
  unfold f_MaskEdgesModel_besideX f_MaskEdgesModel_besideY f_MaskEdgesModel_middle bXI bYI midI
  rw [if_pos gk, if_pos gk, ck, r1, r2, r3, r4, if_pos gk, if_pos gk, if_pos gk]
  by_cases c : Piece_alongX p = 0
  · simp only [if_pos c, Option.bind_some, and_self]
  · simp only [if_neg c, Option.bind_some, and_self]
theorem out_le {p : t_Piece} : (Piece_outward p ≤ 0) ↔ upP p = false := by
  unfold upP
  rw [i_le, c0, decide_eq_false_iff_not]
  omega
theorem v_errorAt {e : t_Exposure} {nk : Nat} (hE : okE e nk) {y : ySt} (hr : relE e y nk) {M : Nat → Nat → Bool} (hS : gS (Y_sums y) M) {p : t_Piece} {k : Nat} (hk : k < 120) (hq : relQ p y k) {d : Int32} (hd : 1 ≤ d.toInt ∧ d.toInt ≤ 1000) : f_MaskEdgesModel_errorAt y (nI k) d = some (erV e nk M p d.toInt) := by
  have gk : xin (nI k) 120 = true := xin_n hk (by omega)
  have ck : (nI k).toNatClampNeg = k := nI_clamp (by omega)
  have ro : Y_out y k = Piece_outward p := hq.2.2.2.2.2.2.1
  have loop : ∀ good : Bool, ∀ f n fuel : Nat, f + n = 8 → f + 2 ≤ fuel → xloop (fun r => f_MaskEdgesModel_errorAt_51 y r (f_MaskEdgesModel_errorAt_177 y)) (fun _ _ _ _ _ => none) fuel (nI k) d (b2 good) (nI n) 1 = f_MaskEdgesModel_errorAt_177 y (b2 good) (nI (stp (erP e nk M p d.toInt good) f n)) := by
    intro good f
    induction f with
    | zero =>
      intro n fuel hn hf
      obtain ⟨fl, rfl⟩ : ∃ fl, fuel = fl + 1 := ⟨fuel - 1, by omega⟩
      show f_MaskEdgesModel_errorAt_51 y _ _ (nI k) d (b2 good) (nI n) 1 = _
      unfold f_MaskEdgesModel_errorAt_51
      rw [if_neg (show ¬ (1 : Int32) = 0 by decide), show n = 8 from by omega, if_pos (show (8 : Int32) ≤ nI 8 by decide)]
      rfl
    | succ f ih =>
      intro n fuel hn hf
      obtain ⟨fl, rfl⟩ : ∃ fl, fuel = fl + 1 := ⟨fuel - 1, by omega⟩
      show f_MaskEdgesModel_errorAt_51 y (xloop (fun r => f_MaskEdgesModel_errorAt_51 y r (f_MaskEdgesModel_errorAt_177 y)) (fun _ _ _ _ _ => none) fl) (f_MaskEdgesModel_errorAt_177 y) (nI k) d (b2 good) (nI n) 1 = _
      have more1 : ∀ m, f + m = 8 → xloop (fun r => f_MaskEdgesModel_errorAt_51 y r (f_MaskEdgesModel_errorAt_177 y)) (fun _ _ _ _ _ => none) fl (nI k) d (b2 good) (nI m) 1 = f_MaskEdgesModel_errorAt_177 y (b2 good) (nI (stp (erP e nk M p d.toInt good) f m)) := fun m hm => ih m fl hm (by omega)
      have more0 : ∀ m : Int32, xloop (fun r => f_MaskEdgesModel_errorAt_51 y r (f_MaskEdgesModel_errorAt_177 y)) (fun _ _ _ _ _ => none) fl (nI k) d (b2 good) m 0 = f_MaskEdgesModel_errorAt_177 y (b2 good) m := by
        intro m
        obtain ⟨fl2, rfl⟩ : ∃ fl2, fl = fl2 + 1 := ⟨fl - 1, by omega⟩
        show f_MaskEdgesModel_errorAt_51 y _ _ (nI k) d (b2 good) m 0 = _
        unfold f_MaskEdgesModel_errorAt_51
        rw [if_pos rfl]
      generalize xloop (fun r => f_MaskEdgesModel_errorAt_51 y r (f_MaskEdgesModel_errorAt_177 y)) (fun _ _ _ _ _ => none) fl = rr at more1 more0
      have k107 : f_MaskEdgesModel_errorAt_107 y rr (nI k) d (b2 good) (nI n) (farI p good n) = f_MaskEdgesModel_errorAt_177 y (b2 good) (nI (stp (erP e nk M p d.toInt good) (f + 1) n)) := by
        unfold f_MaskEdgesModel_errorAt_107 f_MaskEdgesModel_errorAt_155 f_MaskEdgesModel_errorAt_156 f_MaskEdgesModel_errorAt_172
        rw [(v_besideX hk hq _).1, Option.bind_some, (v_besideX hk hq _).2, Option.bind_some, v_isCell, Option.bind_some, b2_if, v_doesPrint hE hr hS _ _ _ hd, Option.bind_some]
        have es : stp (erP e nk M p d.toInt good) (f + 1) n = if erP e nk M p d.toInt good n then stp (erP e nk M p d.toInt good) f (n + 1) else n := rfl
        rw [es]
        unfold erP
        rw [if_pos (show (0 : Int32) = 0 from rfl), if_neg (show ¬ (1 : Int32) = 0 by decide)]
        by_cases hg : gr (bXI p (farI p good n)).toInt (bYI p (farI p good n)).toInt = true
        · rw [if_pos hg, hg, Bool.true_and]
          by_cases hh : pr e nk M (bXI p (farI p good n)).toInt (bYI p (farI p good n)).toInt d.toInt = good
          · rw [if_pos (b2_inj.mpr hh), hh, if_pos (by simp), nI_1]
            exact more1 (n + 1) (by omega)
          · rw [if_neg (fun z => hh (b2_inj.mp z)), if_neg (by simpa using hh)]
            exact more0 _
        · rw [if_neg hg]
          rw [Bool.not_eq_true] at hg
          rw [hg, Bool.false_and, if_neg (by decide)]
          exact more0 _
      unfold f_MaskEdgesModel_errorAt_51
      rw [if_neg (show ¬ (1 : Int32) = 0 by decide), if_neg (by rw [i_le, i_n (by omega)]; show ¬ (8 : Int) ≤ _; omega), b2_if, if_pos gk, ck, ro]
      unfold farI at k107
      by_cases c : Piece_outward p ≤ 0
      · have u := out_le.mp c
        rw [if_pos c, if_pos c]
        rw [u] at k107
        cases good with
        | true => rw [if_pos rfl]; rw [if_neg (by decide)] at k107; exact k107
        | false => rw [if_neg (show ¬ false = true by decide), if_pos gk]; rw [if_pos rfl] at k107; exact k107
      · have u : upP p = true := by
          cases hu : upP p with
          | true => rfl
          | false => exact absurd (out_le.mpr hu) c
        rw [if_neg c, if_neg c]
        rw [u] at k107
        cases good with
        | true => rw [if_pos rfl]; rw [if_pos rfl] at k107; exact k107
        | false => rw [if_neg (show ¬ false = true by decide), if_pos gk]; rw [if_neg (by decide)] at k107; exact k107
  unfold f_MaskEdgesModel_errorAt erV
  rw [if_pos gk, ck, ro, if_pos gk]
  by_cases c0' : Piece_outward p = 0
  · rw [if_pos c0', if_pos c0']
  · rw [if_neg c0', if_neg c0']
    have k25 : f_MaskEdgesModel_errorAt_25 y (nI k) d (finI p) = some (if erG e nk M p d.toInt = true then nI (erN e nk M p d.toInt) else -nI (erN e nk M p d.toInt)) := by
      unfold f_MaskEdgesModel_errorAt_25
      rw [(v_besideX hk hq _).1, Option.bind_some, (v_besideX hk hq _).2, Option.bind_some, v_doesPrint hE hr hS _ _ _ hd, Option.bind_some]
      have := loop (erG e nk M p d.toInt) 8 0 100000 rfl (by omega)
      rw [show nI 0 = 0 from rfl] at this
      refine Eq.trans this ?_
      unfold f_MaskEdgesModel_errorAt_177
      rw [b2_if]
      show (if _ then some (nI (erN e nk M p d.toInt)) else some (-nI (erN e nk M p d.toInt))) = _
      split <;> rfl
    unfold finI at k25
    by_cases c : Piece_outward p ≤ 0
    · rw [if_pos c]
      rw [out_le.mp c, if_neg (by decide)] at k25
      exact k25
    · rw [if_neg c]
      have u : upP p = true := by
        cases hu : upP p with
        | true => rfl
        | false => exact absurd (out_le.mpr hu) c
      rw [u, if_pos rfl] at k25
      exact k25

theorem pieces_out {p : t_Piece} (h : okP p) (h0 : ¬ Piece_outward p = 0) : (Piece_outward p = 1 ∧ upP p = true) ∨ (Piece_outward p = -1 ∧ upP p = false) := by
  obtain ⟨-, h2, -⟩ := h
  rw [i_eq, c0] at h0
  unfold upP
  rcases h2 with h | h | h
  · exact Or.inr ⟨by rw [i_eq, h]; rfl, by rw [h]; rfl⟩
  · exact absurd h h0
  · exact Or.inl ⟨by rw [i_eq, h]; rfl, by rw [h]; rfl⟩
theorem far_m {n : Nat} (h : n ≤ 16) : (-1 - nI n : Int32) + -1 = -1 - nI (n + 1) := by
  have a1 : (nI n).toInt = n := i_n (by omega)
  have a2 : (nI (n + 1)).toInt = ((n + 1 : Nat) : Int) := i_n (by omega)
  have a3 : (-1 : Int32).toInt = -1 := rfl
  have s1 : (-1 - nI n : Int32).toInt = -1 - (n : Int) := by rw [i_sub (by rw [a1, a3]; omega) (by rw [a1, a3]; omega), a1, a3]
  have s2 : (-1 - nI (n + 1) : Int32).toInt = -1 - ((n + 1 : Nat) : Int) := by rw [i_sub (by rw [a2, a3]; omega) (by rw [a2, a3]; omega), a2, a3]
  rw [i_eq, i_add (by rw [s1, a3]; omega) (by rw [s1, a3]; omega), s1, s2, a3]
  omega
/-- the way that the count goes -/
def wayI (p : t_Piece) (good : Bool) : Int32 := if good = true then Piece_outward p else -Piece_outward p
theorem far_step {p : t_Piece} (h : okP p) (h0 : ¬ Piece_outward p = 0) (good : Bool) {n : Nat} (hn : n ≤ 16) : farI p good n + wayI p good = farI p good (n + 1) := by
  unfold farI wayI
  rcases pieces_out h h0 with ⟨o, u⟩ | ⟨o, u⟩
  · rw [o, u]
    cases good with
    | true => rw [if_pos rfl, if_pos rfl, if_pos rfl, nI_1]
    | false => rw [if_neg (by decide), if_neg (by decide), if_neg (by decide)]; exact far_m hn
  · rw [o, u]
    cases good with
    | true => rw [if_neg (by decide), if_pos rfl, if_neg (by decide)]; exact far_m hn
    | false => rw [if_pos rfl, if_neg (by decide), if_pos rfl]; exact nI_1 n
theorem far_0 {p : t_Piece} (h : okP p) (h0 : ¬ Piece_outward p = 0) (good : Bool) : (if good = true then finI p + wayI p good else finI p) = farI p good 0 := by
  unfold farI wayI finI
  rcases pieces_out h h0 with ⟨o, u⟩ | ⟨o, u⟩ <;> rw [o, u] <;> cases good <;> rfl
theorem v_errorOf {st : xSt} {k nk : Nat} (hE : okE (X_exposure st) nk) (hp : okP (X_pieces st k)) (hi : okIn (X_pieces st k)) {d : Int32} (hd : 1 ≤ d.toInt ∧ d.toInt ≤ 1000) : f_MaskEdges_errorOf st k d = some (erV (X_exposure st) nk (cs (X_mask st)) (X_pieces st k) d.toInt) := by
  unfold f_MaskEdges_errorOf f_Piece_isFlat erV
  by_cases h0 : Piece_outward (X_pieces st k) = 0
  · rw [if_pos h0, if_pos h0]; rfl
  · rw [if_neg h0, if_neg h0, Option.bind_some, if_pos (show (0 : Int32) = 0 from rfl)]
    obtain ⟨ix, iy⟩ := hi (by rw [i_eq, c0] at h0; exact h0)
    have loop : ∀ good : Bool, ∀ f n fuel : Nat, f + n = 8 → f + 1 ≤ fuel → xloop (fun r => f_MaskEdges_errorOf_121 st r (f_MaskEdges_errorOf_178 st)) (fun _ _ _ _ _ _ _ => none) fuel d (b2 good) (if Piece_alongX (X_pieces st k) = 0 then wayI (X_pieces st k) good else 0) (if Piece_alongX (X_pieces st k) = 0 then 0 else wayI (X_pieces st k) good) (bXI (X_pieces st k) (farI (X_pieces st k) good n)) (bYI (X_pieces st k) (farI (X_pieces st k) good n)) (nI n) = f_MaskEdges_errorOf_178 st (b2 good) (nI (stp (erP (X_exposure st) nk (cs (X_mask st)) (X_pieces st k) d.toInt good) f n)) := by
      intro good f
      induction f with
      | zero =>
        intro n fuel hn hf
        obtain ⟨fl, rfl⟩ : ∃ fl, fuel = fl + 1 := ⟨fuel - 1, by omega⟩
        show f_MaskEdges_errorOf_121 st _ _ d (b2 good) _ _ _ _ (nI n) = _
        unfold f_MaskEdges_errorOf_121
        rw [show n = 8 from by omega, if_pos (show (8 : Int32) ≤ nI 8 by decide)]
        rfl
      | succ f ih =>
        intro n fuel hn hf
        obtain ⟨fl, rfl⟩ : ∃ fl, fuel = fl + 1 := ⟨fuel - 1, by omega⟩
        have ihn := ih (n + 1) fl (by omega) (by omega)
        show f_MaskEdges_errorOf_121 st (xloop (fun r => f_MaskEdges_errorOf_121 st r (f_MaskEdges_errorOf_178 st)) (fun _ _ _ _ _ _ _ => none) fl) (f_MaskEdges_errorOf_178 st) d (b2 good) _ _ _ _ (nI n) = _
        generalize xloop (fun r => f_MaskEdges_errorOf_121 st r (f_MaskEdges_errorOf_178 st)) (fun _ _ _ _ _ _ _ => none) fl = rr at ihn
        unfold f_MaskEdges_errorOf_121
        rw [if_neg (by rw [i_le, i_n (by omega)]; show ¬ (8 : Int) ≤ _; omega), v_onGrid, Option.bind_some, b2_if, v_printsAt hE _ _ _ _ hd, Option.bind_some]
        have es : stp (erP (X_exposure st) nk (cs (X_mask st)) (X_pieces st k) d.toInt good) (f + 1) n = if erP (X_exposure st) nk (cs (X_mask st)) (X_pieces st k) d.toInt good n then stp (erP (X_exposure st) nk (cs (X_mask st)) (X_pieces st k) d.toInt good) f (n + 1) else n := rfl
        rw [es]
        have fs := far_step hp h0 good (n := n) (by omega)
        have ex : bXI (X_pieces st k) (farI (X_pieces st k) good n) + (if Piece_alongX (X_pieces st k) = 0 then wayI (X_pieces st k) good else 0) = bXI (X_pieces st k) (farI (X_pieces st k) good (n + 1)) := by
          unfold bXI
          by_cases c : Piece_alongX (X_pieces st k) = 0
          · rw [if_pos c, if_pos c, if_pos c, Int32.add_assoc, fs]
          · rw [if_neg c, if_neg c, if_neg c, add0]
        have ey : bYI (X_pieces st k) (farI (X_pieces st k) good n) + (if Piece_alongX (X_pieces st k) = 0 then 0 else wayI (X_pieces st k) good) = bYI (X_pieces st k) (farI (X_pieces st k) good (n + 1)) := by
          unfold bYI
          by_cases c : Piece_alongX (X_pieces st k) = 0
          · rw [if_pos c, if_pos c, if_pos c, add0]
          · rw [if_neg c, if_neg c, if_neg c, Int32.add_assoc, fs]
        rw [ex, ey, nI_1]
        have ep : erP (X_exposure st) nk (cs (X_mask st)) (X_pieces st k) d.toInt good n = (gr (bXI (X_pieces st k) (farI (X_pieces st k) good n)).toInt (bYI (X_pieces st k) (farI (X_pieces st k) good n)).toInt && (pr (X_exposure st) nk (cs (X_mask st)) (bXI (X_pieces st k) (farI (X_pieces st k) good n)).toInt (bYI (X_pieces st k) (farI (X_pieces st k) good n)).toInt d.toInt == good)) := rfl
        rw [ep]
        by_cases hg : gr (bXI (X_pieces st k) (farI (X_pieces st k) good n)).toInt (bYI (X_pieces st k) (farI (X_pieces st k) good n)).toInt = true
        · rw [if_pos hg, hg, Bool.true_and]
          by_cases hh : pr (X_exposure st) nk (cs (X_mask st)) (bXI (X_pieces st k) (farI (X_pieces st k) good n)).toInt (bYI (X_pieces st k) (farI (X_pieces st k) good n)).toInt d.toInt = good
          · rw [if_pos (b2_inj.mpr hh), hh, ihn, beq_self_eq_true, if_pos rfl]
          · rw [if_neg (fun z => hh (b2_inj.mp z)), if_neg (by simpa using hh)]
        · rw [if_neg hg]
          rw [Bool.not_eq_true] at hg
          rw [hg, Bool.false_and, if_neg (by decide)]
    rw [v_printsAt hE _ _ _ _ hd, Option.bind_some, b2_if, ix, iy]
    show (if erG (X_exposure st) nk (cs (X_mask st)) (X_pieces st k) d.toInt = true then f_MaskEdges_errorOf_46 st k d (b2 (erG (X_exposure st) nk (cs (X_mask st)) (X_pieces st k) d.toInt)) (Piece_outward (X_pieces st k)) else f_MaskEdges_errorOf_46 st k d (b2 (erG (X_exposure st) nk (cs (X_mask st)) (X_pieces st k) d.toInt)) (-Piece_outward (X_pieces st k))) = _
    unfold erN
    generalize erG (X_exposure st) nk (cs (X_mask st)) (X_pieces st k) d.toInt = good
    have k46 : f_MaskEdges_errorOf_46 st k d (b2 good) (wayI (X_pieces st k) good) = some (if good = true then nI (stp (erP (X_exposure st) nk (cs (X_mask st)) (X_pieces st k) d.toInt good) 8 0) else -nI (stp (erP (X_exposure st) nk (cs (X_mask st)) (X_pieces st k) d.toInt good) 8 0)) := by
      have l8 := loop good 8 0 100000 rfl (by omega)
      have f0 := far_0 hp h0 good
      unfold f_MaskEdges_errorOf_46 f_MaskEdges_errorOf_61 f_MaskEdges_errorOf_76 f_MaskEdges_errorOf_96 f_MaskEdges_errorOf_116
      rw [ix, iy, b2_if]
      have k178 : f_MaskEdges_errorOf_178 st (b2 good) (nI (stp (erP (X_exposure st) nk (cs (X_mask st)) (X_pieces st k) d.toInt good) 8 0)) = some (if good = true then nI (stp (erP (X_exposure st) nk (cs (X_mask st)) (X_pieces st k) d.toInt good) 8 0) else -nI (stp (erP (X_exposure st) nk (cs (X_mask st)) (X_pieces st k) d.toInt good) 8 0)) := by
        unfold f_MaskEdges_errorOf_178
        rw [b2_if]
        split <;> rfl
      rw [k178] at l8
      by_cases c : Piece_alongX (X_pieces st k) = 0
      · simp only [if_pos c, b2_if] at l8 ⊢
        cases good with
        | true =>
          rw [if_pos rfl] at f0
          rw [if_pos rfl, if_pos rfl]
          refine Eq.trans ?_ l8
          unfold bXI bYI
          rw [if_pos c, if_pos c, if_pos c, if_pos c, ← f0, Int32.add_assoc, add0]
          rfl
        | false =>
          rw [if_neg (by decide)] at f0
          rw [if_neg (by decide), if_neg (by decide)]
          refine Eq.trans ?_ l8
          rw [← f0]
          rfl
      · simp only [if_neg c, b2_if] at l8 ⊢
        cases good with
        | true =>
          rw [if_pos rfl] at f0
          rw [if_pos rfl, if_pos rfl]
          refine Eq.trans ?_ l8
          unfold bXI bYI
          rw [if_neg c, if_neg c, if_neg c, if_neg c, ← f0, Int32.add_assoc, add0]
          rfl
        | false =>
          rw [if_neg (by decide)] at f0
          rw [if_neg (by decide), if_neg (by decide)]
          refine Eq.trans ?_ l8
          rw [← f0]
          rfl
    unfold wayI at k46
    cases good with
    | true => rw [if_pos rfl] at k46 ⊢; rw [if_pos rfl] at k46 ⊢; exact k46
    | false => rw [if_neg (by decide)] at k46 ⊢; rw [if_neg (by decide)] at k46 ⊢; exact k46
