/-! MY LAYER: contracts at a heap that is named, calls, worlds by places, the loop of a functional model. -/
abbrev xG : Type := va_G × (Nat → ClassId)
def xTy (X : xG) : List (ClassId × FieldType) := [(X.2 0, .int), (X.2 1, .long), (X.2 2, .object "MaskEdges$Outline"), (X.2 3, .object "MaskEdges$Piece"), (X.2 4, .object "MaskEdges$Box"), (X.2 5, .boolean)]
def xK (X : xG) (U : State) : Prop := va_K X.1 vwCl (xTy X) U ∧ ∀ w ∈ xNl, va_Nw w U
theorem xNl_form : ∀ w ∈ xNl, ∃ (a : String) (i : Nat) (x : MethodName) (h : String), w = .methodLinkNest a i x h := by
  intro w hw
  simp only [xNl, List.mem_cons, List.mem_nil_iff, or_false] at hw
  rcases hw with rfl | rfl | rfl | rfl | rfl | rfl | rfl | rfl | rfl <;> exact ⟨_, _, _, _, rfl⟩
theorem xK.moved {X : xG} {s U : State} (hW : s.WarmedH U.vm) (h : xK X s) : xK X U := by
  refine ⟨va_K.moved hW.alike h.1, fun w hw => ?_⟩
  have h2 := h.2 w hw
  obtain ⟨a, i, x, q, rfl⟩ := xNl_form w hw
  exact va_Nw.warmM hW h2
theorem xK.blind {X : xG} {U : State} {g : JFrame} {mk : MethodId} {a : Array Value} (h : xK X U) : xK X (U.calling g mk a) := by
  refine ⟨va_K.moved (u := U) (U := U.calling g mk a) (Vm.Alike.refl U.vm) h.1, fun w hw => ?_⟩
  have h2 := h.2 w hw
  obtain ⟨b, i, x, q, rfl⟩ := xNl_form w hw
  exact va_Nw.same rfl rfl h2
theorem xgC {c : Cond} (h : c ∈ xT) : GoodIn xT (c :: xT) := by
  intro w hw
  have h1 : w ∈ xT := by
    rcases List.mem_cons.mp hw with e | e
    · rw [e]; exact h
    · exact e
  exact ⟨h1, (xTg w h1).2⟩
theorem xgS {own : String} {idx : Nat} {y : MethodName} {c : Cond} (h1 : Cond.methodLink own idx y ∈ xT) (h2 : Cond.static y ∈ xT) (h3 : Cond.initialized own ∈ xT) (h : c ∈ xT) : GoodIn xT (wsS own idx y (c :: xT)) := by
  intro w hw
  unfold wsS at hw
  rcases List.mem_append.mp hw with e | e
  · simp only [List.mem_cons, List.mem_nil_iff, or_false] at e
    rcases e with rfl | rfl | rfl
    · exact ⟨h1, (xTg _ h1).2⟩
    · exact ⟨h2, (xTg _ h2).2⟩
    · exact ⟨h3, (xTg _ h3).2⟩
  · exact xgC h w e
theorem xgV {own C : String} {idx : Nat} {y : MethodName} {c : Cond} (h1 : Cond.methodLink own idx y ∈ xT) (h2 : Cond.instanceMethod y ∈ xT) (h3 : Cond.selects C y y ∈ xT) (h4 : Cond.initialized C ∈ xT) (h : c ∈ xT) : GoodIn xT (wsV own idx C y (c :: xT)) := by
  intro w hw
  unfold wsV at hw
  rcases List.mem_append.mp hw with e | e
  · simp only [List.mem_cons, List.mem_nil_iff, or_false] at e
    rcases e with rfl | rfl | rfl | rfl
    · exact ⟨h1, (xTg _ h1).2⟩
    · exact ⟨h2, (xTg _ h2).2⟩
    · exact ⟨h3, (xTg _ h3).2⟩
    · exact ⟨h4, (xTg _ h4).2⟩
  · exact xgC h w e
theorem xPS {X : xG} {s : State} {H : Heap} {As : List Value} (h : xK X s) : PreS s H (va_Pc As (fun U => U.heap = H ∧ xK X U)) As :=
  ⟨fun _ _ _ _ q => ⟨q.1, q.2.1, xK.blind q.2.2⟩, fun _ hU hW => ⟨rfl, hU, xK.moved hW h⟩⟩
theorem xPV {X : xG} {s : State} {H : Heap} {C : String} {b : Addr} {As : List Value} (h : xK X s) (hr : ∃ cell : Cell, H[b]? = some cell ∧ cell.vm.isStatics = false ∧ s.vm.findClass C = some cell.cls) : PreV s H C b (va_Pc (.ref b :: As) (fun U => U.heap = H ∧ xK X U)) As :=
  ⟨fun _ _ _ _ q => ⟨q.1, q.2.1, xK.blind q.2.2⟩, hr, fun _ hU hW => ⟨rfl, hU, xK.moved hW h⟩⟩
-- the functional models: Option; a loop by fuel
def xloop {α : Type} (F : α → α) (z : α) : Nat → α
  | 0 => z
  | n + 1 => F (xloop F z n)
theorem x_t {c : Prop} {_ : Decidable c} {α : Type} {a b r : α} (h : c) (hf : (if c then a else b) = r) : a = r := by rw [if_pos h] at hf; exact hf
theorem x_f {c : Prop} {_ : Decidable c} {α : Type} {a b r : α} (h : ¬ c) (hf : (if c then a else b) = r) : b = r := by rw [if_neg h] at hf; exact hf
/-- behind a guard that must hold -/
theorem x_g {c : Prop} {_ : Decidable c} {α : Type} {a : Option α} {r : α} (hf : (if c then a else none) = some r) : c ∧ a = some r := by
  by_cases h : c
  · rw [if_pos h] at hf; exact ⟨h, hf⟩
  · rw [if_neg h] at hf; cases hf
/-- behind a guard that must not hold -/
theorem x_n {c : Prop} {_ : Decidable c} {α : Type} {a : Option α} {r : α} (hf : (if c then none else a) = some r) : ¬ c ∧ a = some r := by
  by_cases h : c
  · rw [if_pos h] at hf; cases hf
  · rw [if_neg h] at hf; exact ⟨h, hf⟩
theorem x_b {α β : Type} {o : Option α} {f : α → Option β} {r : β} (hf : o.bind f = some r) : ∃ x, o = some x ∧ f x = some r := by
  cases o with
  | none => cases hf
  | some x => exact ⟨x, rfl, hf⟩
theorem x_s {α : Type} {a b : α} (h : some a = some b) : a = b := Option.some.inj h
def xin (i : Int32) (n : Nat) : Bool := decide (¬ (i < 0 ∨ n ≤ i.toNatClampNeg))
theorem xin_in {i : Int32} {n : Nat} (h : xin i n = true) : vp_in i n := of_decide_eq_true (p := ¬ (i < 0 ∨ n ≤ i.toNatClampNeg)) h
theorem xin_lt {i : Int32} {n : Nat} (h : xin i n = true) : i.toNatClampNeg < n := Nat.not_le.mp fun q => (of_decide_eq_true h) (Or.inr q)
/-- a boolean's two numbers -/
def xz (v : Int32) : Bool := decide (v = 0 ∨ v = 1)
theorem xz_n {v : Int32} (h : xz v = true) : narrow .boolean (.int v) = .int v := by
  rcases of_decide_eq_true h with rfl | rfl <;> rfl
theorem xz_f {v : Int32} (h : xz v = true) : fits .boolean (.int v) = true := by
  rcases of_decide_eq_true h with rfl | rfl <;> rfl
theorem x_out {x : Int32} {lo hi : Int} (h1 : -2147483648 ≤ lo) (h2 : hi < 2147483648) (h : ∀ j : Int, lo ≤ j → j ≤ hi → ¬ x = Int32.ofInt j) : x.toInt < lo ∨ hi < x.toInt := by
  by_cases a : x.toInt < lo
  · exact Or.inl a
  · by_cases b : hi < x.toInt
    · exact Or.inr b
    · exact absurd (Int32.ofInt_toInt x).symm (h x.toInt (by omega) (by omega))
-- worlds
theorem xp_nil {D : va_G} {cl : List vw_C} {H : Heap} : va_P D cl [] H := fun k q h => by simp at h
theorem xp_cons {D : va_G} {cl : List vw_C} {H : Heap} {q : Nat × va_E} {ws : va_W} (h : va_at D cl q H) (t : va_P D cl ws H) : va_P D cl (q :: ws) H := by
  intro k q' hk
  cases k with
  | zero => rw [List.getElem?_cons_zero] at hk; cases hk; exact h
  | succ k => rw [List.getElem?_cons_succ] at hk; exact t k q' hk
/-- the addresses that a method may write to -/
def xAl (L : List Nat) : Nat → Prop := fun q => q ∈ L
def xNo : Nat → Prop := fun _ => False
/-- cells that a method doesn't write to are at every later heap what they were -/
theorem xkept {D : va_G} {cl : List vw_C} {ws : va_W} {A : Nat → Prop} {H0 H : Heap} {locs : List Loc} (h : va_P D cl ws H0) (hno : ∀ q ∈ ws.map Prod.fst, ¬ A q) (hS : va_S A H0 H locs) : va_P D cl ws H :=
  h.kept (fun k q hk => hS.2.1 q.1 (h k q hk).lt (hno q.1 (List.mem_map.mpr ⟨q, List.mem_of_getElem? hk, rfl⟩)))
/-- what a call has left of the heap -/
def xFr (A : Nat → Prop) (H H1 : Heap) (L : List Loc) : Prop := H.size ≤ H1.size ∧ (∀ q : Nat, q < H.size → ¬ A q → H1[q]? = H[q]?) ∧ ∀ q ∈ L, A q.base
theorem xS_call {A B : Nat → Prop} {H0 H H1 : Heap} {locs L : List Loc} (hS : va_S A H0 H locs) (h : xFr B H H1 L) (hB : ∀ q, B q → A q) : va_S A H0 H1 (locs ++ L) := by
  refine ⟨Nat.le_trans hS.1 h.1, fun q h1 h2 => ?_, fun q hq => ?_⟩
  · rw [h.2.1 q (Nat.lt_of_lt_of_le h1 hS.1) (fun z => h2 (hB q z))]
    exact hS.2.1 q h1 h2
  · rcases List.mem_append.mp hq with h3 | h3
    · exact hS.2.2 q h3
    · exact hB _ (h.2.2 q h3)
/-- a world behind a call: each cell is one that the call left, or as the call has it -/
theorem xback {D : va_G} {cl : List vw_C} {ws ws' : va_W} {A : Nat → Prop} {H H1 : Heap} {L : List Loc} (hP : va_P D cl ws H) (h : xFr A H H1 L) (hw : ∀ (k : Nat) (q : Nat × va_E), ws'[k]? = some q → (ws[k]? = some q ∧ ¬ A q.1) ∨ va_at D cl q H1) : va_P D cl ws' H1 := by
  intro k q hk
  rcases hw k q hk with ⟨h1, h2⟩ | h1
  · exact (hP k q h1).kept (h.2.1 q.1 (hP k q h1).lt h2)
  · exact h1
theorem x_F0 {s t : State} (h : t.heap = s.heap) : va_F xNo s t := ⟨by rw [h]; exact Nat.le_refl _, fun q _ _ => by rw [h]⟩
theorem x_l0 {A : Nat → Prop} : ∀ q ∈ ([] : List Loc), A q.base := fun _ h => by cases h
/-- a contract's end: the answer, the heap behind it, what isn't its own stays -/
def xQ (ov : Option Value) (Pic : Heap → Prop) (A : Nat → Prop) : Array Value → State → Outcome → State → Prop := fun _ st o t => (o = .returned ov ∧ Pic t.heap) ∧ va_F A st t
abbrev xM (l : Launch) (y : MethodName) (ws : List Cond) (rm : Room) (K : State → Prop) (av : List Value) (H : Heap) (A : Nat → Prop) (ov : Option Value) (Pic : Heap → Prop) : Prop :=
  Met l y ws rm (va_Pc av (fun U => U.heap = H ∧ K U)) (xQ ov Pic A) 0 0 A
section XC
variable {p : Program} {l : Launch} {e : Env} {R : Room} {s : State} {m : MethodId} {args : Array Value} {below : List Frame} {meth : Method} {c : Code} {H : Heap} {locs : List Loc} {cells slots : Nat} {Q : State → Prop}
variable {pc : Nat} {ls : Array Slot} {rest st0 : List Value} {a : Array Value} {A : Nat → Prop} {ov : Option Value} {Pic : Heap → Prop}
theorem xc (hr : va_Run p l e R s m args below meth c H locs cells slots 0 0 (F0 m pc ls st0) rest (xQ ov Pic A a) A)
    (kk : ∀ (H1 : Heap) (L : List Loc), Pic H1 → xFr A H H1 L → W p l e R s m args below meth c H1 (locs ++ L) cells slots Q (F0 m (pc + 3) ls (ov.toList ++ rest))) : W p l e R s m args below meth c H locs cells slots Q (F0 m pc ls st0) := by
  intro T hT X
  obtain ⟨v, st₀, t, T', L, h0, X', hL, e1, e2, ⟨⟨hv, hp⟩, hz, hk⟩, st⟩ := hr T hT X
  cases hv
  rw [h0] at hz hk
  obtain ⟨t2, a1, b1⟩ := kk T'.heap L (by rw [e1]; exact hp) ⟨by rw [e1]; exact hz, fun q h1 h2 => by rw [e1]; exact hk q h1 h2, hL⟩ T' rfl X'
  exact ⟨t2, st t2 a1, b1⟩
/-- a call that writes nothing -/
theorem xcR (hr : va_Run p l e R s m args below meth c H locs cells slots 0 0 (F0 m pc ls st0) rest (xQ ov (fun H1 => H1 = H) xNo a) xNo)
    (kk : W p l e R s m args below meth c H locs cells slots Q (F0 m (pc + 3) ls (ov.toList ++ rest))) : W p l e R s m args below meth c H locs cells slots Q (F0 m pc ls st0) := by
  refine xc hr (fun H1 L h1 h2 => ?_)
  subst h1
  have hL : L = [] := by
    cases L with
    | nil => rfl
    | cons q L => exact absurd (h2.2.2 q List.mem_cons_self) id
  rw [hL, List.append_nil]
  exact kk
end XC
section XC2
variable {p : Program} {l : Launch} {e : Env} {R : Room} {s : State} {m : MethodId} {args : Array Value} {below : List Frame} {meth : Method} {c : Code} {H : Heap} {locs : List Loc} {cells slots : Nat}
theorem x_Q {Q0 : State → Prop} {g : JFrame} (h : ∀ Q, Q = Q0 → W p l e R s m args below meth c H locs cells slots Q g) : W p l e R s m args below meth c H locs cells slots Q0 g := h _ rfl
end XC2
theorem xDl {L : List Nat} {ws : va_W} (h : ws.map Prod.fst = L) (hn : L.Nodup) : va_D (xAl L) ws := by
  subst h
  refine ⟨fun i j p q hi hj hpq => ?_, fun k q hk => List.mem_map.mpr ⟨q, List.mem_of_getElem? hk, rfl⟩⟩
  have h1 : (ws.map Prod.fst)[i]? = some p.1 := by rw [List.getElem?_map, hi]; rfl
  have h2 : (ws.map Prod.fst)[j]? = some p.1 := by rw [List.getElem?_map, hj, hpq]; rfl
  obtain ⟨hi', e1⟩ := List.getElem?_eq_some_iff.mp h1
  obtain ⟨hj', e2⟩ := List.getElem?_eq_some_iff.mp h2
  exact (List.getElem_inj (h₀ := hi') (h₁ := hj') hn).mp (e1.trans e2.symm)
theorem xnd1 (a : Nat) : [a].Nodup := by simp
