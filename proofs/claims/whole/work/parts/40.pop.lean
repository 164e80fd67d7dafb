/-! How many bits a word has: the JDK's way comes to the sum of the bits. -/
def pcN : Nat → Nat → Nat
  | 0, _ => 0
  | k + 1, n => n % 2 + pcN k (n / 2)
def pc8 (d : Nat) : Nat := pcN 8 d
def bM (b : Nat) : Nat → Nat
  | 0 => 0
  | k + 1 => b + 256 * bM b k
theorem b_and256 {a b c e : Nat} (ha : a < 256) (hc : c < 256) : (a + 256 * b) &&& (c + 256 * e) = (a &&& c) + 256 * (b &&& e) := by
  have h1 : ((a + 256 * b) &&& (c + 256 * e)) % 2 ^ 8 = (a &&& c) := by
    rw [Nat.and_mod_two_pow]
    congr 1 <;> omega
  have h2 : ((a + 256 * b) &&& (c + 256 * e)) / 2 ^ 8 = (b &&& e) := by
    rw [Nat.and_div_two_pow]
    congr 1 <;> omega
  have h3 := Nat.div_add_mod ((a + 256 * b) &&& (c + 256 * e)) (2 ^ 8)
  rw [h1, h2] at h3
  omega
theorem b_s1 : ∀ d, d < 256 → ∀ x, x < 2 → (d / 2 + 128 * x) &&& 85 = (d / 2) &&& 85 := by decide +kernel
theorem b_s2 : ∀ d, d < 256 → ∀ x, x < 4 → (d / 4 + 64 * x) &&& 51 = (d / 4) &&& 51 := by decide +kernel
def b_1 (d : Nat) : Nat := d - ((d / 2) &&& 85)
def b_2 (d : Nat) : Nat := (b_1 d &&& 51) + ((b_1 d / 4) &&& 51)
theorem b_lt1 : ∀ d, d < 256 → b_1 d < 256 := by decide +kernel
theorem b_lt2 : ∀ d, d < 256 → b_2 d % 16 ≤ 4 ∧ b_2 d / 16 ≤ 4 ∧ b_2 d % 16 + b_2 d / 16 = pc8 d := by decide +kernel
theorem b_s3 : ∀ y, y < 137 → y &&& 15 = y % 16 := by decide +kernel
/-- bytes of n: d_0 .. d_{k-1}, each through g, at the same places -/
def bMap (g : Nat → Nat) : Nat → Nat → Nat
  | 0, _ => 0
  | k + 1, n => g (n % 256) + 256 * bMap g k (n / 256)
theorem b_S1 : ∀ (k n : Nat), n < 256 ^ k → n - ((n / 2) &&& bM 85 k) = bMap b_1 k n := by
  intro k
  induction k with
  | zero => intro n h; have : n = 0 := by omega
            subst this; rfl
  | succ k ih =>
    intro n h
    have hr : n / 256 < 256 ^ k := by rw [Nat.div_lt_iff_lt_mul (by decide)]; rw [Nat.pow_succ] at h; exact h
    have e1 : n / 2 = ((n % 256) / 2 + 128 * (n / 256 % 2)) + 256 * (n / 256 / 2) := by omega
    have e2 : (n / 2) &&& bM 85 (k + 1) = ((n % 256) / 2 &&& 85) + 256 * ((n / 256 / 2) &&& bM 85 k) := by
      show (n / 2) &&& (85 + 256 * bM 85 k) = _
      rw [e1, b_and256 (by omega) (by decide), b_s1 _ (by omega) _ (by omega)]
    rw [e2]
    have h1 : ((n % 256) / 2 &&& 85) ≤ n % 256 := Nat.le_trans Nat.and_le_left (Nat.div_le_self _ _)
    have h2 : ((n / 256 / 2) &&& bM 85 k) ≤ n / 256 := Nat.le_trans Nat.and_le_left (Nat.div_le_self _ _)
    have h3 := ih (n / 256) hr
    show _ = b_1 (n % 256) + 256 * bMap b_1 k (n / 256)
    rw [← h3]
    unfold b_1
    omega
theorem bMap_lt (g : Nat → Nat) (hg : ∀ d, d < 256 → g d < 256) : ∀ k n, bMap g k n < 256 ^ k := by
  intro k
  induction k with
  | zero => intro n; exact Nat.one_pos
  | succ k ih =>
    intro n
    have h1 := ih (n / 256)
    have h2 := hg (n % 256) (Nat.mod_lt _ (by decide))
    show g (n % 256) + 256 * bMap g k (n / 256) < 256 ^ (k + 1)
    rw [Nat.pow_succ]
    omega
theorem bMap_comp (g f : Nat → Nat) (hf : ∀ d, d < 256 → f d < 256) : ∀ k n, bMap g k (bMap f k n) = bMap (fun d => g (f d)) k n := by
  intro k
  induction k with
  | zero => intro n; rfl
  | succ k ih =>
    intro n
    have h2 := hf (n % 256) (Nat.mod_lt _ (by decide))
    show g ((f (n % 256) + 256 * bMap f k (n / 256)) % 256) + 256 * bMap g k ((f (n % 256) + 256 * bMap f k (n / 256)) / 256) = _
    have e1 : (f (n % 256) + 256 * bMap f k (n / 256)) % 256 = f (n % 256) := by omega
    have e2 : (f (n % 256) + 256 * bMap f k (n / 256)) / 256 = bMap f k (n / 256) := by omega
    rw [e1, e2, ih]
    rfl
theorem b_S2 : ∀ (k n : Nat), (n &&& bM 51 k) + ((n / 4) &&& bM 51 k) = bMap (fun d => (d &&& 51) + ((d / 4) &&& 51)) k n := by
  intro k
  induction k with
  | zero => intro n; show (n &&& 0) + ((n / 4) &&& 0) = 0; simp
  | succ k ih =>
    intro n
    have e0 : n = n % 256 + 256 * (n / 256) := by omega
    have e1 : n / 4 = ((n % 256) / 4 + 64 * (n / 256 % 4)) + 256 * (n / 256 / 4) := by omega
    have e2 : (n / 4) &&& bM 51 (k + 1) = ((n % 256) / 4 &&& 51) + 256 * ((n / 256 / 4) &&& bM 51 k) := by
      show (n / 4) &&& (51 + 256 * bM 51 k) = _
      rw [e1, b_and256 (by omega) (by decide), b_s2 _ (by omega) _ (by omega)]
    have e3 : n &&& bM 51 (k + 1) = (n % 256 &&& 51) + 256 * ((n / 256) &&& bM 51 k) := by
      show n &&& (51 + 256 * bM 51 k) = _
      conv => lhs; rw [e0]
      rw [b_and256 (by omega) (by decide)]
    rw [e2, e3]
    have h3 := ih (n / 256)
    show _ = ((n % 256 &&& 51) + ((n % 256) / 4 &&& 51)) + 256 * bMap _ k (n / 256)
    rw [← h3]
    omega
/-- nibbles of at most 4 in every byte -/
def bOk : Nat → Nat → Prop
  | 0, n => n = 0
  | k + 1, n => n % 256 % 16 ≤ 4 ∧ n % 256 / 16 ≤ 4 ∧ bOk k (n / 256)
theorem b_S3 : ∀ (k n : Nat), bOk k n → (n + n / 16) &&& bM 15 k = bMap (fun d => d % 16 + d / 16) k n := by
  intro k
  induction k with
  | zero => intro n h; show (n + n / 16) &&& 0 = 0; simp
  | succ k ih =>
    intro n h
    obtain ⟨h1, h2, h3⟩ := h
    have hq : n / 256 % 16 ≤ 4 := by
      cases k with
      | zero => have h3 : n / 256 = 0 := h3
                omega
      | succ k => have := h3.1; omega
    have e1 : n + n / 16 = (n % 256 + n % 256 / 16 + 16 * (n / 256 % 16)) + 256 * (n / 256 + n / 256 / 16) := by omega
    show (n + n / 16) &&& (15 + 256 * bM 15 k) = (n % 256 % 16 + n % 256 / 16) + 256 * bMap _ k (n / 256)
    rw [e1, b_and256 (by omega) (by decide), b_s3 _ (by omega), ih _ h3]
    omega
theorem bOk_map : ∀ k n, bOk k (bMap b_2 k n) := by
  intro k
  induction k with
  | zero => intro n; rfl
  | succ k ih =>
    intro n
    have h := b_lt2 (n % 256) (Nat.mod_lt _ (by decide))
    have e1 : (b_2 (n % 256) + 256 * bMap b_2 k (n / 256)) % 256 = b_2 (n % 256) := by omega
    have e2 : (b_2 (n % 256) + 256 * bMap b_2 k (n / 256)) / 256 = bMap b_2 k (n / 256) := by omega
    refine ⟨?_, ?_, ?_⟩
    · show (b_2 (n % 256) + 256 * bMap b_2 k (n / 256)) % 256 % 16 ≤ 4
      rw [e1]; exact h.1
    · show (b_2 (n % 256) + 256 * bMap b_2 k (n / 256)) % 256 / 16 ≤ 4
      rw [e1]; exact h.2.1
    · show bOk k ((b_2 (n % 256) + 256 * bMap b_2 k (n / 256)) / 256)
      rw [e2]; exact ih _
theorem bMap_congr {f g : Nat → Nat} (h : ∀ d, d < 256 → f d = g d) : ∀ k n, bMap f k n = bMap g k n := by
  intro k
  induction k with
  | zero => intro n; rfl
  | succ k ih => intro n; show f _ + 256 * bMap f k _ = g _ + 256 * bMap g k _; rw [h _ (Nat.mod_lt _ (by decide)), ih]
theorem pcN_split : ∀ (a b n : Nat), pcN (a + b) n = pcN a n + pcN b (n / 2 ^ a) := by
  intro a
  induction a with
  | zero => intro b n; simp [pcN]
  | succ a ih =>
    intro b n
    rw [show a + 1 + b = (a + b) + 1 from by omega]
    show n % 2 + pcN (a + b) (n / 2) = (n % 2 + pcN a (n / 2)) + pcN b (n / 2 ^ (a + 1))
    rw [ih, Nat.div_div_eq_div_mul, show 2 * 2 ^ a = 2 ^ (a + 1) from by rw [Nat.pow_succ, Nat.mul_comm]]
    omega
theorem pcN_mod : ∀ (k n : Nat), pcN k (n % 2 ^ k) = pcN k n := by
  intro k
  induction k with
  | zero => intro n; rfl
  | succ k ih =>
    intro n
    show n % 2 ^ (k + 1) % 2 + pcN k (n % 2 ^ (k + 1) / 2) = n % 2 + pcN k (n / 2)
    have e1 : n % 2 ^ (k + 1) % 2 = n % 2 := Nat.mod_mod_of_dvd n (by rw [Nat.pow_succ]; exact Nat.dvd_mul_left 2 _)
    have e2 : n % 2 ^ (k + 1) / 2 = n / 2 % 2 ^ k := by
      rw [Nat.pow_succ, Nat.mul_comm, Nat.mod_mul_right_div_self]
    rw [e1, e2, ih]
theorem pcN_8 (n : Nat) : ∀ k, pcN (8 * (k + 1)) n = pc8 (n % 256) + pcN (8 * k) (n / 256) := by
  intro k
  rw [show 8 * (k + 1) = 8 + 8 * k from by omega, pcN_split]
  unfold pc8
  rw [show (256 : Nat) = 2 ^ 8 from rfl, pcN_mod]
theorem pcN_0 : ∀ k, pcN k 0 = 0 := by
  intro k
  induction k with
  | zero => rfl
  | succ k ih => show 0 % 2 + pcN k (0 / 2) = 0; simp [ih]
def bcN (n : Nat) : Nat :=
  let a := n - ((n / 2) &&& 6148914691236517205)
  let b := (a &&& 3689348814741910323) + ((a / 4) &&& 3689348814741910323)
  let c := (b + b / 16) &&& 1085102592571150095
  let d := c + c / 256
  let e := d + d / 65536
  (e + e / 4294967296) % 128
theorem pc8_le : ∀ d, d < 256 → pc8 d ≤ 8 := by decide +kernel
theorem b_123 {n : Nat} (h : n < 256 ^ 8) :
    (((n - ((n / 2) &&& bM 85 8)) &&& bM 51 8) + (((n - ((n / 2) &&& bM 85 8)) / 4) &&& bM 51 8)) + (((n - ((n / 2) &&& bM 85 8)) &&& bM 51 8) + (((n - ((n / 2) &&& bM 85 8)) / 4) &&& bM 51 8)) / 16 &&& bM 15 8 = bMap pc8 8 n := by
  rw [b_S1 8 n h, b_S2, bMap_comp _ _ b_lt1]
  have h2 : bMap (fun d => (b_1 d &&& 51) + ((b_1 d / 4) &&& 51)) 8 n = bMap b_2 8 n := rfl
  rw [h2, b_S3 8 _ (bOk_map 8 n), bMap_comp _ _ (fun d hd => by have := b_lt2 d hd; omega)]
  exact bMap_congr (fun d hd => (b_lt2 d hd).2.2) 8 n
theorem b_end {p0 p1 p2 p3 p4 p5 p6 p7 c d e : Nat} (b0 : p0 ≤ 8) (b1 : p1 ≤ 8) (b2 : p2 ≤ 8) (b3 : p3 ≤ 8) (b4 : p4 ≤ 8) (b5 : p5 ≤ 8) (b6 : p6 ≤ 8) (b7 : p7 ≤ 8) (hc : c = p0 + 256 * (p1 + 256 * (p2 + 256 * (p3 + 256 * (p4 + 256 * (p5 + 256 * (p6 + 256 * (p7 + 256 * 0)))))))) (hd : d = c + c / 256) (he : e = d + d / 65536) : (e + e / 4294967296) % 128 = p0 + (p1 + (p2 + (p3 + (p4 + (p5 + (p6 + p7)))))) := by
  have c1 : c / 256 = p1 + 256 * (p2 + 256 * (p3 + 256 * (p4 + 256 * (p5 + 256 * (p6 + 256 * (p7 + 256 * 0)))))) := by omega
  have d0 : d = ((p0 + p1) + 256 * (p1 + p2)) + 65536 * ((p2 + p3) + 256 * ((p3 + p4) + 256 * ((p4 + p5) + 256 * ((p5 + p6) + 256 * ((p6 + p7) + 256 * p7))))) := by omega
  clear hd c1 hc
  have d1 : d / 65536 = (p2 + p3) + 256 * ((p3 + p4) + 256 * ((p4 + p5) + 256 * ((p5 + p6) + 256 * ((p6 + p7) + 256 * p7)))) := by omega
  have e0 : e = ((p0 + p1 + p2 + p3) + 256 * ((p1 + p2 + p3 + p4) + 256 * ((p2 + p3 + p4 + p5) + 256 * (p3 + p4 + p5 + p6)))) + 4294967296 * ((p4 + p5 + p6 + p7) + 256 * ((p5 + p6 + p7) + 256 * ((p6 + p7) + 256 * p7))) := by omega
  clear he d1 d0
  have e1 : e / 4294967296 = (p4 + p5 + p6 + p7) + 256 * ((p5 + p6 + p7) + 256 * ((p6 + p7) + 256 * p7)) := by omega
  omega
theorem bcN_ok {n : Nat} (h : n < 18446744073709551616) : bcN n = pcN 64 n := by
  have h8 : n < 256 ^ 8 := h
  have e := b_123 h8
  have m1 : bM 85 8 = 6148914691236517205 := by decide
  have m2 : bM 51 8 = 3689348814741910323 := by decide
  have m3 : bM 15 8 = 1085102592571150095 := by decide
  rw [m1, m2, m3] at e
  unfold bcN
  dsimp only
  rw [e]
  have s : pcN 64 n = pc8 (n % 256) + (pc8 (n / 256 % 256) + (pc8 (n / 256 / 256 % 256) + (pc8 (n / 256 / 256 / 256 % 256) + (pc8 (n / 256 / 256 / 256 / 256 % 256) + (pc8 (n / 256 / 256 / 256 / 256 / 256 % 256) + (pc8 (n / 256 / 256 / 256 / 256 / 256 / 256 % 256) + pc8 (n / 256 / 256 / 256 / 256 / 256 / 256 / 256 % 256))))))) := by
    rw [show 64 = 8 * (7 + 1) from rfl, pcN_8, show 8 * 7 = 8 * (6 + 1) from rfl, pcN_8, show 8 * 6 = 8 * (5 + 1) from rfl, pcN_8, show 8 * 5 = 8 * (4 + 1) from rfl, pcN_8, show 8 * 4 = 8 * (3 + 1) from rfl, pcN_8, show 8 * 3 = 8 * (2 + 1) from rfl, pcN_8, show 8 * 2 = 8 * (1 + 1) from rfl, pcN_8, show 8 * 1 = 8 * (0 + 1) from rfl, pcN_8]
    rfl
  rw [s]
  have b0 := pc8_le (n % 256) (Nat.mod_lt _ (by decide))
  have b1 := pc8_le (n / 256 % 256) (Nat.mod_lt _ (by decide))
  have b2 := pc8_le (n / 256 / 256 % 256) (Nat.mod_lt _ (by decide))
  have b3 := pc8_le (n / 256 / 256 / 256 % 256) (Nat.mod_lt _ (by decide))
  have b4 := pc8_le (n / 256 / 256 / 256 / 256 % 256) (Nat.mod_lt _ (by decide))
  have b5 := pc8_le (n / 256 / 256 / 256 / 256 / 256 % 256) (Nat.mod_lt _ (by decide))
  have b6 := pc8_le (n / 256 / 256 / 256 / 256 / 256 / 256 % 256) (Nat.mod_lt _ (by decide))
  have b7 := pc8_le (n / 256 / 256 / 256 / 256 / 256 / 256 / 256 % 256) (Nat.mod_lt _ (by decide))
  have hm : bMap pc8 8 n = pc8 (n % 256) + 256 * (pc8 (n / 256 % 256) + 256 * (pc8 (n / 256 / 256 % 256) + 256 * (pc8 (n / 256 / 256 / 256 % 256) + 256 * (pc8 (n / 256 / 256 / 256 / 256 % 256) + 256 * (pc8 (n / 256 / 256 / 256 / 256 / 256 % 256) + 256 * (pc8 (n / 256 / 256 / 256 / 256 / 256 / 256 % 256) + 256 * (pc8 (n / 256 / 256 / 256 / 256 / 256 / 256 / 256 % 256) + 256 * 0))))))) := rfl
  exact b_end b0 b1 b2 b3 b4 b5 b6 b7 hm rfl rfl
