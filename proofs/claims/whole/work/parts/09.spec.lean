/-! sets as numbers -/
def mk (p : Nat → Bool) : Nat → Nat
  | 0 => 0
  | n + 1 => mk p n ||| (if p n then 2 ^ n else 0)
theorem mk_lt (p : Nat → Bool) (n : Nat) : mk p n < 2 ^ n := by
  induction n with
  | zero => exact Nat.one_pos
  | succ n ih =>
    have h2 : 2 ^ n < 2 ^ (n + 1) := Nat.pow_lt_pow_right (by decide) (Nat.lt_succ_self n)
    exact Nat.or_lt_two_pow (Nat.lt_trans ih h2) (by split <;> first | exact h2 | exact Nat.two_pow_pos _)
theorem mk_bit (p : Nat → Bool) (n i : Nat) : (mk p n).testBit i = (decide (i < n) && p i) := by
  induction n with
  | zero => simp [mk]
  | succ n ih =>
    show (mk p n ||| (if p n then 2 ^ n else 0)).testBit i = _
    rw [Nat.testBit_or, ih]
    by_cases h : p n = true
    · rw [if_pos h, Nat.testBit_two_pow]
      by_cases e : n = i
      · subst e; simp [h]
      · by_cases l : i < n
        · simp [l, e, Nat.lt_succ_of_lt l]
        · simp [l, e, show ¬ i < n + 1 by omega]
    · rw [if_neg h, Nat.zero_testBit]
      by_cases e : i = n
      · subst e; simp [h]
      · by_cases l : i < n
        · simp [l, Nat.lt_succ_of_lt l]
        · simp [l, show ¬ i < n + 1 by omega]
theorem mk_f {p : Nat → Bool} {n : Nat} (h : p n = false) : mk p (n + 1) = mk p n := by
  show mk p n ||| (if p n then 2 ^ n else 0) = _
  rw [h]; simp
theorem mk_t {p : Nat → Bool} {n : Nat} (h : p n = true) (hn : n < 32) : nI (mk p n) ||| ((1 : Int32) <<< (nI n &&& 31)) = nI (mk p (n + 1)) := by
  rw [n_one hn, n_or]
  show _ = nI (mk p n ||| (if p n then 2 ^ n else 0))
  rw [h]; rfl
theorem mk_congr {p q : Nat → Bool} {n : Nat} (h : ∀ i, i < n → p i = q i) : mk p n = mk q n := by
  induction n with
  | zero => rfl
  | succ n ih =>
    show mk p n ||| _ = mk q n ||| _
    rw [ih (fun i hi => h i (by omega)), h n (by omega)]
theorem mk_le (p : Nat → Bool) {n k : Nat} (h : n ≤ k) : mk p n < 2 ^ k := Nat.lt_of_lt_of_le (mk_lt p n) (Nat.pow_le_pow_right (by decide) h)
theorem bit_ext {a b k : Nat} (ha : a < 2 ^ k) (hb : b < 2 ^ k) (h : ∀ i, i < k → a.testBit i = b.testBit i) : a = b := by
  apply Nat.eq_of_testBit_eq
  intro i
  by_cases l : i < k
  · exact h i l
  · rw [tb_small (Nat.lt_of_lt_of_le ha (Nat.pow_le_pow_right (by decide) (by omega))), tb_small (Nat.lt_of_lt_of_le hb (Nat.pow_le_pow_right (by decide) (by omega)))]
theorem mk_of {w k : Nat} (h : w < 2 ^ k) : mk (fun i => w.testBit i) k = w := bit_ext (mk_lt _ k) h (fun i hi => by rw [mk_bit]; simp [hi])
theorem mk_and (p q : Nat → Bool) (n : Nat) : mk p n &&& mk q n = mk (fun i => p i && q i) n := by
  refine bit_ext (k := n) (Nat.and_lt_two_pow _ (mk_lt q n)) (mk_lt _ n) (fun i hi => ?_)
  rw [Nat.testBit_and, mk_bit, mk_bit, mk_bit]; simp [hi]
theorem mk_or (p q : Nat → Bool) (n : Nat) : mk p n ||| mk q n = mk (fun i => p i || q i) n := by
  refine bit_ext (k := n) (Nat.or_lt_two_pow (mk_lt p n) (mk_lt q n)) (mk_lt _ n) (fun i hi => ?_)
  rw [Nat.testBit_or, mk_bit, mk_bit, mk_bit]; simp [hi]
theorem dif_lt {a b k : Nat} (h : a < 2 ^ k) : dif a b < 2 ^ k := Nat.xor_lt_two_pow h (Nat.lt_of_le_of_lt Nat.and_le_left h)
theorem mk_dif (p q : Nat → Bool) (n : Nat) : dif (mk p n) (mk q n) = mk (fun i => p i && !q i) n := by
  refine bit_ext (k := n) (dif_lt (mk_lt p n)) (mk_lt _ n) (fun i hi => ?_)
  rw [dif_bit, mk_bit, mk_bit, mk_bit]; simp [hi]
theorem p2_6 : (2 : Nat) ^ 6 = 64 := rfl
theorem mk6 (p : Nat → Bool) {n : Nat} (h : n ≤ 6) : mk p n < 64 := mk_le p (k := 6) h
theorem mk31 (p : Nat → Bool) {n : Nat} (h : n ≤ 6) : mk p n < 2 ^ 31 := Nat.lt_of_lt_of_le (mk6 p h) (by decide)
/-! a city by 56 numbers (districts, quota, citizens, noises, items, quota told; roads 6, beds 10, home 14, tired at first 20, work 26, deep 32, where 38, when 44, loud 50), what goes on from hour to hour by 21 (day, hour, lapses, tired 3, called 9, slept 15) -/
def okT (T : Nat → Nat) : Prop := (1 ≤ T 0 ∧ T 0 ≤ 4) ∧ T 1 ≤ 6 ∧ T 2 ≤ 6 ∧ T 3 ≤ 6 ∧ (∀ d, d < 4 → T (6 + d) < 16 ∧ T (10 + d) ≤ 6) ∧ (∀ i, i < T 2 → T (14 + i) < T 0 ∧ T (20 + i) ≤ 20 ∧ T (26 + i) ≤ 255 ∧ 1 ≤ T (32 + i) ∧ T (32 + i) ≤ 9) ∧ ∀ i, i < T 3 → T (38 + i) < T 0 ∧ T (44 + i) ≤ 7 ∧ 1 ≤ T (50 + i) ∧ T (50 + i) ≤ 9
def okS (S : Nat → Nat) (C b : Nat) : Prop := S 0 ≤ b ∧ S 1 < 8 ∧ S 2 ≤ b ∧ ∀ i, i < C → S (3 + i) ≤ 20 ∧ S (9 + i) ≤ 255 ∧ S (15 + i) ≤ b
/-- the citizens of a district -/
def liv (T : Nat → Nat) (d : Nat) : Nat := mk (fun i => T (14 + i) == d) (T 2)
/-- whom a noise of this loudness in this district wakes -/
def wkB (T : Nat → Nat) (d v : Nat) : Nat := mk (fun i => T (14 + i) == d && decide (T (32 + i) < v)) (T 2)
/-- whether the citizen i is woken by one of the first k noises that are heard -/
def wkP (T : Nat → Nat) (hd : Nat) (i : Nat) : Nat → Bool
  | 0 => false
  | k + 1 => wkP T hd i k || (hd.testBit k && (T (14 + i) == T (38 + k) && decide (T (32 + i) < T (50 + k))))
def wkA (T : Nat → Nat) (hd : Nat) : Nat := mk (fun i => wkP T hd i (T 3)) (T 2)
/-- the noises of an hour -/
def nsO (T : Nat → Nat) (h : Nat) : Nat := mk (fun i => T (44 + i) == h) (T 3)
def idl (T : Nat → Nat) (h : Nat) : Nat := mk (fun i => !(T (26 + i)).testBit h) (T 2)
def rst (T : Nat → Nat) (h : Nat) : Nat := dif (idl T h) (wkA T (nsO T h))
/-- a city as the class has it at c -/
def cyT (M : HM) (c : Nat) (T : Nat → Nat) : Prop := M c 0 = nI (T 0) ∧ M c 1 = nI (T 1) ∧ M c 5 = nI (T 2) ∧ M c 10 = nI (T 3) ∧ (∀ d, d < 4 → M (c + 1) d = nI (T (10 + d))) ∧ (∀ d, d < 4 → M (c + 2) d = nI (T (6 + d))) ∧ (∀ i, i < T 2 → M (c + 3) i = nI (T (14 + i)) ∧ M (c + 4) i = nI (T (20 + i)) ∧ M (c + 5) i = nI (T (26 + i)) ∧ M (c + 6) i = nI (T (32 + i))) ∧ (∀ i, i < T 3 → M (c + 7) i = nI (T (38 + i)) ∧ M (c + 8) i = nI (T (44 + i)) ∧ M (c + 9) i = nI (T (50 + i))) ∧ ∀ d, d < 4 → M (c + 10) d = nI (liv T d)
def cyR (M : HM) (c : Nat) (T : Nat → Nat) : Prop := ∀ h, h < 8 → M (c + 11) h = nI (rst T h)
def nwS (M : HM) (a : Nat) (S : Nat → Nat) (C : Nat) : Prop := M a 0 = nI (S 0) ∧ M a 1 = nI (S 1) ∧ M a 2 = nI (S 2) ∧ ∀ i, i < C → M (a + 1) i = nI (S (3 + i)) ∧ M (a + 2) i = nI (S (9 + i)) ∧ M (a + 3) i = nI (S (15 + i))
def RCi (Rf : HR) (c : Nat) : Prop := Rf c 3 = some (c + 1) ∧ Rf c 4 = some (c + 2) ∧ Rf c 6 = some (c + 3) ∧ Rf c 7 = some (c + 4) ∧ Rf c 8 = some (c + 5) ∧ Rf c 9 = some (c + 6) ∧ Rf c 11 = some (c + 7) ∧ Rf c 12 = some (c + 8) ∧ Rf c 13 = some (c + 9) ∧ Rf c 14 = some (c + 10) ∧ Rf c 15 = some (c + 11)
theorem city_shp {c : Nat} (h : c = 4 ∨ c = 16) : shp c = (0, 16) ∧ shp (c + 1) = (6, 4) ∧ shp (c + 2) = (6, 4) ∧ shp (c + 3) = (6, 6) ∧ shp (c + 4) = (6, 6) ∧ shp (c + 5) = (6, 6) ∧ shp (c + 6) = (6, 6) ∧ shp (c + 7) = (6, 6) ∧ shp (c + 8) = (6, 6) ∧ shp (c + 9) = (6, 6) ∧ shp (c + 10) = (6, 4) ∧ shp (c + 11) = (6, 8) := by
  rcases h with rfl | rfl <;> decide
/-- the places of what goes on from hour to hour -/
def nows : List Nat := [28, 32, 48, 52, 56, 60, 64, 68, 72, 76, 80, 84, 88, 92]
def RNi (Rf : HR) (a : Nat) : Prop := Rf a 3 = some (a + 1) ∧ Rf a 4 = some (a + 2) ∧ Rf a 5 = some (a + 3)
theorem now_shp {a : Nat} (h : a ∈ nows) : shp a = (1, 6) ∧ shp (a + 1) = (6, 6) ∧ shp (a + 2) = (6, 6) ∧ shp (a + 3) = (6, 6) ∧ a + 3 < 96 := by
  have key : ∀ a ∈ nows, shp a = (1, 6) ∧ shp (a + 1) = (6, 6) ∧ shp (a + 2) = (6, 6) ∧ shp (a + 3) = (6, 6) ∧ a + 3 < 96 := by decide
  exact key a h
