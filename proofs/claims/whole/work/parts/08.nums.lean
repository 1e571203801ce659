theorem n_and (a b : Nat) : nI a &&& nI b = nI (a &&& b) := by
  apply Int32.toBitVec_inj.1
  show BitVec.ofNat 32 a &&& BitVec.ofNat 32 b = BitVec.ofNat 32 (a &&& b)
  apply BitVec.eq_of_getLsbD_eq
  intro i hi
  simp [hi]
theorem n_or (a b : Nat) : nI a ||| nI b = nI (a ||| b) := by
  apply Int32.toBitVec_inj.1
  show BitVec.ofNat 32 a ||| BitVec.ofNat 32 b = BitVec.ofNat 32 (a ||| b)
  apply BitVec.eq_of_getLsbD_eq
  intro i hi
  simp [hi]
/-- what is in a and not in b -/
def dif (a b : Nat) : Nat := a ^^^ (a &&& b)
theorem dif_bit (a b i : Nat) : (dif a b).testBit i = (a.testBit i && !b.testBit i) := by
  simp only [dif, Nat.testBit_xor, Nat.testBit_and]
  cases a.testBit i <;> cases b.testBit i <;> rfl
theorem n_dif (a b : Nat) : nI a &&& (nI b ^^^ -1) = nI (dif a b) := by
  apply Int32.toBitVec_inj.1
  show BitVec.ofNat 32 a &&& (BitVec.ofNat 32 b ^^^ BitVec.allOnes 32) = BitVec.ofNat 32 (dif a b)
  apply BitVec.eq_of_getLsbD_eq
  intro i hi
  rw [BitVec.getLsbD_and, BitVec.getLsbD_xor, BitVec.getLsbD_allOnes, BitVec.getLsbD_ofNat, BitVec.getLsbD_ofNat, BitVec.getLsbD_ofNat, dif_bit]
  simp [hi]
theorem s_amt : ∀ n, n < 32 → ((nI n &&& 31).toBitVec.smod 32).toNat = n := by decide +kernel
theorem n_shr {w i : Nat} (hw : w < 2 ^ 31) (hi : i < 32) : nI w >>> (nI i &&& 31) = nI (w / 2 ^ i) := pk_shrN hw _ i (s_amt i hi)
theorem n_shl {w i : Nat} (hi : i < 32) (hw : w * 2 ^ i < 2 ^ 32) : nI w <<< (nI i &&& 31) = nI (w * 2 ^ i) := pk_shlN _ i (s_amt i hi) hw
theorem n_one {i : Nat} (hi : i < 32) : (1 : Int32) <<< (nI i &&& 31) = nI (2 ^ i) := by
  have h := n_shl (w := 1) hi (by rw [Nat.one_mul]; exact Nat.pow_lt_pow_right (by decide) hi)
  rw [Nat.one_mul] at h
  exact h
/-- a bit as a number -/
def bn (b : Bool) : Nat := if b then 1 else 0
theorem bn_lt (b : Bool) : bn b < 2 := by cases b <;> decide
theorem bn_le (b : Bool) : bn b ≤ 1 := by cases b <;> decide
theorem tb_div (w i : Nat) : w / 2 ^ i % 2 = bn (w.testBit i) := by
  unfold bn
  rw [Nat.testBit_eq_decide_div_mod_eq]
  rcases Nat.mod_two_eq_zero_or_one (w / 2 ^ i) with h | h <;> rw [h] <;> rfl
theorem n_bit {w i : Nat} (hw : w < 2 ^ 31) (hi : i < 32) : (nI w >>> (nI i &&& 31)) &&& 1 = nI (bn (w.testBit i)) := by
  rw [n_shr hw hi, show (1 : Int32) = nI (2 ^ 1 - 1) from rfl, n_and, Nat.and_two_pow_sub_one_eq_mod, ← tb_div]
theorem n_bn (b : Bool) : nI (bn b) = if b then 1 else 0 := by cases b <;> rfl
/-- a truth as the machine's 0 or 1 -/
def bi (p : Prop) [Decidable p] : Int32 := if p then 1 else 0
theorem bi_t {p : Prop} [Decidable p] (h : p) : bi p = 1 := if_pos h
theorem bi_f {p : Prop} [Decidable p] (h : ¬ p) : bi p = 0 := if_neg h
theorem bi_z {p : Prop} [Decidable p] : bi p = 0 ↔ ¬ p := by
  unfold bi; split
  · rename_i h; exact ⟨fun q => absurd q (by decide), fun q => absurd h q⟩
  · rename_i h; exact ⟨fun _ => h, fun _ => rfl⟩
theorem bi_nz {p : Prop} [Decidable p] : ¬ bi p = 0 ↔ p := by rw [bi_z]; exact Decidable.not_not
theorem bi_nar {p : Prop} [Decidable p] : narrow .boolean (.int (bi p)) = .int (bi p) := by unfold bi; split <;> rfl
theorem bi_cong {p q : Prop} [Decidable p] [Decidable q] (h : p ↔ q) : bi p = bi q := by unfold bi; by_cases hq : q <;> simp [h, hq]
/-- how many of the first n bits -/
def popn : Nat → Nat → Nat
  | 0, _ => 0
  | n + 1, w => popn n w + bn (w.testBit n)
def pop (w : Nat) : Nat := popn 8 w
theorem popn_le (n w : Nat) : popn n w ≤ n := by
  induction n with
  | zero => exact Nat.le_refl _
  | succ n ih => have := bn_le (w.testBit n); unfold popn; omega
theorem pop_le (w : Nat) : pop w ≤ 8 := popn_le 8 w
theorem tb_small {w i : Nat} (h : w < 2 ^ i) : w.testBit i = false := Nat.testBit_lt_two_pow h
theorem popn_small {w k : Nat} (h : w < 2 ^ k) : ∀ n, k ≤ n → popn n w = popn k w := by
  intro n hn
  induction n with
  | zero => rw [Nat.le_zero.mp hn]
  | succ n ih =>
    by_cases e : k = n + 1
    · rw [e]
    · have : k ≤ n := by omega
      show popn n w + bn (w.testBit n) = popn k w
      rw [ih this, tb_small (Nat.lt_of_lt_of_le h (Nat.pow_le_pow_right (by decide) this))]
      rfl
theorem popn_congr {n a b : Nat} (h : ∀ i, i < n → a.testBit i = b.testBit i) : popn n a = popn n b := by
  induction n with
  | zero => rfl
  | succ n ih => unfold popn; rw [ih (fun i hi => h i (by omega)), h n (by omega)]
theorem bn_one {b : Bool} : nI (bn b) = 1 ↔ b = true := by cases b <;> simp [bn] <;> decide
theorem bn_zero {b : Bool} : nI (bn b) = 0 ↔ b = false := by cases b <;> simp [bn] <;> decide
/-- the first k places of row b are f's -/
def rowM (M : HM) (b k : Nat) (f : Nat → Int32) : HM := fun z j => if z = b ∧ j < k then f j else M z j
theorem rowM_0 (M : HM) (b : Nat) (f : Nat → Int32) : rowM M b 0 f = M := by funext z j; simp [rowM]
theorem rowM_at (M : HM) (b k : Nat) (f : Nat → Int32) (z : Nat) : rowM M b k f z k = M z k := by simp [rowM]
theorem rowM_ne (M : HM) {b : Nat} (k : Nat) (f : Nat → Int32) {z : Nat} (h : z ≠ b) (j : Nat) : rowM M b k f z j = M z j := by simp [rowM, h]
theorem rowM_in (M : HM) (b : Nat) {k : Nat} (f : Nat → Int32) {j : Nat} (h : j < k) : rowM M b k f b j = f j := by simp [rowM, h]
theorem rowM_s (M : HM) (b k : Nat) (f : Nat → Int32) {v : Int32} (hv : v = f k) : st2 (rowM M b k f) b k v = rowM M b (k + 1) f := by
  subst hv
  funext z j
  simp only [st2, rowM]
  by_cases h1 : z = b
  · by_cases h2 : j = k
    · simp [h1, h2]
    · by_cases h3 : j < k
      · simp [h1, h2, h3, Nat.lt_succ_of_lt h3]
      · simp [h1, h2, h3, show ¬ j < k + 1 by omega]
  · simp [h1]
/-- a heap's four parts by their ints alone -/
theorem hp_M {n : Nat} {M M' : HM} {Rf : HR} {Lg : HL} (h : M = M') : ((n, M, Rf, Lg) : HP) = (n, M', Rf, Lg) := by rw [h]
theorem le_N {a b : Nat} (ha : a < 2147483648) (hb : b < 2147483648) {x y : Int32} (hx : x = nI a) (hy : y = nI b) : x ≤ y ↔ a ≤ b := by rw [hx, hy]; exact nI_leI ha hb
theorem lt_N {a b : Nat} (ha : a < 2147483648) (hb : b < 2147483648) {x y : Int32} (hx : x = nI a) (hy : y = nI b) : x < y ↔ a < b := by rw [hx, hy]; exact nI_ltI ha hb
theorem eq_N {a b : Nat} (ha : a < 2147483648) (hb : b < 2147483648) {x y : Int32} (hx : x = nI a) (hy : y = nI b) : x = y ↔ a = b := by rw [hx, hy]; exact nI_eq ha hb
