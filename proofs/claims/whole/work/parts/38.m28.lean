section M28
variable {Λ : PL} {d n : Nat} {M : HM} {Rf : HR} {Lg : HL}

/-- the reference's text -/
def txN (M : HM) (tl : Nat) (tx : Nat → Nat) : Prop := tl ≤ 200 ∧ M 96 2 = nI tl ∧ ∀ i, i < tl → M 97 i = nI (tx i) ∧ tx i < 256
def isIt (x : Nat) : Bool := decide (x = 100 ∨ x = 113 ∨ x = 101 ∨ x = 98 ∨ x = 99 ∨ x = 110)
def srN (x : Nat) : Nat := if isIt x = true then 1 else if isDg x = true then 2 else if x = 59 then 3 else 4
def srt (tl : Nat) (tx : Nat → Nat) (p : Nat) : Nat := if tl ≤ tkS tl tx p then 0 else srN (tx (tkS tl tx p))
/-- the number of k + 1 figures as the reference reads it -/
def mvl (tx : Nat → Nat) (s : Nat) : Nat → Nat
  | 0 => tx s - 48
  | k + 1 => if tx s = 48 ∨ 255 < mvl tx s k then 1000 else 10 * mvl tx s k + (tx (s + (k + 1)) - 48)
def mvI (tl : Nat) (tx : Nat → Nat) (p : Nat) : Int32 := if tl ≤ tkS tl tx p then -1 else if isDg (tx (tkS tl tx p)) = true then nI (mvl tx (tkS tl tx p) (dge tl tx (tkS tl tx p) - tkS tl tx p - 1)) else nI (tx (tkS tl tx p))
def tokM (M : HM) (a b c e : Int32) : HM := fun z j => if z = 96 then (if j = 12 then a else if j = 13 then b else if j = 14 then c else if j = 15 then e else M 96 j) else M z j
theorem tokM_ne (M : HM) (a b c e : Int32) {z : Nat} (h : z ≠ 96) : tokM M a b c e z = M z := by funext j; unfold tokM; rw [if_neg h]
theorem tokM_f (M : HM) (a b c e : Int32) {j : Nat} (h : j < 12 ∨ 15 < j) : tokM M a b c e 96 j = M 96 j := by unfold tokM; rw [if_pos rfl, if_neg (by omega), if_neg (by omega), if_neg (by omega), if_neg (by omega)]
theorem tok_self (M : HM) : tokM M (M 96 12) (M 96 13) (M 96 14) (M 96 15) = M := by funext z j; unfold tokM; grind
theorem tok12 (M : HM) (a b c e x : Int32) : st2 (tokM M a b c e) 96 12 x = tokM M x b c e := by funext z j; unfold tokM st2; grind
theorem tok13 (M : HM) (a b c e x : Int32) : st2 (tokM M a b c e) 96 13 x = tokM M a x c e := by funext z j; unfold tokM st2; grind
theorem tok14 (M : HM) (a b c e x : Int32) : st2 (tokM M a b c e) 96 14 x = tokM M a b x e := by funext z j; unfold tokM st2; grind
theorem tok15 (M : HM) (a b c e x : Int32) : st2 (tokM M a b c e) 96 15 x = tokM M a b c x := by funext z j; unfold tokM st2; grind
theorem tok_tok (M : HM) (a b c e a2 b2 c2 e2 : Int32) : tokM (tokM M a b c e) a2 b2 c2 e2 = tokM M a2 b2 c2 e2 := by funext z j; unfold tokM; grind
theorem txN.tok {M : HM} {tl : Nat} {tx : Nat → Nat} (h : txN M tl tx) (a b c e : Int32) : txN (tokM M a b c e) tl tx := by
  refine ⟨h.1, ?_, fun i hi => ?_⟩
  · rw [tokM_f _ _ _ _ _ (by decide)]; exact h.2.1
  · rw [tokM_ne _ _ _ _ _ (by decide)]; exact h.2.2 i hi
theorem mvl_le {tx : Nat → Nat} {s : Nat} (hx : ∀ k, tx (s + k) < 256) : ∀ k, mvl tx s k < 3000 := by
  intro k
  induction k with
  | zero => have := hx 0; show tx s - 48 < 3000; rw [Nat.add_zero] at this; omega
  | succ k ih =>
    have := hx (k + 1)
    rw [mvl]
    split
    · omega
    · rename_i q
      have q2 : ¬ 255 < mvl tx s k := fun h => q (Or.inr h)
      omega
theorem mvl_cap {tx : Nat → Nat} {s : Nat} (h : tx s ≠ 48) : ∀ k, min (mvl tx s k) 256 = capV tx s (k + 1) := by
  intro k
  induction k with
  | zero => show min (tx s - 48) 256 = min (0 * 10 + (tx (s + 0) - 48)) 256; rw [Nat.zero_mul, Nat.zero_add, Nat.add_zero]
  | succ k ih =>
    show min (if _ then _ else _) 256 = min (capV tx s (k + 1) * 10 + (tx (s + (k + 1)) - 48)) 256
    rw [← ih]
    by_cases q : 255 < mvl tx s k
    · rw [if_pos (Or.inr q)]; omega
    · rw [if_neg (by rintro (h1 | h1); exact h h1; exact q h1)]; omega
/-- a number that may stand is the same for both; another is none for both -/
theorem mv_ok {tl : Nat} {tx : Nat → Nat} {p lo hi : Nat} (hh : hi ≤ 255) (hx : ∀ i, i < tl → tx i < 256) (hs : tkS tl tx p < tl) (hd : isDg (tx (tkS tl tx p)) = true) : (lo ≤ mvl tx (tkS tl tx p) (dge tl tx (tkS tl tx p) - tkS tl tx p - 1) ∧ mvl tx (tkS tl tx p) (dge tl tx (tkS tl tx p) - tkS tl tx p - 1) ≤ hi) ↔ (tkC tl tx p = 256 ∧ lo ≤ tkV tl tx p ∧ tkV tl tx p ≤ hi) := by
  have hg : tkS tl tx p < dge tl tx (tkS tl tx p) := by
    unfold dge
    rw [run_go hs hd]
    exact Nat.lt_of_lt_of_le (Nat.lt_succ_self _) (run_ge _ _ _)
  have e : tkC tl tx p = 256 ↔ nOk tx (tkS tl tx p) (dge tl tx (tkS tl tx p)) = true := by
    unfold tkC
    rw [if_neg (by omega), if_pos hd]
    split <;> simp_all
  rw [e]
  unfold tkV nOk
  generalize hL : dge tl tx (tkS tl tx p) - tkS tl tx p = L
  obtain ⟨k, rfl⟩ : ∃ k, L = k + 1 := ⟨L - 1, by omega⟩
  rw [show k + 1 - 1 = k by omega]
  by_cases z : tx (tkS tl tx p) = 48
  · cases k with
    | zero =>
      have m0 : mvl tx (tkS tl tx p) 0 = 0 := by show tx _ - 48 = 0; omega
      have c0 : capV tx (tkS tl tx p) (0 + 1) = 0 := by show min (0 * 10 + (tx (tkS tl tx p + 0) - 48)) 256 = 0; rw [Nat.add_zero, z]; rfl
      rw [m0, c0]
      simp [z]
    | succ k =>
      have m0 : mvl tx (tkS tl tx p) (k + 1) = 1000 := by show (if _ then _ else _) = _; rw [if_pos (Or.inl z)]
      rw [m0]
      constructor
      · intro h; omega
      · intro h; have := h.1; simp [z] at this
  · have hc := mvl_cap z k
    constructor
    · intro h
      have e2 : capV tx (tkS tl tx p) (k + 1) = mvl tx (tkS tl tx p) k := by omega
      rw [e2]
      refine ⟨?_, h⟩
      simp [z]; omega
    · intro h
      have h1 := h.1
      simp [z] at h1
      omega
theorem mv_eq {tl : Nat} {tx : Nat → Nat} {p : Nat} (hx : ∀ i, i < tl → tx i < 256) (h : tkC tl tx p = 256) : tkS tl tx p < tl ∧ isDg (tx (tkS tl tx p)) = true ∧ mvI tl tx p = nI (tkV tl tx p) ∧ srt tl tx p = 2 := by
  have hs : tkS tl tx p < tl := by
    by_cases q : tkS tl tx p < tl
    · exact q
    · unfold tkC at h; rw [if_pos (by omega)] at h; cases h
  have hd : isDg (tx (tkS tl tx p)) = true := by
    cases q : isDg (tx (tkS tl tx p)) with
    | true => rfl
    | false =>
      unfold tkC at h
      rw [if_neg (by omega), q, if_neg (by decide)] at h
      have := hx _ hs
      omega
  refine ⟨hs, hd, ?_, ?_⟩
  · unfold mvI
    rw [if_neg (by omega), if_pos hd]
    have hv : tkV tl tx p ≤ 255 := (tk_num hx h 0).2
    have h1 := (mv_ok (lo := tkV tl tx p) (hi := tkV tl tx p) hv hx hs hd).mpr ⟨h, Nat.le_refl _, Nat.le_refl _⟩
    congr 1
    omega
  · unfold srt srN
    rw [if_neg (by omega)]
    have : isIt (tx (tkS tl tx p)) = false := by unfold isDg at hd; unfold isIt; simp at hd ⊢; omega
    rw [this, hd]
    rfl
/-- whether a number that stands within these is read -/
def nmB (tl : Nat) (tx : Nat → Nat) (p lo hi : Nat) : Bool := decide (tkC tl tx p = 256 ∧ lo ≤ tkV tl tx p ∧ tkV tl tx p ≤ hi)

set_option maxHeartbeats 2000000 in
set_option maxRecDepth 20000 in
theorem cX4letterAt (rm : RM Rf) (hn : 109 ≤ n) {tl : Nat} {tx : Nat → Nat} (htx : txN M tl tx) {k : Nat} (hk : k < 1000) : Ret Λ (d) mX4_letterAt [.ref 96, .int (nI k)] (n, M, Rf, Lg) (some (.int (if k < tl then nI (tx k) else -1))) (n, M, Rf, Lg) 0 0 := by
  refine Ret.of rfl rfl rfl (fun κ o f hin => ?_)
  obtain ⟨y1, y3, y4, y5, y6, y8, y9, y10, y21, y22, y23, y24⟩ := id rm
  have hl := htx.1
  refine g_iload_n (pc := 0) o 1 dX4_letterAt_0 rfl rfl ?_
  refine g_aload_n (pc := 1) o 0 dX4_letterAt_1 rfl rfl ?_
  refine g_getI (pc := 2) o flRX4_71 rfl (by omega) dX4_letterAt_2 ?_
  refine g_icmp_ge (pc := 5) o 17 dX4_letterAt_5 (by decide) (fun q5 => ?_) (fun q5 => ?_)
  · have g := (le_N (by omega) (by omega) htx.2.1 rfl).mp q5
    refine g_iconst (pc := 17) (v := -1) o dX4_letterAt_17 (by decide) ?_
    exact g_iret (pc := 18) o f dX4_letterAt_18 rfl (by first | (rw [if_neg (by omega)]) | (rw [if_pos (by omega)]; exact (htx.2.2 k (by omega)).1)) rfl
  · have g := mt (le_N (b := k) (by omega) (by omega) htx.2.1 rfl).mpr q5
    refine g_aload_n (pc := 8) o 0 dX4_letterAt_8 rfl rfl ?_
    refine g_getR (pc := 9) o flRX4_7 rfl (by omega) y1 dX4_letterAt_9 ?_
    refine g_iload_n (pc := 12) o 1 dX4_letterAt_12 rfl rfl ?_
    refine g_iald (pc := 13) o (k) rfl (by omega) rfl (by omega) dX4_letterAt_13 ?_
    refine g_goto (pc := 14) o 18 dX4_letterAt_14 (by decide) ?_
    exact g_iret (pc := 18) o f dX4_letterAt_18 rfl (by first | (rw [if_neg (by omega)]) | (rw [if_pos (by omega)]; exact (htx.2.2 k (by omega)).1)) rfl

set_option maxHeartbeats 2000000 in
set_option maxRecDepth 20000 in
theorem cX4isDigit {x : Nat} (hx : x < 1000) : Ret Λ (d + 1) mX4_isDigit [.int (nI x)] (n, M, Rf, Lg) (some (.int (bi (isDg x = true)))) (n, M, Rf, Lg) 0 0 := by
  refine Ret.of rfl rfl rfl (fun κ o f hin => ?_)
  refine g_iload_n (pc := 0) o 0 dX4_isDigit_0 rfl rfl ?_
  refine g_bipush (pc := 1) (v := 48) o dX4_isDigit_1 (by decide) ?_
  refine g_bipush (pc := 3) (v := 57) o dX4_isDigit_3 (by decide) ?_
  refine g_S3i (pc := 5) o lkRX4_67 cmX4_in (cX4inNN (a := 48) (b := 57) (by omega) (by decide) (by decide)) rfl rfl ⟨Nat.le_refl _, Nat.le_refl _⟩ dX4_isDigit_5 ?_
  exact g_iret (pc := 8) o f dX4_isDigit_8 bi_nar (bi_cong (by unfold isDg; simp)) rfl

set_option maxHeartbeats 2000000 in
set_option maxRecDepth 20000 in
theorem cX4isDigit1  : Ret Λ (d + 1) mX4_isDigit [.int (-1)] (n, M, Rf, Lg) (some (.int 0)) (n, M, Rf, Lg) 0 0 := by
  refine Ret.of rfl rfl rfl (fun κ o f hin => ?_)
  refine g_iload_n (pc := 0) o 0 dX4_isDigit_0 rfl rfl ?_
  refine g_bipush (pc := 1) (v := 48) o dX4_isDigit_1 (by decide) ?_
  refine g_bipush (pc := 3) (v := 57) o dX4_isDigit_3 (by decide) ?_
  refine g_S3i (pc := 5) o lkRX4_67 cmX4_in (cX4in (-1) 48 57) rfl rfl ⟨Nat.le_refl _, Nat.le_refl _⟩ dX4_isDigit_5 ?_
  exact g_iret (pc := 8) o f dX4_isDigit_8 bi_nar (bi_f (by decide)) rfl

set_option maxHeartbeats 2000000 in
set_option maxRecDepth 20000 in
theorem cX4isItem {x : Nat} (hx : x < 1000) : Ret Λ (d) mX4_isItem [.int (nI x)] (n, M, Rf, Lg) (some (.int (bi (isIt x = true)))) (n, M, Rf, Lg) 0 0 := by
  refine Ret.of rfl rfl rfl (fun κ o f hin => ?_)
  refine g_iload_n (pc := 0) o 0 dX4_isItem_0 rfl rfl ?_
  refine g_bipush (pc := 1) (v := 100) o dX4_isItem_1 (by decide) ?_
  refine g_icmp_eq (pc := 3) o 36 dX4_isItem_3 (by decide) (fun q3 => ?_) (fun q3 => ?_)
  · have g := (eq_N (a := x) (b := 100) (by omega) (by decide) rfl rfl).mp q3
    refine g_iconst (pc := 36) (v := 1) o dX4_isItem_36 (by decide) ?_
    refine g_goto (pc := 37) o 41 dX4_isItem_37 (by decide) ?_
    exact g_iret (pc := 41) o f dX4_isItem_41 rfl (by first | exact (bi_t (by unfold isIt; simp [g])).symm | exact (bi_f (by unfold isIt; simp; omega)).symm) rfl
  · have g100 := mt (eq_N (a := x) (b := 100) (by omega) (by decide) rfl rfl).mpr q3
    refine g_iload_n (pc := 6) o 0 dX4_isItem_6 rfl rfl ?_
    refine g_bipush (pc := 7) (v := 113) o dX4_isItem_7 (by decide) ?_
    refine g_icmp_eq (pc := 9) o 36 dX4_isItem_9 (by decide) (fun q9 => ?_) (fun q9 => ?_)
    · have g := (eq_N (a := x) (b := 113) (by omega) (by decide) rfl rfl).mp q9
      refine g_iconst (pc := 36) (v := 1) o dX4_isItem_36 (by decide) ?_
      refine g_goto (pc := 37) o 41 dX4_isItem_37 (by decide) ?_
      exact g_iret (pc := 41) o f dX4_isItem_41 rfl (by first | exact (bi_t (by unfold isIt; simp [g])).symm | exact (bi_f (by unfold isIt; simp; omega)).symm) rfl
    · have g113 := mt (eq_N (a := x) (b := 113) (by omega) (by decide) rfl rfl).mpr q9
      refine g_iload_n (pc := 12) o 0 dX4_isItem_12 rfl rfl ?_
      refine g_bipush (pc := 13) (v := 101) o dX4_isItem_13 (by decide) ?_
      refine g_icmp_eq (pc := 15) o 36 dX4_isItem_15 (by decide) (fun q15 => ?_) (fun q15 => ?_)
      · have g := (eq_N (a := x) (b := 101) (by omega) (by decide) rfl rfl).mp q15
        refine g_iconst (pc := 36) (v := 1) o dX4_isItem_36 (by decide) ?_
        refine g_goto (pc := 37) o 41 dX4_isItem_37 (by decide) ?_
        exact g_iret (pc := 41) o f dX4_isItem_41 rfl (by first | exact (bi_t (by unfold isIt; simp [g])).symm | exact (bi_f (by unfold isIt; simp; omega)).symm) rfl
      · have g101 := mt (eq_N (a := x) (b := 101) (by omega) (by decide) rfl rfl).mpr q15
        refine g_iload_n (pc := 18) o 0 dX4_isItem_18 rfl rfl ?_
        refine g_bipush (pc := 19) (v := 98) o dX4_isItem_19 (by decide) ?_
        refine g_icmp_eq (pc := 21) o 36 dX4_isItem_21 (by decide) (fun q21 => ?_) (fun q21 => ?_)
        · have g := (eq_N (a := x) (b := 98) (by omega) (by decide) rfl rfl).mp q21
          refine g_iconst (pc := 36) (v := 1) o dX4_isItem_36 (by decide) ?_
          refine g_goto (pc := 37) o 41 dX4_isItem_37 (by decide) ?_
          exact g_iret (pc := 41) o f dX4_isItem_41 rfl (by first | exact (bi_t (by unfold isIt; simp [g])).symm | exact (bi_f (by unfold isIt; simp; omega)).symm) rfl
        · have g98 := mt (eq_N (a := x) (b := 98) (by omega) (by decide) rfl rfl).mpr q21
          refine g_iload_n (pc := 24) o 0 dX4_isItem_24 rfl rfl ?_
          refine g_bipush (pc := 25) (v := 99) o dX4_isItem_25 (by decide) ?_
          refine g_icmp_eq (pc := 27) o 36 dX4_isItem_27 (by decide) (fun q27 => ?_) (fun q27 => ?_)
          · have g := (eq_N (a := x) (b := 99) (by omega) (by decide) rfl rfl).mp q27
            refine g_iconst (pc := 36) (v := 1) o dX4_isItem_36 (by decide) ?_
            refine g_goto (pc := 37) o 41 dX4_isItem_37 (by decide) ?_
            exact g_iret (pc := 41) o f dX4_isItem_41 rfl (by first | exact (bi_t (by unfold isIt; simp [g])).symm | exact (bi_f (by unfold isIt; simp; omega)).symm) rfl
          · have g99 := mt (eq_N (a := x) (b := 99) (by omega) (by decide) rfl rfl).mpr q27
            refine g_iload_n (pc := 30) o 0 dX4_isItem_30 rfl rfl ?_
            refine g_bipush (pc := 31) (v := 110) o dX4_isItem_31 (by decide) ?_
            refine g_icmp_ne (pc := 33) o 40 dX4_isItem_33 (by decide) (fun q33 => ?_) (fun q33 => ?_)
            · have g110 := mt (eq_N (a := x) (b := 110) (by omega) (by decide) rfl rfl).mpr q33
              refine g_iconst (pc := 40) (v := 0) o dX4_isItem_40 (by decide) ?_
              exact g_iret (pc := 41) o f dX4_isItem_41 rfl (by first | exact (bi_t (by unfold isIt; simp [g])).symm | exact (bi_f (by unfold isIt; simp; omega)).symm) rfl
            · have g := (eq_N (a := x) (b := 110) (by omega) (by decide) rfl rfl).mp q33
              refine g_iconst (pc := 36) (v := 1) o dX4_isItem_36 (by decide) ?_
              refine g_goto (pc := 37) o 41 dX4_isItem_37 (by decide) ?_
              exact g_iret (pc := 41) o f dX4_isItem_41 rfl (by first | exact (bi_t (by unfold isIt; simp [g])).symm | exact (bi_f (by unfold isIt; simp; omega)).symm) rfl

theorem isDg_lo {x : Nat} (h : isDg x = true) : 48 ≤ x ∧ x ≤ 57 := by unfold isDg at h; simpa using h
theorem dig_v {a x : Nat} (h : 48 ≤ x ∧ x ≤ 57) : (10 : Int32) * nI a + nI x - 48 = nI (10 * a + (x - 48)) := by
  rw [show (10 : Int32) * nI a = nI (10 * a) from nI_mulE rfl rfl, nI_add, show (48 : Int32) = nI 48 from rfl]
  obtain ⟨y, rfl⟩ : ∃ y, x = y + 48 := ⟨x - 48, by omega⟩
  rw [show 10 * a + (y + 48) = 10 * a + (y + 48 - 48) + 48 by omega, ← nI_add (10 * a + (y + 48 - 48)) 48, Int32.add_sub_cancel]
theorem mvl_lt {tl : Nat} {tx : Nat → Nat} {s : Nat} (hx : ∀ i, i < tl → tx i < 256) : ∀ k, s + k < tl → mvl tx s k < 3000 := by
  intro k
  induction k with
  | zero => intro h; have := hx s (by omega); show tx s - 48 < 3000; omega
  | succ k ih =>
    intro h
    have h1 := hx (s + (k + 1)) h
    have h2 := ih (by omega)
    rw [mvl]
    split
    · omega
    · rename_i q
      have q2 : ¬ 255 < mvl tx s k := fun h => q (Or.inr h)
      omega
set_option maxHeartbeats 2000000 in
set_option maxRecDepth 20000 in
theorem cX4token (rm : RM Rf) (hn : 109 ≤ n) {tl : Nat} {tx : Nat → Nat} (htx : txN M tl tx) {p0 : Nat} (hp0 : p0 ≤ tl) (hat : M 96 12 = nI p0) : Ret Λ (d + 2) mX4_token [.ref 96] (n, M, Rf, Lg) none (n, tokM M (nI (tkE tl tx p0)) (nI (srt tl tx p0)) (nI (tkS tl tx p0)) (mvI tl tx p0), Rf, Lg) 0 0 := by
  refine Ret.of rfl rfl rfl (fun κ o f hin => ?_)
  obtain ⟨y1, y3, y4, y5, y6, y8, y9, y10, y21, y22, y23, y24⟩ := id rm
  have hl := htx.1
  obtain ⟨s, hs0⟩ : ∃ s, tkS tl tx p0 = s := ⟨_, rfl⟩
  have hsl : s ≤ tl := by rw [← hs0]; exact tkS_le tx hp0
  have hml : ∀ k, s + k < tl → mvl tx s k < 3000 := mvl_lt (fun i hi => (htx.2.2 i hi).2)
  have digs : s < tl → isDg (tx s) = true → tokM M (nI (tkE tl tx p0)) (nI (srt tl tx p0)) (nI (tkS tl tx p0)) (mvI tl tx p0) = tokM M (nI (dge tl tx s)) (2) (nI s) (nI (mvl tx s (dge tl tx s - s - 1))) → ∀ k k1 : Nat, tl < s + k1 + k → s + k1 < tl → dge tl tx s = dge tl tx (s + (k1 + 1)) → G (Λ, κ) 130 [some (.ref 96), some (.int (nI (tx s)))] [] (n, tokM M (nI (s + (k1 + 1))) (2) (nI s) (nI (mvl tx s k1)), Rf, Lg) 0 0 := by
    intro hs hd hfin k
    have hxs := (htx.2.2 s hs).2
    induction k with
    | zero => intro k1 h1 h2; exact absurd h1 (by omega)
    | succ k ih =>
      intro k1 h1 h2 hdge
      refine g_aload_n (pc := 130) o 0 dX4_token_130 rfl rfl ?_
      refine g_aload_n (pc := 131) o 0 dX4_token_131 rfl rfl ?_
      refine g_getI (pc := 132) o flRX4_74 rfl (by omega) dX4_token_132 ?_
      refine g_V1i (pc := 135) o lkRX4_77 cmX4_letterAt (cX4letterAt rm hn (htx.tok _ _ _ _) (k := s + (k1 + 1)) (by omega)) rfl (by omega) rfl rfl ⟨Nat.le_refl _, Nat.le_refl _⟩ dX4_token_135 ?_
      have digC : Ret Λ (d + 1) mX4_isDigit [.int (if s + (k1 + 1) < tl then nI (tx (s + (k1 + 1))) else -1)] (n, tokM M (nI (s + (k1 + 1))) (2) (nI s) (nI (mvl tx s k1)), Rf, Lg) (some (.int (if s + (k1 + 1) < tl then bi (isDg (tx (s + (k1 + 1))) = true) else 0))) (n, tokM M (nI (s + (k1 + 1))) (2) (nI s) (nI (mvl tx s k1)), Rf, Lg) 0 0 := by
        by_cases q : s + (k1 + 1) < tl
        · rw [if_pos q, if_pos q]; exact cX4isDigit (by have := (htx.2.2 _ q).2; omega)
        · rw [if_neg q, if_neg q]; exact cX4isDigit1
      refine g_S1i (pc := 138) o lkRX4_88 cmX4_isDigit (digC) rfl rfl ⟨Nat.le_refl _, Nat.le_refl _⟩ dX4_token_138 ?_
      refine g_if_eq (pc := 141) o 203 dX4_token_141 (by decide) (fun q141 => ?_) (fun q141 => ?_)
      · have hdg : dge tl tx s = s + (k1 + 1) := by
          rw [hdge]; unfold dge
          by_cases q : s + (k1 + 1) < tl
          · rw [if_pos q] at q141; exact run_no (bi_z.mp q141)
          · exact run_end (by omega)
        exact g_vret (pc := 203) o f dX4_token_203 (hp_M (by rw [hfin, hdg, show s + (k1 + 1) - s - 1 = k1 by omega]))
      · have q : s + (k1 + 1) < tl := by
          by_cases q : s + (k1 + 1) < tl
          · exact q
          · rw [if_neg q] at q141; exact absurd rfl q141
        rw [if_pos q] at q141
        have hdig := bi_nz.mp q141
        have hdge2 : dge tl tx s = dge tl tx (s + (k1 + 1 + 1)) := by rw [hdge]; exact run_go q hdig
        have hmv : mvl tx s k1 < 3000 := hml k1 (by omega)
        refine g_aload_n (pc := 144) o 0 dX4_token_144 rfl rfl ?_
        refine g_iload_n (pc := 145) o 1 dX4_token_145 rfl rfl ?_
        refine g_bipush (pc := 146) (v := 48) o dX4_token_146 (by decide) ?_
        refine g_icmp_eq (pc := 148) o 161 dX4_token_148 (by decide) (fun q148 => ?_) (fun q148 => ?_)
        · have g := (eq_N (a := tx s) (b := 48) (by omega) (by decide) rfl rfl).mp q148
          have em : mvl tx s (k1 + 1) = 1000 := by show (if _ then _ else _) = _; rw [if_pos (Or.inl g)]
          refine g_sipush (pc := 161) (v := 1000) o dX4_token_161 (by decide) ?_
          refine g_goto (pc := 164) o 187 dX4_token_164 (by decide) ?_
          have hd9 := (isDg_lo hdig)
          try rw [show (10 : Int32) * nI (mvl tx s k1) + nI (tx (s + (k1 + 1))) - 48 = nI (10 * mvl tx s k1 + (tx (s + (k1 + 1)) - 48)) from dig_v hd9]
          refine g_putI (pc := 187) o flRX4_94 rfl rfl (by omega) rfl rfl dX4_token_187 ?_
          rw [tok15]
          refine g_aload_n (pc := 190) o 0 dX4_token_190 rfl rfl ?_
          refine g_dup (pc := 191) o dX4_token_191 rfl ?_
          refine g_getI (pc := 192) o flRX4_74 rfl (by omega) dX4_token_192 ?_
          refine g_iconst (pc := 195) (v := 1) o dX4_token_195 (by decide) ?_
          refine g_iadd (pc := 196) o dX4_token_196 ?_
          refine g_putI (pc := 197) o flRX4_74 rfl rfl (by omega) rfl rfl dX4_token_197 ?_
          refine g_goto (pc := 200) o 130 dX4_token_200 (by decide) ?_
          rw [tok12]
          refine g_eq rfl rfl rfl (hp_M ?_) (ih (k1 + 1) (by omega) (by omega) hdge2)
          rw [em, show s + (k1 + 1 + 1) = s + (k1 + 1) + 1 by omega, nI_succ (s + (k1 + 1))]; rfl
        · have g := mt (eq_N (a := tx s) (b := 48) (by omega) (by decide) rfl rfl).mpr q148
          refine g_aload_n (pc := 151) o 0 dX4_token_151 rfl rfl ?_
          refine g_getI (pc := 152) o flRX4_94 rfl (by omega) dX4_token_152 ?_
          refine g_sipush (pc := 155) (v := 255) o dX4_token_155 (by decide) ?_
          refine g_icmp_le (pc := 158) o 167 dX4_token_158 (by decide) (fun q158 => ?_) (fun q158 => ?_)
          · have g2 := (le_N (a := mvl tx s k1) (b := 255) (by omega) (by decide) rfl rfl).mp q158
            have em : mvl tx s (k1 + 1) = 10 * mvl tx s k1 + (tx (s + (k1 + 1)) - 48) := by show (if _ then _ else _) = _; rw [if_neg (by omega)]
            refine g_bipush (pc := 167) (v := 10) o dX4_token_167 (by decide) ?_
            refine g_aload_n (pc := 169) o 0 dX4_token_169 rfl rfl ?_
            refine g_getI (pc := 170) o flRX4_94 rfl (by omega) dX4_token_170 ?_
            refine g_imul (pc := 173) o dX4_token_173 ?_
            rw [show tokM M (nI (s + (k1 + 1))) (2) (nI s) (nI (mvl tx s k1)) 96 15 = nI (mvl tx s k1) from rfl]
            refine g_aload_n (pc := 174) o 0 dX4_token_174 rfl rfl ?_
            refine g_getR (pc := 175) o flRX4_7 rfl (by omega) y1 dX4_token_175 ?_
            refine g_aload_n (pc := 178) o 0 dX4_token_178 rfl rfl ?_
            refine g_getI (pc := 179) o flRX4_74 rfl (by omega) dX4_token_179 ?_
            refine g_iald (pc := 182) o (s + (k1 + 1)) rfl (by omega) rfl (by omega) dX4_token_182 ?_
            rw [tokM_ne _ _ _ _ _ (by decide), (htx.2.2 _ q).1]
            refine g_iadd (pc := 183) o dX4_token_183 ?_
            refine g_bipush (pc := 184) (v := 48) o dX4_token_184 (by decide) ?_
            refine g_isub (pc := 186) o dX4_token_186 ?_
            have hd9 := (isDg_lo hdig)
            try rw [show (10 : Int32) * nI (mvl tx s k1) + nI (tx (s + (k1 + 1))) - 48 = nI (10 * mvl tx s k1 + (tx (s + (k1 + 1)) - 48)) from dig_v hd9]
            refine g_putI (pc := 187) o flRX4_94 rfl rfl (by omega) rfl rfl dX4_token_187 ?_
            rw [tok15]
            refine g_aload_n (pc := 190) o 0 dX4_token_190 rfl rfl ?_
            refine g_dup (pc := 191) o dX4_token_191 rfl ?_
            refine g_getI (pc := 192) o flRX4_74 rfl (by omega) dX4_token_192 ?_
            refine g_iconst (pc := 195) (v := 1) o dX4_token_195 (by decide) ?_
            refine g_iadd (pc := 196) o dX4_token_196 ?_
            refine g_putI (pc := 197) o flRX4_74 rfl rfl (by omega) rfl rfl dX4_token_197 ?_
            refine g_goto (pc := 200) o 130 dX4_token_200 (by decide) ?_
            rw [tok12]
            refine g_eq rfl rfl rfl (hp_M ?_) (ih (k1 + 1) (by omega) (by omega) hdge2)
            rw [em, show s + (k1 + 1 + 1) = s + (k1 + 1) + 1 by omega, nI_succ (s + (k1 + 1))]; rfl
          · have g2 := mt (le_N (a := mvl tx s k1) (b := 255) (by omega) (by decide) rfl rfl).mpr q158
            have em : mvl tx s (k1 + 1) = 1000 := by show (if _ then _ else _) = _; rw [if_pos (Or.inr (by omega))]
            refine g_sipush (pc := 161) (v := 1000) o dX4_token_161 (by decide) ?_
            refine g_goto (pc := 164) o 187 dX4_token_164 (by decide) ?_
            have hd9 := (isDg_lo hdig)
            try rw [show (10 : Int32) * nI (mvl tx s k1) + nI (tx (s + (k1 + 1))) - 48 = nI (10 * mvl tx s k1 + (tx (s + (k1 + 1)) - 48)) from dig_v hd9]
            refine g_putI (pc := 187) o flRX4_94 rfl rfl (by omega) rfl rfl dX4_token_187 ?_
            rw [tok15]
            refine g_aload_n (pc := 190) o 0 dX4_token_190 rfl rfl ?_
            refine g_dup (pc := 191) o dX4_token_191 rfl ?_
            refine g_getI (pc := 192) o flRX4_74 rfl (by omega) dX4_token_192 ?_
            refine g_iconst (pc := 195) (v := 1) o dX4_token_195 (by decide) ?_
            refine g_iadd (pc := 196) o dX4_token_196 ?_
            refine g_putI (pc := 197) o flRX4_74 rfl rfl (by omega) rfl rfl dX4_token_197 ?_
            refine g_goto (pc := 200) o 130 dX4_token_200 (by decide) ?_
            rw [tok12]
            refine g_eq rfl rfl rfl (hp_M ?_) (ih (k1 + 1) (by omega) (by omega) hdge2)
            rw [em, show s + (k1 + 1 + 1) = s + (k1 + 1) + 1 by omega, nI_succ (s + (k1 + 1))]; rfl
  have tailA : ∀ (so9 : Nat) (b0 e0 : Int32), s < tl → isDg (tx s) = false → srN (tx s) = so9 → so9 ≠ 0 → so9 ≠ 2 → so9 < 5 → G (Λ, κ) 85 [some (.ref 96), some (.int (nI (tx s)))] [.int (nI so9), .ref 96] (n, tokM M (nI s) (b0) (nI s) (e0), Rf, Lg) 0 0 := by
    intro so9 b0 e0 hs gd es n0 n2 n5
    refine g_putI (pc := 85) o flRX4_91 rfl rfl (by omega) rfl rfl dX4_token_85 ?_
    rw [tok13]
    refine g_aload_n (pc := 88) o 0 dX4_token_88 rfl rfl ?_
    refine g_iload_n (pc := 89) o 1 dX4_token_89 rfl rfl ?_
    refine g_putI (pc := 90) o flRX4_94 rfl rfl (by omega) rfl rfl dX4_token_90 ?_
    rw [tok15]
    refine g_aload_n (pc := 93) o 0 dX4_token_93 rfl rfl ?_
    refine g_dup (pc := 94) o dX4_token_94 rfl ?_
    refine g_getI (pc := 95) o flRX4_74 rfl (by omega) dX4_token_95 ?_
    refine g_aload_n (pc := 98) o 0 dX4_token_98 rfl rfl ?_
    refine g_getI (pc := 99) o flRX4_91 rfl (by omega) dX4_token_99 ?_
    refine g_if_ne (pc := 102) o 109 dX4_token_102 (by decide) (fun q102 => ?_) (fun q102 => ?_)
    · refine g_iconst (pc := 109) (v := 1) o dX4_token_109 (by decide) ?_
      refine g_iadd (pc := 110) o dX4_token_110 ?_
      refine g_putI (pc := 111) o flRX4_74 rfl rfl (by omega) rfl rfl dX4_token_111 ?_
      rw [tok12]
      refine g_aload_n (pc := 114) o 0 dX4_token_114 rfl rfl ?_
      refine g_getI (pc := 115) o flRX4_91 rfl (by omega) dX4_token_115 ?_
      refine g_iconst (pc := 118) (v := 2) o dX4_token_118 (by decide) ?_
      refine g_icmp_ne (pc := 119) o 203 dX4_token_119 (by decide) (fun q119 => ?_) (fun q119 => ?_)
      · exact g_vret (pc := 203) o f dX4_token_203 (hp_M (by rw [show tkE tl tx p0 = s + 1 from by unfold tkE; rw [hs0, if_neg (by omega), gd, if_neg (by decide)], show srt tl tx p0 = so9 from by unfold srt; rw [hs0, if_neg (by omega), es], show mvI tl tx p0 = nI (tx s) from by unfold mvI; rw [hs0, if_neg (by omega), gd, if_neg (by decide)], hs0, nI_succ]; rfl))
      · exact absurd (show nI so9 = 2 from q119) (fun h => n2 ((nI_eq (b := 2) (by omega) (by decide)).mp h))
    · exact absurd (show nI so9 = 0 from q102) (fun h => n0 ((nI_eq (b := 0) (by omega) (by decide)).mp h))
  have tailB : ∀ (b0 e0 : Int32), s < tl → isDg (tx s) = true → srN (tx s) = 2 → G (Λ, κ) 85 [some (.ref 96), some (.int (nI (tx s)))] [.int 2, .ref 96] (n, tokM M (nI s) (b0) (nI s) (e0), Rf, Lg) 0 0 := by
    intro b0 e0 hs gd es
    refine g_putI (pc := 85) o flRX4_91 rfl rfl (by omega) rfl rfl dX4_token_85 ?_
    rw [tok13]
    refine g_aload_n (pc := 88) o 0 dX4_token_88 rfl rfl ?_
    refine g_iload_n (pc := 89) o 1 dX4_token_89 rfl rfl ?_
    refine g_putI (pc := 90) o flRX4_94 rfl rfl (by omega) rfl rfl dX4_token_90 ?_
    rw [tok15]
    refine g_aload_n (pc := 93) o 0 dX4_token_93 rfl rfl ?_
    refine g_dup (pc := 94) o dX4_token_94 rfl ?_
    refine g_getI (pc := 95) o flRX4_74 rfl (by omega) dX4_token_95 ?_
    refine g_aload_n (pc := 98) o 0 dX4_token_98 rfl rfl ?_
    refine g_getI (pc := 99) o flRX4_91 rfl (by omega) dX4_token_99 ?_
    refine g_if_ne (pc := 102) o 109 dX4_token_102 (by decide) (fun q102 => ?_) (fun q102 => ?_)
    · refine g_iconst (pc := 109) (v := 1) o dX4_token_109 (by decide) ?_
      refine g_iadd (pc := 110) o dX4_token_110 ?_
      refine g_putI (pc := 111) o flRX4_74 rfl rfl (by omega) rfl rfl dX4_token_111 ?_
      rw [tok12]
      refine g_aload_n (pc := 114) o 0 dX4_token_114 rfl rfl ?_
      refine g_getI (pc := 115) o flRX4_91 rfl (by omega) dX4_token_115 ?_
      refine g_iconst (pc := 118) (v := 2) o dX4_token_118 (by decide) ?_
      refine g_icmp_ne (pc := 119) o 203 dX4_token_119 (by decide) (fun q119 => ?_) (fun q119 => ?_)
      · exact absurd rfl q119
      · refine g_aload_n (pc := 122) o 0 dX4_token_122 rfl rfl ?_
        refine g_iload_n (pc := 123) o 1 dX4_token_123 rfl rfl ?_
        refine g_bipush (pc := 124) (v := 48) o dX4_token_124 (by decide) ?_
        refine g_isub (pc := 126) o dX4_token_126 ?_
        refine g_putI (pc := 127) o flRX4_94 rfl rfl (by omega) rfl rfl dX4_token_127 ?_
        rw [tok15]
        have fin2 : tokM M (nI (tkE tl tx p0)) (nI (srt tl tx p0)) (nI (tkS tl tx p0)) (mvI tl tx p0) = tokM M (nI (dge tl tx s)) (2) (nI s) (nI (mvl tx s (dge tl tx s - s - 1))) := by rw [show tkE tl tx p0 = dge tl tx s from by unfold tkE; rw [hs0, if_neg (by omega), if_pos gd], show srt tl tx p0 = 2 from by unfold srt; rw [hs0, if_neg (by omega), es], show mvI tl tx p0 = nI (mvl tx s (dge tl tx s - s - 1)) from by unfold mvI; rw [hs0, if_neg (by omega), if_pos gd], hs0]; rfl
        have h9 := digs hs gd fin2 (tl + 1) 0 (by omega) (by omega) (by unfold dge; exact run_go hs gd)
        refine g_eq rfl rfl rfl (hp_M ?_) h9
        rw [show nI (tx s) - 48 = nI (mvl tx s 0) from by have := isDg_lo gd; show _ = nI (tx s - 48); rw [show (48 : Int32) = nI 48 from rfl, ← Int32.add_sub_cancel (a := nI (tx s - 48)) (b := nI 48), nI_add, show tx s - 48 + 48 = tx s by omega], show nI (s + (0 + 1)) = nI s + 1 from nI_succ s]; rfl
    · exact absurd (show (2 : Int32) = 0 from q102) (by decide)
  have tailC : ∀ (b0 e0 : Int32), ¬ s < tl → G (Λ, κ) 85 [some (.ref 96), some (.int (-1))] [.int 0, .ref 96] (n, tokM M (nI s) (b0) (nI s) (e0), Rf, Lg) 0 0 := by
    intro b0 e0 hs
    refine g_putI (pc := 85) o flRX4_91 rfl rfl (by omega) rfl rfl dX4_token_85 ?_
    rw [tok13]
    refine g_aload_n (pc := 88) o 0 dX4_token_88 rfl rfl ?_
    refine g_iload_n (pc := 89) o 1 dX4_token_89 rfl rfl ?_
    refine g_putI (pc := 90) o flRX4_94 rfl rfl (by omega) rfl rfl dX4_token_90 ?_
    rw [tok15]
    refine g_aload_n (pc := 93) o 0 dX4_token_93 rfl rfl ?_
    refine g_dup (pc := 94) o dX4_token_94 rfl ?_
    refine g_getI (pc := 95) o flRX4_74 rfl (by omega) dX4_token_95 ?_
    refine g_aload_n (pc := 98) o 0 dX4_token_98 rfl rfl ?_
    refine g_getI (pc := 99) o flRX4_91 rfl (by omega) dX4_token_99 ?_
    refine g_if_ne (pc := 102) o 109 dX4_token_102 (by decide) (fun q102 => ?_) (fun q102 => ?_)
    · exact absurd rfl q102
    · refine g_iconst (pc := 105) (v := 0) o dX4_token_105 (by decide) ?_
      refine g_goto (pc := 106) o 110 dX4_token_106 (by decide) ?_
      refine g_iadd (pc := 110) o dX4_token_110 ?_
      refine g_putI (pc := 111) o flRX4_74 rfl rfl (by omega) rfl rfl dX4_token_111 ?_
      rw [tok12]
      refine g_aload_n (pc := 114) o 0 dX4_token_114 rfl rfl ?_
      refine g_getI (pc := 115) o flRX4_91 rfl (by omega) dX4_token_115 ?_
      refine g_iconst (pc := 118) (v := 2) o dX4_token_118 (by decide) ?_
      refine g_icmp_ne (pc := 119) o 203 dX4_token_119 (by decide) (fun q119 => ?_) (fun q119 => ?_)
      · exact g_vret (pc := 203) o f dX4_token_203 (hp_M (by rw [show tkE tl tx p0 = s from by unfold tkE; rw [hs0, if_pos (by omega)], show srt tl tx p0 = 0 from by unfold srt; rw [hs0, if_pos (by omega)], show mvI tl tx p0 = -1 from by unfold mvI; rw [hs0, if_pos (by omega)], hs0, show tokM M (nI s) 0 (nI s) (-1) 96 12 + 0 = nI s from Int32.add_zero _]; rfl))
      · exact absurd (show (0 : Int32) = 2 from q119) (by decide)
  have mid : ∀ (b0 c0 e0 : Int32), G (Λ, κ) 26 [some (.ref 96), none] [] (n, tokM M (nI s) (b0) (c0) (e0), Rf, Lg) 0 0 := by
    intro b0 c0 e0
    refine g_aload_n (pc := 26) o 0 dX4_token_26 rfl rfl ?_
    refine g_aload_n (pc := 27) o 0 dX4_token_27 rfl rfl ?_
    refine g_getI (pc := 28) o flRX4_74 rfl (by omega) dX4_token_28 ?_
    refine g_putI (pc := 31) o flRX4_81 rfl rfl (by omega) rfl rfl dX4_token_31 ?_
    rw [show tokM M (nI s) (b0) (c0) (e0) 96 12 = nI s from rfl, tok14]
    refine g_aload_n (pc := 34) o 0 dX4_token_34 rfl rfl ?_
    refine g_aload_n (pc := 35) o 0 dX4_token_35 rfl rfl ?_
    refine g_getI (pc := 36) o flRX4_74 rfl (by omega) dX4_token_36 ?_
    refine g_V1i (pc := 39) o lkRX4_77 cmX4_letterAt (cX4letterAt rm hn (htx.tok _ _ _ _) (k := s) (by omega)) rfl (by omega) rfl rfl ⟨Nat.le_refl _, Nat.le_refl _⟩ dX4_token_39 ?_
    refine g_istore_n (pc := 42) o 1 dX4_token_42 rfl rfl ?_
    refine g_aload_n (pc := 43) o 0 dX4_token_43 rfl rfl ?_
    refine g_iload_n (pc := 44) o 1 dX4_token_44 rfl rfl ?_
    refine g_if_ge (pc := 45) o 52 dX4_token_45 (by decide) (fun q45 => ?_) (fun q45 => ?_)
    · have hs : s < tl := by
        by_cases q : s < tl
        · exact q
        · rw [if_neg q] at q45; exact absurd q45 (by decide)
      have hxs := (htx.2.2 s hs).2
      rw [if_pos hs]
      refine g_iload_n (pc := 52) o 1 dX4_token_52 rfl rfl ?_
      refine g_S1i (pc := 53) o lkRX4_84 cmX4_isItem (cX4isItem (by omega)) rfl rfl ⟨Nat.le_refl _, Nat.le_refl _⟩ dX4_token_53 ?_
      refine g_if_eq (pc := 56) o 63 dX4_token_56 (by decide) (fun q56 => ?_) (fun q56 => ?_)
      · have gi : isIt (tx s) = false := by have := bi_z.mp q56; simpa using this
        refine g_iload_n (pc := 63) o 1 dX4_token_63 rfl rfl ?_
        refine g_S1i (pc := 64) o lkRX4_88 cmX4_isDigit (cX4isDigit (by omega)) rfl rfl ⟨Nat.le_refl _, Nat.le_refl _⟩ dX4_token_64 ?_
        refine g_if_eq (pc := 67) o 74 dX4_token_67 (by decide) (fun q67 => ?_) (fun q67 => ?_)
        · have gd : isDg (tx s) = false := by have := bi_z.mp q67; simpa using this
          refine g_iload_n (pc := 74) o 1 dX4_token_74 rfl rfl ?_
          refine g_bipush (pc := 75) (v := 59) o dX4_token_75 (by decide) ?_
          refine g_icmp_ne (pc := 77) o 84 dX4_token_77 (by decide) (fun q77 => ?_) (fun q77 => ?_)
          · have g59 := mt (eq_N (a := tx s) (b := 59) (by omega) (by decide) rfl rfl).mpr q77
            have es : srN (tx s) = 4 := by unfold srN; rw [gi, gd, if_neg (by decide), if_neg (by decide), if_neg g59]
            refine g_iconst (pc := 84) (v := 4) o dX4_token_84 (by decide) ?_
            first | exact tailC _ _ hs | exact tailB _ _ hs gd es | exact tailA _ _ _ hs gd es (by decide) (by decide) (by decide)
          · have g59 := (eq_N (a := tx s) (b := 59) (by omega) (by decide) rfl rfl).mp q77
            have es : srN (tx s) = 3 := by unfold srN; rw [gi, gd, if_neg (by decide), if_neg (by decide), if_pos g59]
            refine g_iconst (pc := 80) (v := 3) o dX4_token_80 (by decide) ?_
            refine g_goto (pc := 81) o 85 dX4_token_81 (by decide) ?_
            first | exact tailC _ _ hs | exact tailB _ _ hs gd es | exact tailA _ _ _ hs gd es (by decide) (by decide) (by decide)
        · have gd : isDg (tx s) = true := bi_nz.mp q67
          have es : srN (tx s) = 2 := by unfold srN; rw [gi, gd]; rfl
          refine g_iconst (pc := 70) (v := 2) o dX4_token_70 (by decide) ?_
          refine g_goto (pc := 71) o 85 dX4_token_71 (by decide) ?_
          first | exact tailC _ _ hs | exact tailB _ _ hs gd es | exact tailA _ _ _ hs gd es (by decide) (by decide) (by decide)
      · have gi : isIt (tx s) = true := bi_nz.mp q56
        have gd : isDg (tx s) = false := by unfold isIt at gi; unfold isDg; simp at gi ⊢; omega
        have es : srN (tx s) = 1 := by unfold srN; rw [gi]; rfl
        refine g_iconst (pc := 59) (v := 1) o dX4_token_59 (by decide) ?_
        refine g_goto (pc := 60) o 85 dX4_token_60 (by decide) ?_
        first | exact tailC _ _ hs | exact tailB _ _ hs gd es | exact tailA _ _ _ hs gd es (by decide) (by decide) (by decide)
    · have hs : ¬ s < tl := by
        intro q
        rw [if_pos q] at q45
        exact q45 ((le_N (a := 0) (by decide) (by have := (htx.2.2 s q).2; omega) rfl rfl).mpr (by omega))
      rw [if_neg hs]
      refine g_iconst (pc := 48) (v := 0) o dX4_token_48 (by decide) ?_
      refine g_goto (pc := 49) o 85 dX4_token_49 (by decide) ?_
      first | exact tailC _ _ hs | exact tailB _ _ hs gd es | exact tailA _ _ _ hs gd es (by decide) (by decide) (by decide)
  obtain ⟨b0, hb0⟩ : ∃ x, M 96 13 = x := ⟨_, rfl⟩
  obtain ⟨c0, hc0⟩ : ∃ x, M 96 14 = x := ⟨_, rfl⟩
  obtain ⟨e0, he0⟩ : ∃ x, M 96 15 = x := ⟨_, rfl⟩
  have loop : ∀ (k p : Nat), p ≤ tl → tl < p + k → skp tl tx p = s → G (Λ, κ) 0 [some (.ref 96), none] [] (n, tokM M (nI p) (b0) (c0) (e0), Rf, Lg) 0 0 := by
    intro k
    induction k with
    | zero => intro p h1 h2; exact absurd h2 (by omega)
    | succ k ih =>
      intro p h1 h2 hsk
      refine g_aload_n (pc := 0) o 0 dX4_token_0 rfl rfl ?_
      refine g_aload_n (pc := 1) o 0 dX4_token_1 rfl rfl ?_
      refine g_getI (pc := 2) o flRX4_74 rfl (by omega) dX4_token_2 ?_
      refine g_V1i (pc := 5) o lkRX4_77 cmX4_letterAt (cX4letterAt rm hn (htx.tok _ _ _ _) (k := p) (by omega)) rfl (by omega) rfl rfl ⟨Nat.le_refl _, Nat.le_refl _⟩ dX4_token_5 ?_
      refine g_bipush (pc := 8) (v := 32) o dX4_token_8 (by decide) ?_
      refine g_icmp_ne (pc := 10) o 26 dX4_token_10 (by decide) (fun q10 => ?_) (fun q10 => ?_)
      · have hps : p = s := by
          rw [← hsk]; unfold skp
          by_cases q : p < tl
          · rw [if_pos q] at q10; exact (run_no (fun h => q10 (by rw [show tx p = 32 from by simpa using h]; rfl))).symm
          · exact (run_end (by omega)).symm
        subst hps
        exact mid _ _ _
      · have hp : p < tl := by
          by_cases q : p < tl
          · exact q
          · rw [if_neg q] at q10; exact absurd q10 (by decide)
        rw [if_pos hp] at q10
        have hx32 : tx p = 32 := (eq_N (a := tx p) (b := 32) (by have := (htx.2.2 p hp).2; omega) (by decide) rfl rfl).mp q10
        have hsk2 : skp tl tx (p + 1) = s := by rw [← hsk]; unfold skp; exact (run_go hp (by simp [hx32])).symm
        refine g_aload_n (pc := 13) o 0 dX4_token_13 rfl rfl ?_
        refine g_dup (pc := 14) o dX4_token_14 rfl ?_
        refine g_getI (pc := 15) o flRX4_74 rfl (by omega) dX4_token_15 ?_
        refine g_iconst (pc := 18) (v := 1) o dX4_token_18 (by decide) ?_
        refine g_iadd (pc := 19) o dX4_token_19 ?_
        refine g_putI (pc := 20) o flRX4_74 rfl rfl (by omega) rfl rfl dX4_token_20 ?_
        refine g_goto (pc := 23) o 0 dX4_token_23 (by decide) ?_
        rw [tok12, show tokM M (nI p) b0 c0 e0 96 12 + 1 = nI (p + 1) from (nI_succ p).symm]
        exact ih (p + 1) (by omega) (by omega) hsk2
  have h9 := loop (tl + 1) p0 hp0 (by omega) hs0
  rw [← hat, ← hb0, ← hc0, ← he0, tok_self] at h9
  exact h9

end M28
