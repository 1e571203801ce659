section M3
variable {Λ : PL} {d n : Nat} {M : HM} {Rf : HR} {Lg : HL}

theorem n_min {a b : Nat} (ha : a < 2147483648) (hb : b < 2147483648) : (if nI b < nI a then nI b else nI a) = nI (min a b) := by
  by_cases h : b < a
  · rw [if_pos ((lt_N hb ha rfl rfl).mpr h), Nat.min_eq_right (Nat.le_of_lt h)]
  · rw [if_neg (fun q => h ((lt_N hb ha rfl rfl).mp q)), Nat.min_eq_left (Nat.not_lt.mp h)]
/-- how many of a set there are beds for, in the first k districts -/
def bedN (T : Nat → Nat) (w : Nat) : Nat → Nat
  | 0 => 0
  | k + 1 => bedN T w k + min (pop (w &&& liv T k)) (T (10 + k))
theorem bedN_le (T : Nat → Nat) (w k : Nat) : bedN T w k ≤ 8 * k := by
  induction k with
  | zero => exact Nat.le_refl _
  | succ k ih =>
    have h1 := pop_le (w &&& liv T k)
    have h2 : min (pop (w &&& liv T k)) (T (10 + k)) ≤ pop (w &&& liv T k) := Nat.min_le_left _ _
    show bedN T w k + min (pop (w &&& liv T k)) (T (10 + k)) ≤ 8 * (k + 1)
    omega
/-- who could lie down -/
def cou (T S : Nat → Nat) (i : Nat) : Bool := ((S (9 + i)).testBit (S 1) && !(T (26 + i)).testBit (S 1)) && decide (0 < S (3 + i))
/-- who lies down of the first n: those that could, in their order, while there are beds -/
def lieL (T : Nat → Nat) (cd : Nat → Bool) : Nat → Nat
  | 0 => 0
  | n + 1 => lieL T cd n ||| (if (cd n && decide (pop (lieL T cd n &&& liv T (T (14 + n))) < T (10 + T (14 + n)))) = true then 2 ^ n else 0)
theorem lieL_lt (T : Nat → Nat) (cd : Nat → Bool) (n : Nat) : lieL T cd n < 2 ^ n := by
  induction n with
  | zero => exact Nat.one_pos
  | succ n ih =>
    have h2 : 2 ^ n < 2 ^ (n + 1) := Nat.pow_lt_pow_right (by decide) (Nat.lt_succ_self n)
    exact Nat.or_lt_two_pow (Nat.lt_trans ih h2) (by split <;> first | exact h2 | exact Nat.two_pow_pos _)
theorem lieL6 (T : Nat → Nat) (cd : Nat → Bool) {n : Nat} (h : n ≤ 6) : lieL T cd n < 64 := Nat.lt_of_lt_of_le (lieL_lt T cd n) (Nat.pow_le_pow_right (n := 2) (by decide) h)
theorem lieL_f {T : Nat → Nat} {cd : Nat → Bool} {n : Nat} (h : (cd n && decide (pop (lieL T cd n &&& liv T (T (14 + n))) < T (10 + T (14 + n)))) = false) : lieL T cd (n + 1) = lieL T cd n := by
  show lieL T cd n ||| _ = _
  rw [h]; simp
theorem lieL_t {T : Nat → Nat} {cd : Nat → Bool} {n : Nat} (h : (cd n && decide (pop (lieL T cd n &&& liv T (T (14 + n))) < T (10 + T (14 + n)))) = true) (hn : n < 32) : nI (lieL T cd n) ||| ((1 : Int32) <<< (nI n &&& 31)) = nI (lieL T cd (n + 1)) := by
  rw [n_one hn, n_or]
  show _ = nI (lieL T cd n ||| _)
  rw [h]; rfl
theorem liv6 {T : Nat → Nat} (h : T 2 ≤ 6) (d : Nat) : liv T d < 64 := mk6 _ h
theorem and6 {a b : Nat} (h : b < 64) : a &&& b < 64 := Nat.and_lt_two_pow (n := 6) a h
def lie (T : Nat → Nat) (cd : Nat → Bool) : Nat := lieL T cd (T 2)
def slp (T S : Nat → Nat) (cd : Nat → Bool) : Nat := lie T cd &&& rst T (S 1)
theorem slp6 {T S : Nat → Nat} {cd : Nat → Bool} (h : T 2 ≤ 6) : slp T S cd < 64 := Nat.lt_of_le_of_lt Nat.and_le_left (lieL6 T cd h)

theorem ts_nt9 {b : Bool} (h : ¬ b = true) : b = false := by cases b <;> simp_all
theorem mk_none (n : Nat) : mk (fun _ => false) n = 0 := by
  induction n with
  | zero => rfl
  | succ n ih => rw [mk_f rfl, ih]

set_option maxHeartbeats 2000000 in
set_option maxRecDepth 20000 in
theorem cX0wokenByAll {c0 : Nat} {T : Nat → Nat} (hc : c0 = 4 ∨ c0 = 16) (hn : 96 ≤ n) (rc : RCi Rf c0) (ht : okT T) (hm : cyT M c0 T) {w : Nat} (hw : w < 2 ^ 31) : Ret Λ (d + 1) mX0_wokenByAll [.ref c0, .int (nI w)] (n, M, Rf, Lg) (some (.int (nI (wkA T w)))) (n, M, Rf, Lg) 0 0 := by
  refine Ret.of rfl rfl rfl (fun κ o f hin => ?_)
  obtain ⟨r3, r4, r6, r7, r8, r9, r11, r12, r13, r14, r15⟩ := id rc
  obtain ⟨z0, z1, z2, z3, z4, z5, z6, z7, z8, z9, z10, z11⟩ := city_shp hc
  obtain ⟨⟨t0, t0b⟩, t1, t2, t3, tD, tC, tN⟩ := id ht
  obtain ⟨m0, m1, m5, m10, mb, mj, mc, mn, ml⟩ := id hm
  have loop : ∀ k c : Nat, c ≤ T 3 → T 3 < c + k → G (Λ, κ) 4 [some (.ref c0), some (.int (nI w)), some (.int (nI (mk (fun i => wkP T w i c) (T 2)))), some (.int (nI c))] [] (n, M, Rf, Lg) 0 0 := by
    intro k
    induction k with
    | zero => intro c h1 h2; exact absurd h2 (by omega)
    | succ k ih =>
      intro c h1 h2
      refine g_iload_n (pc := 4) o 3 dX0_wokenByAll_4 rfl rfl ?_
      refine g_aload_n (pc := 5) o 0 dX0_wokenByAll_5 rfl rfl ?_
      refine g_getI (pc := 6) o flRX0_59 (by first | assumption | rfl) (by first | assumption | omega) dX0_wokenByAll_6 ?_
      refine g_icmp_ge (pc := 9) o 45 dX0_wokenByAll_9 (by decide) (fun q9 => ?_) (fun q9 => ?_)
      · have ec : c = T 3 := by have := (le_N (a := T 3) (b := c) (by omega) (by omega) m10 rfl).mp q9; omega
        refine g_iload_n (pc := 45) o 2 dX0_wokenByAll_45 rfl rfl ?_
        exact g_iret (pc := 46) o f dX0_wokenByAll_46 rfl (by rw [ec]; rfl) rfl
      · have hc1 : c < T 3 := by have := mt (le_N (a := T 3) (b := c) (by omega) (by omega) m10 rfl).mpr q9; omega
        have hx := tN c hc1
        refine g_iload_n (pc := 12) o 1 dX0_wokenByAll_12 rfl rfl ?_
        refine g_iload_n (pc := 13) o 3 dX0_wokenByAll_13 rfl rfl ?_
        refine g_SN2i (pc := 14) o lkRX0_69 cmX3_has (cX3has hw (by omega)) rfl rfl ⟨Nat.le_refl _, Nat.le_refl _⟩ dX0_wokenByAll_14 ?_
        refine g_if_eq (pc := 17) o 39 dX0_wokenByAll_17 (by decide) (fun q17 => ?_) (fun q17 => ?_)
        · have e1 : mk (fun i => wkP T w i (c + 1)) (T 2) = mk (fun i => wkP T w i c) (T 2) := mk_congr (fun i _ => by show (wkP T w i c || _) = _; rw [ts_nt9 (bi_z.mp q17)]; simp)
          refine g_incN (pc := 39) o (c) dX0_wokenByAll_39 rfl rfl ?_
          refine g_goto (pc := 42) o 4 dX0_wokenByAll_42 (by decide) ?_
          first | exact ih (c + 1) (by omega) (by omega) | (rw [← e1]; exact ih (c + 1) (by omega) (by omega))
        · have e1 : nI (mk (fun i => wkP T w i c) (T 2)) ||| nI (wkB T (T (38 + c)) (T (50 + c))) = nI (mk (fun i => wkP T w i (c + 1)) (T 2)) := by
            rw [n_or]; unfold wkB; rw [mk_or]; exact congrArg nI (mk_congr (fun i _ => by show _ = (wkP T w i c || _); rw [bi_nz.mp q17]; simp))
          refine g_iload_n (pc := 20) o 2 dX0_wokenByAll_20 rfl rfl ?_
          refine g_aload_n (pc := 21) o 0 dX0_wokenByAll_21 rfl rfl ?_
          refine g_aload_n (pc := 22) o 0 dX0_wokenByAll_22 rfl rfl ?_
          refine g_getR (pc := 23) o flRX0_30 (by first | assumption | rfl) (by first | assumption | omega) (by assumption) dX0_wokenByAll_23 ?_
          refine g_iload_n (pc := 26) o 3 dX0_wokenByAll_26 rfl rfl ?_
          refine g_iald (pc := 27) o (c) (by first | assumption | rfl) (by first | assumption | omega) rfl (by omega) dX0_wokenByAll_27 ?_
          rw [(mn c hc1).1]
          refine g_aload_n (pc := 28) o 0 dX0_wokenByAll_28 rfl rfl ?_
          refine g_getR (pc := 29) o flRX0_36 (by first | assumption | rfl) (by first | assumption | omega) (by assumption) dX0_wokenByAll_29 ?_
          refine g_iload_n (pc := 32) o 3 dX0_wokenByAll_32 rfl rfl ?_
          refine g_iald (pc := 33) o (c) (by first | assumption | rfl) (by first | assumption | omega) rfl (by omega) dX0_wokenByAll_33 ?_
          rw [(mn c hc1).2.2]
          refine g_V2i (pc := 34) o lkRX0_110 cmX0_wokenBy (cX0wokenBy hc hn rc ht hm (dd := T (38 + c)) (vv := T (50 + c)) (by omega) (by omega)) (by first | assumption | rfl) (by first | assumption | omega) rfl rfl ⟨Nat.le_refl _, Nat.le_refl _⟩ dX0_wokenByAll_34 ?_
          refine g_ior (pc := 37) o dX0_wokenByAll_37 ?_
          rw [e1]
          refine g_istore_n (pc := 38) o 2 dX0_wokenByAll_38 rfl rfl ?_
          refine g_incN (pc := 39) o (c) dX0_wokenByAll_39 rfl rfl ?_
          refine g_goto (pc := 42) o 4 dX0_wokenByAll_42 (by decide) ?_
          first | exact ih (c + 1) (by omega) (by omega) | (rw [← e1]; exact ih (c + 1) (by omega) (by omega))
  refine g_iconst (pc := 0) (v := 0) o dX0_wokenByAll_0 (by decide) ?_
  refine g_istore_n (pc := 1) o 2 dX0_wokenByAll_1 rfl rfl ?_
  refine g_iconst (pc := 2) (v := 0) o dX0_wokenByAll_2 (by decide) ?_
  refine g_istore_n (pc := 3) o 3 dX0_wokenByAll_3 rfl rfl ?_
  refine g_eq rfl ?_ rfl rfl (loop (T 3 + 1) 0 (by omega) (by omega))
  rw [show mk (fun i => wkP T w i 0) (T 2) = 0 from mk_none (T 2)]; rfl

set_option maxHeartbeats 2000000 in
set_option maxRecDepth 20000 in
theorem cX0tiredOf {c0 : Nat} {T : Nat → Nat} (hc : c0 = 4 ∨ c0 = 16) (hn : 96 ≤ n) (rc : RCi Rf c0) (ht : okT T) (hm : cyT M c0 T) {a : Nat} {tr : Nat → Nat} (sa : shp a = (6, 6)) (han : a < n) (hr : ∀ i, i < T 2 → M a i = nI (tr i) ∧ tr i ≤ 1000) : Ret Λ (d) mX0_tiredOf [.ref c0, .ref a] (n, M, Rf, Lg) (some (.int (nI (mk (fun i => decide (0 < tr i)) (T 2))))) (n, M, Rf, Lg) 0 0 := by
  refine Ret.of rfl rfl rfl (fun κ o f hin => ?_)
  obtain ⟨r3, r4, r6, r7, r8, r9, r11, r12, r13, r14, r15⟩ := rc
  obtain ⟨z0, z1, z2, z3, z4, z5, z6, z7, z8, z9, z10, z11⟩ := city_shp hc
  obtain ⟨⟨t0, t0b⟩, t1, t2, t3, tD, tC, tN⟩ := ht
  obtain ⟨m0, m1, m5, m10, mb, mj, mc, mn, ml⟩ := hm
  have loop : ∀ k c : Nat, c ≤ T 2 → T 2 < c + k → G (Λ, κ) 4 [some (.ref c0), some (.ref a), some (.int (nI (mk (fun i => decide (0 < tr i)) c))), some (.int (nI c))] [] (n, M, Rf, Lg) 0 0 := by
    intro k
    induction k with
    | zero => intro c h1 h2; exact absurd h2 (by omega)
    | succ k ih =>
      intro c h1 h2
      refine g_iload_n (pc := 4) o 3 dX0_tiredOf_4 rfl rfl ?_
      refine g_aload_n (pc := 5) o 0 dX0_tiredOf_5 rfl rfl ?_
      refine g_getI (pc := 6) o flRX0_56 (by first | assumption | rfl) (by first | assumption | omega) dX0_tiredOf_6 ?_
      refine g_icmp_ge (pc := 9) o 30 dX0_tiredOf_9 (by decide) (fun q9 => ?_) (fun q9 => ?_)
      · have ec : c = T 2 := by have := (le_N (a := T 2) (b := c) (by omega) (by omega) m5 rfl).mp q9; omega
        refine g_iload_n (pc := 30) o 2 dX0_tiredOf_30 rfl rfl ?_
        exact g_iret (pc := 31) o f dX0_tiredOf_31 rfl (by rw [ec]) rfl
      · have hc1 : c < T 2 := by have := mt (le_N (a := T 2) (b := c) (by omega) (by omega) m5 rfl).mpr q9; omega
        refine g_aload_n (pc := 12) o 1 dX0_tiredOf_12 rfl rfl ?_
        refine g_iload_n (pc := 13) o 3 dX0_tiredOf_13 rfl rfl ?_
        refine g_iald (pc := 14) o (c) (by first | assumption | rfl) (by first | assumption | omega) rfl (by omega) dX0_tiredOf_14 ?_
        rw [(hr c hc1).1]
        refine g_if_le (pc := 15) o 24 dX0_tiredOf_15 (by decide) (fun q15 => ?_) (fun q15 => ?_)
        · have e1 : mk (fun i => decide (0 < tr i)) (c + 1) = mk (fun i => decide (0 < tr i)) c := mk_f (by have := (le_N (b := 0) (by have := (hr c hc1).2; omega) (by decide) rfl rfl).mp q15; simpa using this)
          refine g_incN (pc := 24) o (c) dX0_tiredOf_24 rfl rfl ?_
          refine g_goto (pc := 27) o 4 dX0_tiredOf_27 (by decide) ?_
          first | exact ih (c + 1) (by omega) (by omega) | (rw [← e1]; exact ih (c + 1) (by omega) (by omega))
        · have e1 := mk_t (p := (fun i => decide (0 < tr i))) (n := c) (by have := mt (le_N (b := 0) (by have := (hr c hc1).2; omega) (by decide) rfl rfl).mpr q15; simp; omega) (by omega)
          refine g_iload_n (pc := 18) o 2 dX0_tiredOf_18 rfl rfl ?_
          refine g_iconst (pc := 19) (v := 1) o dX0_tiredOf_19 (by decide) ?_
          refine g_iload_n (pc := 20) o 3 dX0_tiredOf_20 rfl rfl ?_
          refine g_ishl (pc := 21) o dX0_tiredOf_21 ?_
          refine g_ior (pc := 22) o dX0_tiredOf_22 ?_
          rw [e1]
          refine g_istore_n (pc := 23) o 2 dX0_tiredOf_23 rfl rfl ?_
          refine g_incN (pc := 24) o (c) dX0_tiredOf_24 rfl rfl ?_
          refine g_goto (pc := 27) o 4 dX0_tiredOf_27 (by decide) ?_
          first | exact ih (c + 1) (by omega) (by omega) | (rw [← e1]; exact ih (c + 1) (by omega) (by omega))
  refine g_iconst (pc := 0) (v := 0) o dX0_tiredOf_0 (by decide) ?_
  refine g_istore_n (pc := 1) o 2 dX0_tiredOf_1 rfl rfl ?_
  refine g_iconst (pc := 2) (v := 0) o dX0_tiredOf_2 (by decide) ?_
  refine g_istore_n (pc := 3) o 3 dX0_tiredOf_3 rfl rfl ?_
  exact loop (T 2 + 1) 0 (by omega) (by omega)

set_option maxHeartbeats 2000000 in
set_option maxRecDepth 20000 in
theorem cX0bedded {c0 : Nat} {T : Nat → Nat} (hc : c0 = 4 ∨ c0 = 16) (hn : 96 ≤ n) (rc : RCi Rf c0) (ht : okT T) (hm : cyT M c0 T) {w : Nat} : Ret Λ (d + 1) mX0_bedded [.ref c0, .int (nI w)] (n, M, Rf, Lg) (some (.int (nI (bedN T w (T 0))))) (n, M, Rf, Lg) 0 0 := by
  refine Ret.of rfl rfl rfl (fun κ o f hin => ?_)
  obtain ⟨r3, r4, r6, r7, r8, r9, r11, r12, r13, r14, r15⟩ := rc
  obtain ⟨z0, z1, z2, z3, z4, z5, z6, z7, z8, z9, z10, z11⟩ := city_shp hc
  obtain ⟨⟨t0, t0b⟩, t1, t2, t3, tD, tC, tN⟩ := ht
  obtain ⟨m0, m1, m5, m10, mb, mj, mc, mn, ml⟩ := hm
  have loop : ∀ k c : Nat, c ≤ T 0 → T 0 < c + k → G (Λ, κ) 4 [some (.ref c0), some (.int (nI w)), some (.int (nI (bedN T w c))), some (.int (nI c))] [] (n, M, Rf, Lg) 0 0 := by
    intro k
    induction k with
    | zero => intro c h1 h2; exact absurd h2 (by omega)
    | succ k ih =>
      intro c h1 h2
      refine g_iload_n (pc := 4) o 3 dX0_bedded_4 rfl rfl ?_
      refine g_aload_n (pc := 5) o 0 dX0_bedded_5 rfl rfl ?_
      refine g_getI (pc := 6) o flRX0_45 (by first | assumption | rfl) (by first | assumption | omega) dX0_bedded_6 ?_
      refine g_icmp_ge (pc := 9) o 41 dX0_bedded_9 (by decide) (fun q9 => ?_) (fun q9 => ?_)
      · have ec : c = T 0 := by have := (le_N (a := T 0) (b := c) (by omega) (by omega) m0 rfl).mp q9; omega
        refine g_iload_n (pc := 41) o 2 dX0_bedded_41 rfl rfl ?_
        exact g_iret (pc := 42) o f dX0_bedded_42 rfl (by rw [ec]) rfl
      · have hc1 : c < T 0 := by have := mt (le_N (a := T 0) (b := c) (by omega) (by omega) m0 rfl).mpr q9; omega
        refine g_iload_n (pc := 12) o 2 dX0_bedded_12 rfl rfl ?_
        refine g_iload_n (pc := 13) o 1 dX0_bedded_13 rfl rfl ?_
        refine g_aload_n (pc := 14) o 0 dX0_bedded_14 rfl rfl ?_
        refine g_getR (pc := 15) o flRX0_39 (by first | assumption | rfl) (by first | assumption | omega) (by assumption) dX0_bedded_15 ?_
        refine g_iload_n (pc := 18) o 3 dX0_bedded_18 rfl rfl ?_
        refine g_iald (pc := 19) o (c) (by first | assumption | rfl) (by first | assumption | omega) rfl (by omega) dX0_bedded_19 ?_
        rw [ml c (by omega)]
        refine g_iand (pc := 20) o dX0_bedded_20 ?_
        rw [n_and]
        refine g_S1i (pc := 21) o lkRX0_80 cmJ6_bitCount_0f7a4 (cbc (Nat.lt_trans (and6 (liv6 t2 c)) (by decide))) rfl rfl ⟨Nat.le_refl _, Nat.le_refl _⟩ dX0_bedded_21 ?_
        refine g_aload_n (pc := 24) o 0 dX0_bedded_24 rfl rfl ?_
        refine g_getR (pc := 25) o flRX0_9 (by first | assumption | rfl) (by first | assumption | omega) (by assumption) dX0_bedded_25 ?_
        refine g_iload_n (pc := 28) o 3 dX0_bedded_28 rfl rfl ?_
        refine g_iald (pc := 29) o (c) (by first | assumption | rfl) (by first | assumption | omega) rfl (by omega) dX0_bedded_29 ?_
        rw [mb c (by omega)]
        have hx := tD c (by omega)
        have hp := pop_le (w &&& liv T c)
        refine g_min (pc := 30) o lkRX0_85 rfl rfl ⟨Nat.le_refl _, Nat.le_refl _⟩ dX0_bedded_30 ?_ st_min ini_math co_min
        rw [n_min (by omega) (by omega)]
        refine g_iadd (pc := 33) o dX0_bedded_33 ?_
        rw [nI_add]
        refine g_istore_n (pc := 34) o 2 dX0_bedded_34 rfl rfl ?_
        refine g_incN (pc := 35) o (c) dX0_bedded_35 rfl rfl ?_
        refine g_goto (pc := 38) o 4 dX0_bedded_38 (by decide) ?_
        exact ih (c + 1) (by omega) (by omega)
  refine g_iconst (pc := 0) (v := 0) o dX0_bedded_0 (by decide) ?_
  refine g_istore_n (pc := 1) o 2 dX0_bedded_1 rfl rfl ?_
  refine g_iconst (pc := 2) (v := 0) o dX0_bedded_2 (by decide) ?_
  refine g_istore_n (pc := 3) o 3 dX0_bedded_3 rfl rfl ?_
  exact loop (T 0 + 1) 0 (by omega) (by omega)

set_option maxHeartbeats 2000000 in
set_option maxRecDepth 20000 in
theorem cX0could {c0 : Nat} {T : Nat → Nat} (hc : c0 = 4 ∨ c0 = 16) (hn : 96 ≤ n) (rc : RCi Rf c0) (ht : okT T) (hm : cyT M c0 T) {a bb : Nat} {S : Nat → Nat} (ha : a ∈ nows) (ra : RNi Rf a) (hs : nwS M a S (T 2)) (os : okS S (T 2) bb) : Ret Λ (d + 1) mX0_couldLieDown [.ref c0, .ref a] (n, M, Rf, Lg) (some (.int (nI (mk (cou T S) (T 2))))) (n, M, Rf, Lg) 0 0 := by
  refine Ret.of rfl rfl rfl (fun κ o f hin => ?_)
  obtain ⟨r3, r4, r6, r7, r8, r9, r11, r12, r13, r14, r15⟩ := rc
  obtain ⟨z0, z1, z2, z3, z4, z5, z6, z7, z8, z9, z10, z11⟩ := city_shp hc
  obtain ⟨⟨t0, t0b⟩, t1, t2, t3, tD, tC, tN⟩ := ht
  obtain ⟨m0, m1, m5, m10, mb, mj, mc, mn, ml⟩ := hm
  obtain ⟨y0, y1, y2, y3, ylt⟩ := now_shp ha
  obtain ⟨u3, u4, u5⟩ := id ra
  obtain ⟨s0, s1, s2, sc⟩ := id hs
  obtain ⟨os0, os1, os2, osc⟩ := id os
  have loop : ∀ k c : Nat, c ≤ T 2 → T 2 < c + k → G (Λ, κ) 4 [some (.ref c0), some (.ref a), some (.int (nI (mk (cou T S) c))), some (.int (nI c))] [] (n, M, Rf, Lg) 0 0 := by
    intro k
    induction k with
    | zero => intro c h1 h2; exact absurd h2 (by omega)
    | succ k ih =>
      intro c h1 h2
      refine g_iload_n (pc := 4) o 3 dX0_couldLieDown_4 rfl rfl ?_
      refine g_aload_n (pc := 5) o 0 dX0_couldLieDown_5 rfl rfl ?_
      refine g_getI (pc := 6) o flRX0_56 (by first | assumption | rfl) (by first | assumption | omega) dX0_couldLieDown_6 ?_
      refine g_icmp_ge (pc := 9) o 58 dX0_couldLieDown_9 (by decide) (fun q9 => ?_) (fun q9 => ?_)
      · have ec : c = T 2 := by have := (le_N (a := T 2) (b := c) (by omega) (by omega) m5 rfl).mp q9; omega
        refine g_iload_n (pc := 58) o 2 dX0_couldLieDown_58 rfl rfl ?_
        exact g_iret (pc := 59) o f dX0_couldLieDown_59 rfl (by rw [ec]) rfl
      · have hc1 : c < T 2 := by have := mt (le_N (a := T 2) (b := c) (by omega) (by omega) m5 rfl).mpr q9; omega
        have hx := tC c hc1
        have hy := osc c hc1
        have hz := sc c hc1
        refine g_aload_n (pc := 12) o 1 dX0_couldLieDown_12 rfl rfl ?_
        refine g_getR (pc := 13) o flRX0_91 (by first | assumption | rfl) (by first | assumption | omega) (by assumption) dX0_couldLieDown_13 ?_
        refine g_iload_n (pc := 16) o 3 dX0_couldLieDown_16 rfl rfl ?_
        refine g_iald (pc := 17) o (c) (by first | assumption | rfl) (by first | assumption | omega) rfl (by omega) dX0_couldLieDown_17 ?_
        rw [hz.2.1]
        refine g_aload_n (pc := 18) o 0 dX0_couldLieDown_18 rfl rfl ?_
        refine g_getR (pc := 19) o flRX0_24 (by first | assumption | rfl) (by first | assumption | omega) (by assumption) dX0_couldLieDown_19 ?_
        refine g_iload_n (pc := 22) o 3 dX0_couldLieDown_22 rfl rfl ?_
        refine g_iald (pc := 23) o (c) (by first | assumption | rfl) (by first | assumption | omega) rfl (by omega) dX0_couldLieDown_23 ?_
        rw [(mc c hc1).2.2.1]
        refine g_iconst (pc := 24) (v := -1) o dX0_couldLieDown_24 (by decide) ?_
        refine g_ixor (pc := 25) o dX0_couldLieDown_25 ?_
        refine g_iand (pc := 26) o dX0_couldLieDown_26 ?_
        rw [n_dif]
        refine g_aload_n (pc := 27) o 1 dX0_couldLieDown_27 rfl rfl ?_
        refine g_getI (pc := 28) o flRX0_96 (by first | assumption | rfl) (by first | assumption | omega) dX0_couldLieDown_28 ?_
        rw [s1]
        refine g_SN2i (pc := 31) o lkRX0_69 cmX3_has (cX3has (Nat.lt_of_lt_of_le (dif_lt (k := 8) (by omega)) (by decide)) (by omega)) rfl rfl ⟨Nat.le_refl _, Nat.le_refl _⟩ dX0_couldLieDown_31 ?_
        refine g_if_eq (pc := 34) o 52 dX0_couldLieDown_34 (by decide) (fun q34 => ?_) (fun q34 => ?_)
        · have e1 : mk (cou T S) (c + 1) = mk (cou T S) c := mk_f (by unfold cou; have g := ts_nt9 (bi_z.mp q34); rw [dif_bit] at g; rw [g]; rfl)
          refine g_incN (pc := 52) o (c) dX0_couldLieDown_52 rfl rfl ?_
          refine g_goto (pc := 55) o 4 dX0_couldLieDown_55 (by decide) ?_
          first | exact ih (c + 1) (by omega) (by omega) | (rw [← e1]; exact ih (c + 1) (by omega) (by omega))
        · have g1 := bi_nz.mp q34
          rw [dif_bit] at g1
          refine g_aload_n (pc := 37) o 1 dX0_couldLieDown_37 rfl rfl ?_
          refine g_getR (pc := 38) o flRX0_99 (by first | assumption | rfl) (by first | assumption | omega) (by assumption) dX0_couldLieDown_38 ?_
          refine g_iload_n (pc := 41) o 3 dX0_couldLieDown_41 rfl rfl ?_
          refine g_iald (pc := 42) o (c) (by first | assumption | rfl) (by first | assumption | omega) rfl (by omega) dX0_couldLieDown_42 ?_
          rw [hz.1]
          refine g_if_le (pc := 43) o 52 dX0_couldLieDown_43 (by decide) (fun q43 => ?_) (fun q43 => ?_)
          · have e1 : mk (cou T S) (c + 1) = mk (cou T S) c := mk_f (by unfold cou; have g := (le_N (b := 0) (by omega) (by decide) rfl rfl).mp q43; rw [show decide (0 < S (3 + c)) = false from decide_eq_false (by omega)]; simp)
            refine g_incN (pc := 52) o (c) dX0_couldLieDown_52 rfl rfl ?_
            refine g_goto (pc := 55) o 4 dX0_couldLieDown_55 (by decide) ?_
            first | exact ih (c + 1) (by omega) (by omega) | (rw [← e1]; exact ih (c + 1) (by omega) (by omega))
          · have e1 := mk_t (p := (cou T S)) (n := c) (by have g := mt (le_N (b := 0) (by omega) (by decide) rfl rfl).mpr q43; unfold cou; rw [g1]; simp; omega) (by omega)
            refine g_iload_n (pc := 46) o 2 dX0_couldLieDown_46 rfl rfl ?_
            refine g_iconst (pc := 47) (v := 1) o dX0_couldLieDown_47 (by decide) ?_
            refine g_iload_n (pc := 48) o 3 dX0_couldLieDown_48 rfl rfl ?_
            refine g_ishl (pc := 49) o dX0_couldLieDown_49 ?_
            refine g_ior (pc := 50) o dX0_couldLieDown_50 ?_
            rw [e1]
            refine g_istore_n (pc := 51) o 2 dX0_couldLieDown_51 rfl rfl ?_
            refine g_incN (pc := 52) o (c) dX0_couldLieDown_52 rfl rfl ?_
            refine g_goto (pc := 55) o 4 dX0_couldLieDown_55 (by decide) ?_
            first | exact ih (c + 1) (by omega) (by omega) | (rw [← e1]; exact ih (c + 1) (by omega) (by omega))
  refine g_iconst (pc := 0) (v := 0) o dX0_couldLieDown_0 (by decide) ?_
  refine g_istore_n (pc := 1) o 2 dX0_couldLieDown_1 rfl rfl ?_
  refine g_iconst (pc := 2) (v := 0) o dX0_couldLieDown_2 (by decide) ?_
  refine g_istore_n (pc := 3) o 3 dX0_couldLieDown_3 rfl rfl ?_
  exact loop (T 2 + 1) 0 (by omega) (by omega)

set_option maxHeartbeats 2000000 in
set_option maxRecDepth 20000 in
theorem cX0lying {c0 : Nat} {T : Nat → Nat} (hc : c0 = 4 ∨ c0 = 16) (hn : 96 ≤ n) (rc : RCi Rf c0) (ht : okT T) (hm : cyT M c0 T) {a bb : Nat} {S : Nat → Nat} (ha : a ∈ nows) (ra : RNi Rf a) (hs : nwS M a S (T 2)) (os : okS S (T 2) bb) {ab : Int32} : Ret Λ (d + 2) mX0_lyingDown [.ref c0, .ref a, .int ab] (n, M, Rf, Lg) (some (.int (nI (lie T (fun i => cou T S i && !decide (nI i = ab)))))) (n, M, Rf, Lg) 0 0 := by
  refine Ret.of rfl rfl rfl (fun κ o f hin => ?_)
  obtain ⟨r3, r4, r6, r7, r8, r9, r11, r12, r13, r14, r15⟩ := id rc
  obtain ⟨z0, z1, z2, z3, z4, z5, z6, z7, z8, z9, z10, z11⟩ := city_shp hc
  obtain ⟨⟨t0, t0b⟩, t1, t2, t3, tD, tC, tN⟩ := id ht
  obtain ⟨m0, m1, m5, m10, mb, mj, mc, mn, ml⟩ := id hm
  obtain ⟨y0, y1, y2, y3, ylt⟩ := now_shp ha
  obtain ⟨u3, u4, u5⟩ := id ra
  obtain ⟨s0, s1, s2, sc⟩ := id hs
  obtain ⟨os0, os1, os2, osc⟩ := id os
  have loop : ∀ (k c : Nat) (dm : Option Value), c ≤ T 2 → T 2 < c + k → G (Λ, κ) 12 [some (.ref c0), some (.ref a), some (.int ab), some (.int (nI (mk (cou T S) (T 2)))), some (.int (nI (lieL T (fun i => cou T S i && !decide (nI i = ab)) c))), some (.int (nI c)), dm] [] (n, M, Rf, Lg) 0 0 := by
    intro k
    induction k with
    | zero => intro c dm h1 h2; exact absurd h2 (by omega)
    | succ k ih =>
      intro c dm h1 h2
      have _z := h1
      refine g_iload (pc := 12) o dX0_lyingDown_12 rfl ?_
      refine g_aload_n (pc := 14) o 0 dX0_lyingDown_14 rfl rfl ?_
      refine g_getI (pc := 15) o flRX0_56 (by first | assumption | rfl) (by first | assumption | omega) dX0_lyingDown_15 ?_
      refine g_icmp_ge (pc := 18) o 83 dX0_lyingDown_18 (by decide) (fun q18 => ?_) (fun q18 => ?_)
      · have ec : c = T 2 := by have := (le_N (a := T 2) (b := c) (by omega) (by omega) m5 rfl).mp q18; omega
        refine g_iload (pc := 83) o dX0_lyingDown_83 rfl ?_
        exact g_iret (pc := 85) o f dX0_lyingDown_85 rfl (by rw [ec]; rfl) rfl
      · have hc1 : c < T 2 := by have := mt (le_N (a := T 2) (b := c) (by omega) (by omega) m5 rfl).mpr q18; omega
        refine g_aload_n (pc := 21) o 0 dX0_lyingDown_21 rfl rfl ?_
        refine g_getR (pc := 22) o flRX0_18 (by first | assumption | rfl) (by first | assumption | omega) (by assumption) dX0_lyingDown_22 ?_
        refine g_iload (pc := 25) o dX0_lyingDown_25 rfl ?_
        refine g_iald (pc := 27) o (c) (by first | assumption | rfl) (by first | assumption | omega) rfl (by omega) dX0_lyingDown_27 ?_
        have hx := tC c hc1
        rw [(mc c hc1).1]
        refine g_istore (pc := 28) o dX0_lyingDown_28 rfl ?_
        refine g_iload (pc := 30) o dX0_lyingDown_30 rfl ?_
        refine g_iload_n (pc := 32) o 2 dX0_lyingDown_32 rfl rfl ?_
        refine g_icmp_eq (pc := 33) o 77 dX0_lyingDown_33 (by decide) (fun q33 => ?_) (fun q33 => ?_)
        · have e1 : lieL T (fun i => cou T S i && !decide (nI i = ab)) (c + 1) = lieL T (fun i => cou T S i && !decide (nI i = ab)) c := lieL_f (by simp [q33])
          refine g_incN (pc := 77) o (c) dX0_lyingDown_77 rfl rfl ?_
          refine g_goto (pc := 80) o 12 dX0_lyingDown_80 (by decide) ?_
          first | exact ih (c + 1) _ (by omega) (by omega) | (rw [← e1]; exact ih (c + 1) _ (by omega) (by omega))
        · refine g_iload_n (pc := 36) o 3 dX0_lyingDown_36 rfl rfl ?_
          refine g_iload (pc := 37) o dX0_lyingDown_37 rfl ?_
          refine g_SN2i (pc := 39) o lkRX0_69 cmX3_has (cX3has (mk31 _ t2) (by omega)) rfl rfl ⟨Nat.le_refl _, Nat.le_refl _⟩ dX0_lyingDown_39 ?_
          refine g_if_eq (pc := 42) o 77 dX0_lyingDown_42 (by decide) (fun q42 => ?_) (fun q42 => ?_)
          · have e1 : lieL T (fun i => cou T S i && !decide (nI i = ab)) (c + 1) = lieL T (fun i => cou T S i && !decide (nI i = ab)) c := lieL_f (by have g := ts_nt9 (bi_z.mp q42); rw [mk_bit, decide_eq_true hc1, Bool.true_and] at g; simp [g])
            refine g_incN (pc := 77) o (c) dX0_lyingDown_77 rfl rfl ?_
            refine g_goto (pc := 80) o 12 dX0_lyingDown_80 (by decide) ?_
            first | exact ih (c + 1) _ (by omega) (by omega) | (rw [← e1]; exact ih (c + 1) _ (by omega) (by omega))
          · have g1 := bi_nz.mp q42
            rw [mk_bit, decide_eq_true hc1, Bool.true_and] at g1
            refine g_iload (pc := 45) o dX0_lyingDown_45 rfl ?_
            refine g_aload_n (pc := 47) o 0 dX0_lyingDown_47 rfl rfl ?_
            refine g_getR (pc := 48) o flRX0_39 (by first | assumption | rfl) (by first | assumption | omega) (by assumption) dX0_lyingDown_48 ?_
            refine g_iload (pc := 51) o dX0_lyingDown_51 rfl ?_
            refine g_iald (pc := 53) o (T (14 + c)) (by first | assumption | rfl) (by first | assumption | omega) rfl (by omega) dX0_lyingDown_53 ?_
            rw [ml _ (by omega)]
            refine g_iand (pc := 54) o dX0_lyingDown_54 ?_
            rw [n_and]
            refine g_S1i (pc := 55) o lkRX0_80 cmJ6_bitCount_0f7a4 (cbc (Nat.lt_trans (and6 (liv6 t2 _)) (by decide))) rfl rfl ⟨Nat.le_refl _, Nat.le_refl _⟩ dX0_lyingDown_55 ?_
            refine g_aload_n (pc := 58) o 0 dX0_lyingDown_58 rfl rfl ?_
            refine g_getR (pc := 59) o flRX0_9 (by first | assumption | rfl) (by first | assumption | omega) (by assumption) dX0_lyingDown_59 ?_
            refine g_iload (pc := 62) o dX0_lyingDown_62 rfl ?_
            refine g_iald (pc := 64) o (T (14 + c)) (by first | assumption | rfl) (by first | assumption | omega) rfl (by omega) dX0_lyingDown_64 ?_
            rw [mb _ (by omega)]
            have hy := tD (T (14 + c)) (by omega)
            have hp := pop_le (lieL T (fun i => cou T S i && !decide (nI i = ab)) c &&& liv T (T (14 + c)))
            refine g_icmp_ge (pc := 65) o 77 dX0_lyingDown_65 (by decide) (fun q65 => ?_) (fun q65 => ?_)
            · have e1 : lieL T (fun i => cou T S i && !decide (nI i = ab)) (c + 1) = lieL T (fun i => cou T S i && !decide (nI i = ab)) c := lieL_f (by have g := (le_N (by omega) (by omega) rfl rfl).mp q65; simp [Nat.not_lt.mpr g])
              refine g_incN (pc := 77) o (c) dX0_lyingDown_77 rfl rfl ?_
              refine g_goto (pc := 80) o 12 dX0_lyingDown_80 (by decide) ?_
              first | exact ih (c + 1) _ (by omega) (by omega) | (rw [← e1]; exact ih (c + 1) _ (by omega) (by omega))
            · have e1 := lieL_t (T := T) (cd := (fun i => cou T S i && !decide (nI i = ab))) (n := c) (by have g := mt (le_N (by omega) (by omega) rfl rfl).mpr q65; simp [g1, q33]; omega) (by omega)
              refine g_iload (pc := 68) o dX0_lyingDown_68 rfl ?_
              refine g_iconst (pc := 70) (v := 1) o dX0_lyingDown_70 (by decide) ?_
              refine g_iload (pc := 71) o dX0_lyingDown_71 rfl ?_
              refine g_ishl (pc := 73) o dX0_lyingDown_73 ?_
              refine g_ior (pc := 74) o dX0_lyingDown_74 ?_
              rw [e1]
              refine g_istore (pc := 75) o dX0_lyingDown_75 rfl ?_
              refine g_incN (pc := 77) o (c) dX0_lyingDown_77 rfl rfl ?_
              refine g_goto (pc := 80) o 12 dX0_lyingDown_80 (by decide) ?_
              first | exact ih (c + 1) _ (by omega) (by omega) | (rw [← e1]; exact ih (c + 1) _ (by omega) (by omega))
  refine g_aload_n (pc := 0) o 0 dX0_lyingDown_0 rfl rfl ?_
  refine g_aload_n (pc := 1) o 1 dX0_lyingDown_1 rfl rfl ?_
  refine g_V1i (pc := 2) o lkRX0_102 cmX0_couldLieDown (cX0could hc hn rc ht hm ha ra hs os) (by first | assumption | rfl) (by first | assumption | omega) rfl rfl ⟨Nat.le_refl _, Nat.le_refl _⟩ dX0_lyingDown_2 ?_
  refine g_istore_n (pc := 5) o 3 dX0_lyingDown_5 rfl rfl ?_
  refine g_iconst (pc := 6) (v := 0) o dX0_lyingDown_6 (by decide) ?_
  refine g_istore (pc := 7) o dX0_lyingDown_7 rfl ?_
  refine g_iconst (pc := 9) (v := 0) o dX0_lyingDown_9 (by decide) ?_
  refine g_istore (pc := 10) o dX0_lyingDown_10 rfl ?_
  exact loop (T 2 + 1) 0 none (by omega) (by omega)

set_option maxHeartbeats 2000000 in
set_option maxRecDepth 20000 in
theorem cX0asleep {c0 : Nat} {T : Nat → Nat} (hc : c0 = 4 ∨ c0 = 16) (hn : 96 ≤ n) (rc : RCi Rf c0) (ht : okT T) (hm : cyT M c0 T) {a bb : Nat} {S : Nat → Nat} (ha : a ∈ nows) (ra : RNi Rf a) (hs : nwS M a S (T 2)) (os : okS S (T 2) bb) (hr : cyR M c0 T) {ab : Int32} : Ret Λ (d + 3) mX0_asleep [.ref c0, .ref a, .int ab] (n, M, Rf, Lg) (some (.int (nI (slp T S (fun i => cou T S i && !decide (nI i = ab)))))) (n, M, Rf, Lg) 0 0 := by
  refine Ret.of rfl rfl rfl (fun κ o f hin => ?_)
  obtain ⟨r3, r4, r6, r7, r8, r9, r11, r12, r13, r14, r15⟩ := id rc
  obtain ⟨z0, z1, z2, z3, z4, z5, z6, z7, z8, z9, z10, z11⟩ := city_shp hc
  obtain ⟨⟨t0, t0b⟩, t1, t2, t3, tD, tC, tN⟩ := id ht
  obtain ⟨m0, m1, m5, m10, mb, mj, mc, mn, ml⟩ := id hm
  obtain ⟨y0, y1, y2, y3, ylt⟩ := now_shp ha
  obtain ⟨u3, u4, u5⟩ := id ra
  obtain ⟨s0, s1, s2, sc⟩ := id hs
  obtain ⟨os0, os1, os2, osc⟩ := id os
  refine g_aload_n (pc := 0) o 0 dX0_asleep_0 rfl rfl ?_
  refine g_aload_n (pc := 1) o 1 dX0_asleep_1 rfl rfl ?_
  refine g_iload_n (pc := 2) o 2 dX0_asleep_2 rfl rfl ?_
  refine g_V2i (pc := 3) o lkRX0_106 cmX0_lyingDown (cX0lying hc hn rc ht hm ha ra hs os) (by first | assumption | rfl) (by first | assumption | omega) rfl rfl ⟨Nat.le_refl _, Nat.le_refl _⟩ dX0_asleep_3 ?_
  refine g_aload_n (pc := 6) o 0 dX0_asleep_6 rfl rfl ?_
  refine g_getR (pc := 7) o flRX0_42 (by first | assumption | rfl) (by first | assumption | omega) (by assumption) dX0_asleep_7 ?_
  refine g_aload_n (pc := 10) o 1 dX0_asleep_10 rfl rfl ?_
  refine g_getI (pc := 11) o flRX0_96 (by first | assumption | rfl) (by first | assumption | omega) dX0_asleep_11 ?_
  rw [s1]
  refine g_iald (pc := 14) o (S 1) (by first | assumption | rfl) (by first | assumption | omega) rfl (by omega) dX0_asleep_14 ?_
  rw [hr _ os1]
  refine g_iand (pc := 15) o dX0_asleep_15 ?_
  rw [n_and]
  exact g_iret (pc := 16) o f dX0_asleep_16 rfl rfl rfl
end M3
