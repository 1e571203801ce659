section M4
variable {Λ : PL} {d n : Nat} {M : HM} {Rf : HR} {Lg : HL}

theorem now_mod {a : Nat} (h : a ∈ nows) : a % 4 = 0 ∧ 28 ≤ a ∧ a ≤ 92 := by
  have key : ∀ a ∈ nows, a % 4 = 0 ∧ 28 ≤ a ∧ a ≤ 92 := by decide
  exact key a h
/-- a new beginning, the first c citizens of it -/
def bgnC (M : HM) (a c0 c : Nat) : HM := fun z j => if z = a ∧ j < 3 then 0 else if z = a + 1 ∧ j < c then M (c0 + 4) j else if (z = a + 2 ∨ z = a + 3) ∧ j < c then 0 else M z j
def bgnM (M : HM) (a c0 : Nat) : HM := bgnC M a c0 6
theorem bgnC_0 (M : HM) (a c0 : Nat) : st2 (st2 (st2 M a 0 0) a 1 0) a 2 0 = bgnC M a c0 0 := by
  funext z j; simp only [st2, bgnC]; grind
theorem bgnC_s (M : HM) {a c0 : Nat} (c : Nat) (h : c0 + 4 < a) : st2 (st2 (st2 (bgnC M a c0 c) (a + 1) c (bgnC M a c0 c (c0 + 4) c)) (a + 2) c 0) (a + 3) c 0 = bgnC M a c0 (c + 1) := by
  funext z j; simp only [st2, bgnC]; grind
/-- another's hours, taken over -/
def bcmM (M : HM) (a b : Nat) : HM := fun z j => if z = a ∧ j < 3 then M b j else if z = a + 1 ∧ j < 6 then M (b + 1) j else if z = a + 2 ∧ j < 6 then M (b + 2) j else if z = a + 3 ∧ j < 6 then M (b + 3) j else M z j
/-- an hour gone by -/
def passM (M : HM) (a w C Q : Nat) : HM := fun z j =>
  if z = a + 1 ∧ j < 6 then tir (w.testBit j) (M z j)
  else if z = a + 3 ∧ j < C then M z j + nI (bn (w.testBit j))
  else if z = a ∧ j = 2 then (if pop w < Q then M a 2 + 1 else M a 2)
  else if z = a ∧ j = 1 then (if M a 1 + 1 < 8 then M a 1 + 1 else 0)
  else if z = a ∧ j = 0 then (if M a 1 + 1 < 8 then M a 0 else M a 0 + 1) else M z j
def tirN (t : Bool) (v : Nat) : Nat := if t then v - 2 else min (v + 1) 20
theorem tir_N : ∀ v, v < 21 → ∀ t, tir t (nI v) = nI (tirN t v) := by decide +kernel
def stepS (T S : Nat → Nat) (w : Nat) : Nat → Nat := fun k =>
  if k = 0 then (if S 1 + 1 < 8 then S 0 else S 0 + 1)
  else if k = 1 then (if S 1 + 1 < 8 then S 1 + 1 else 0)
  else if k = 2 then (if pop w < T 1 then S 2 + 1 else S 2)
  else if k < 9 then (if k - 3 < T 2 then tirN (w.testBit (k - 3)) (S k) else S k)
  else if k < 15 then S k
  else (if k - 15 < T 2 then S k + bn (w.testBit (k - 15)) else S k)
theorem passM_ne (M : HM) (a w C Q : Nat) {z : Nat} (h : z < a ∨ a + 3 < z) : passM M a w C Q z = M z := by
  funext j; unfold passM; grind
theorem bcmM_ne (M : HM) (a b : Nat) {z : Nat} (h : z < a ∨ a + 3 < z) : bcmM M a b z = M z := by
  funext j; unfold bcmM; grind
theorem bgnM_ne (M : HM) (a c0 : Nat) {z : Nat} (h : z < a ∨ a + 3 < z) : bgnM M a c0 z = M z := by
  funext j; unfold bgnM bgnC; grind
theorem tirN_le (t : Bool) (v : Nat) (h : v ≤ 20) : tirN t v ≤ 20 := by unfold tirN; split <;> omega
theorem step_ok {T S : Nat → Nat} {b : Nat} (w : Nat) (t2 : T 2 ≤ 6) (h : okS S (T 2) b) : okS (stepS T S w) (T 2) (b + 1) := by
  obtain ⟨h0, h1, h2, hc⟩ := h
  refine ⟨?_, ?_, ?_, fun i hi => ?_⟩
  · show (if S 1 + 1 < 8 then S 0 else S 0 + 1) ≤ b + 1
    split <;> omega
  · show (if S 1 + 1 < 8 then S 1 + 1 else 0) < 8
    split <;> omega
  · show (if pop w < T 1 then S 2 + 1 else S 2) ≤ b + 1
    split <;> omega
  · have h6 : i < 6 := by omega
    · obtain ⟨g1, g2, g3⟩ := hc i hi
      refine ⟨?_, ?_, ?_⟩
      · simp only [stepS, show ¬ 3 + i = 0 by omega, show ¬ 3 + i = 1 by omega, show ¬ 3 + i = 2 by omega, show 3 + i < 9 by omega, if_true, if_false, show 3 + i - 3 = i by omega, hi]
        exact tirN_le _ _ g1
      · simp only [stepS, show ¬ 9 + i = 0 by omega, show ¬ 9 + i = 1 by omega, show ¬ 9 + i = 2 by omega, show ¬ 9 + i < 9 by omega, show 9 + i < 15 by omega, if_true, if_false]
        exact g2
      · simp only [stepS, show ¬ 15 + i = 0 by omega, show ¬ 15 + i = 1 by omega, show ¬ 15 + i = 2 by omega, show ¬ 15 + i < 9 by omega, show ¬ 15 + i < 15 by omega, if_true, if_false, show 15 + i - 15 = i by omega, hi]
        have := bn_le (w.testBit i)
        omega

theorem pass_now {M : HM} {a w : Nat} {T S : Nat → Nat} {b : Nat} (t2 : T 2 ≤ 6) (hb : b < 2000000) (hs : nwS M a S (T 2)) (os : okS S (T 2) b) : nwS (passM M a w (T 2) (T 1)) a (stepS T S w) (T 2) := by
  obtain ⟨s0, s1, s2, sc⟩ := hs
  obtain ⟨o0, o1, o2, oc⟩ := os
  have e1 : M a 1 + 1 = nI (S 1 + 1) := by rw [s1]; exact nI_1 _
  have e2 : (M a 1 + 1 < 8) ↔ S 1 + 1 < 8 := by rw [e1]; exact lt_N (b := 8) (by omega) (by decide) rfl rfl
  refine ⟨?_, ?_, ?_, fun i hi => ⟨?_, ?_, ?_⟩⟩
  · have : passM M a w (T 2) (T 1) a 0 = (if M a 1 + 1 < 8 then M a 0 else M a 0 + 1) := by unfold passM; grind
    rw [this]
    show _ = nI (if S 1 + 1 < 8 then S 0 else S 0 + 1)
    by_cases h : S 1 + 1 < 8
    · rw [if_pos h, if_pos (e2.mpr h), s0]
    · rw [if_neg h, if_neg (fun q => h (e2.mp q)), s0]; exact nI_1 _
  · have : passM M a w (T 2) (T 1) a 1 = (if M a 1 + 1 < 8 then M a 1 + 1 else 0) := by unfold passM; grind
    rw [this]
    show _ = nI (if S 1 + 1 < 8 then S 1 + 1 else 0)
    by_cases h : S 1 + 1 < 8
    · rw [if_pos h, if_pos (e2.mpr h), e1]
    · rw [if_neg h, if_neg (fun q => h (e2.mp q))]; rfl
  · have : passM M a w (T 2) (T 1) a 2 = (if pop w < T 1 then M a 2 + 1 else M a 2) := by unfold passM; grind
    rw [this]
    show _ = nI (if pop w < T 1 then S 2 + 1 else S 2)
    by_cases h : pop w < T 1
    · rw [if_pos h, if_pos h, s2]; exact nI_1 _
    · rw [if_neg h, if_neg h, s2]
  · have h6 : i < 6 := by omega
    have : passM M a w (T 2) (T 1) (a + 1) i = tir (w.testBit i) (M (a + 1) i) := by unfold passM; simp [h6]
    rw [this, (sc i hi).1, tir_N _ (by have := (oc i hi).1; omega)]
    simp only [stepS, show ¬ 3 + i = 0 by omega, show ¬ 3 + i = 1 by omega, show ¬ 3 + i = 2 by omega, show 3 + i < 9 by omega, if_true, if_false, show 3 + i - 3 = i by omega, hi]
  · have : passM M a w (T 2) (T 1) (a + 2) i = M (a + 2) i := by unfold passM; grind
    rw [this, (sc i hi).2.1]
    simp only [stepS, show ¬ 9 + i = 0 by omega, show ¬ 9 + i = 1 by omega, show ¬ 9 + i = 2 by omega, show ¬ 9 + i < 9 by omega, show 9 + i < 15 by omega, if_true, if_false]
  · have : passM M a w (T 2) (T 1) (a + 3) i = M (a + 3) i + nI (bn (w.testBit i)) := by unfold passM; grind
    rw [this, (sc i hi).2.2, nI_add]
    simp only [stepS, show ¬ 15 + i = 0 by omega, show ¬ 15 + i = 1 by omega, show ¬ 15 + i = 2 by omega, show ¬ 15 + i < 9 by omega, show ¬ 15 + i < 15 by omega, if_true, if_false, show 15 + i - 15 = i by omega, hi]
theorem bcm_now {M : HM} {a b : Nat} {S : Nat → Nat} {C : Nat} (hC : C ≤ 6) (hs : nwS M b S C) : nwS (bcmM M a b) a S C := by
  obtain ⟨s0, s1, s2, sc⟩ := hs
  refine ⟨?_, ?_, ?_, fun i hi => ⟨?_, ?_, ?_⟩⟩
  · rw [← s0]; unfold bcmM; grind
  · rw [← s1]; unfold bcmM; grind
  · rw [← s2]; unfold bcmM; grind
  · rw [← (sc i hi).1]; unfold bcmM; grind
  · rw [← (sc i hi).2.1]; unfold bcmM; grind
  · rw [← (sc i hi).2.2]; unfold bcmM; grind

set_option maxHeartbeats 2000000 in
set_option maxRecDepth 20000 in
theorem cX1begin {a c0 : Nat} (ha : a ∈ nows) (ra : RNi Rf a) (hc : c0 = 4 ∨ c0 = 16) (hn : 96 ≤ n) (rc : Rf c0 7 = some (c0 + 4)) : Ret Λ (d) mX1_begin [.ref a, .ref c0] (n, M, Rf, Lg) none (n, bgnM M a c0, Rf, Lg) 0 0 := by
  refine Ret.of rfl rfl rfl (fun κ o f hin => ?_)
  obtain ⟨y0, y1, y2, y3, ylt⟩ := now_shp ha
  obtain ⟨u3, u4, u5⟩ := id ra
  have ymod := now_mod ha
  have z0 := (city_shp hc).1
  have z4 := (city_shp hc).2.2.2.2.1
  have loop : ∀ k c : Nat, c ≤ 6 → 6 < c + k → G (Λ, κ) 17 [some (.ref a), some (.ref c0), some (.int (nI c))] [] (n, bgnC M a c0 c, Rf, Lg) 0 0 := by
    intro k
    induction k with
    | zero => intro c h1 h2; exact absurd h2 (by omega)
    | succ k ih =>
      intro c h1 h2
      refine g_iload_n (pc := 17) o 2 dX1_begin_17 rfl rfl ?_
      refine g_bipush (pc := 18) (v := 6) o dX1_begin_18 (by decide) ?_
      refine g_icmp_ge (pc := 20) o 55 dX1_begin_20 (by decide) (fun q20 => ?_) (fun q20 => ?_)
      · have e6 : c = 6 := by have := (le_N (a := 6) (b := c) (by decide) (by omega) rfl rfl).mp q20; omega
        exact g_vret (pc := 55) o f dX1_begin_55 (by rw [e6]; rfl)
      · have h6 : c < 6 := by have := mt (le_N (a := 6) (b := c) (by decide) (by omega) rfl rfl).mpr q20; omega
        refine g_aload_n (pc := 23) o 0 dX1_begin_23 rfl rfl ?_
        refine g_getR (pc := 24) o flRX1_9 (by first | assumption | rfl) (by first | assumption | omega) (by assumption) dX1_begin_24 ?_
        refine g_iload_n (pc := 27) o 2 dX1_begin_27 rfl rfl ?_
        refine g_aload_n (pc := 28) o 1 dX1_begin_28 rfl rfl ?_
        refine g_getR (pc := 29) o flRX1_31 (by first | assumption | rfl) (by first | assumption | omega) (by assumption) dX1_begin_29 ?_
        refine g_iload_n (pc := 32) o 2 dX1_begin_32 rfl rfl ?_
        refine g_iald (pc := 33) o (c) (by first | assumption | rfl) (by first | assumption | omega) rfl (by omega) dX1_begin_33 ?_
        refine g_iast (pc := 34) o (c) (by first | assumption | rfl) (by first | assumption | omega) rfl (by omega) dX1_begin_34 ?_
        refine g_aload_n (pc := 35) o 0 dX1_begin_35 rfl rfl ?_
        refine g_getR (pc := 36) o flRX1_15 (by first | assumption | rfl) (by first | assumption | omega) (by assumption) dX1_begin_36 ?_
        refine g_iload_n (pc := 39) o 2 dX1_begin_39 rfl rfl ?_
        refine g_iconst (pc := 40) (v := 0) o dX1_begin_40 (by decide) ?_
        refine g_iast (pc := 41) o (c) (by first | assumption | rfl) (by first | assumption | omega) rfl (by omega) dX1_begin_41 ?_
        refine g_aload_n (pc := 42) o 0 dX1_begin_42 rfl rfl ?_
        refine g_getR (pc := 43) o flRX1_18 (by first | assumption | rfl) (by first | assumption | omega) (by assumption) dX1_begin_43 ?_
        refine g_iload_n (pc := 46) o 2 dX1_begin_46 rfl rfl ?_
        refine g_iconst (pc := 47) (v := 0) o dX1_begin_47 (by decide) ?_
        refine g_iast (pc := 48) o (c) (by first | assumption | rfl) (by first | assumption | omega) rfl (by omega) dX1_begin_48 ?_
        refine g_incN (pc := 49) o (c) dX1_begin_49 rfl rfl ?_
        refine g_goto (pc := 52) o 17 dX1_begin_52 (by decide) ?_
        exact g_eq rfl rfl rfl (hp_M (bgnC_s M c (by omega))) (ih (c + 1) (by omega) (by omega))
  refine g_aload_n (pc := 0) o 0 dX1_begin_0 rfl rfl ?_
  refine g_iconst (pc := 1) (v := 0) o dX1_begin_1 (by decide) ?_
  refine g_putI (pc := 2) o flRX1_21 rfl (by first | assumption | rfl) (by first | assumption | omega) rfl rfl dX1_begin_2 ?_
  refine g_aload_n (pc := 5) o 0 dX1_begin_5 rfl rfl ?_
  refine g_iconst (pc := 6) (v := 0) o dX1_begin_6 (by decide) ?_
  refine g_putI (pc := 7) o flRX1_25 rfl (by first | assumption | rfl) (by first | assumption | omega) rfl rfl dX1_begin_7 ?_
  refine g_aload_n (pc := 10) o 0 dX1_begin_10 rfl rfl ?_
  refine g_iconst (pc := 11) (v := 0) o dX1_begin_11 (by decide) ?_
  refine g_putI (pc := 12) o flRX1_28 rfl (by first | assumption | rfl) (by first | assumption | omega) rfl rfl dX1_begin_12 ?_
  refine g_iconst (pc := 15) (v := 0) o dX1_begin_15 (by decide) ?_
  refine g_istore_n (pc := 16) o 2 dX1_begin_16 rfl rfl ?_
  exact g_eq rfl rfl rfl (hp_M (bgnC_0 M a c0)) (loop 7 0 (by omega) (by omega))

set_option maxHeartbeats 2000000 in
set_option maxRecDepth 20000 in
theorem cX1become {a b : Nat} (ha : a ∈ nows) (ra : RNi Rf a) (hb : b ∈ nows) (rb : RNi Rf b) (hn : 96 ≤ n) : Ret Λ (d + 2) mX1_become [.ref a, .ref b] (n, M, Rf, Lg) none (n, bcmM M a b, Rf, Lg) 0 0 := by
  refine Ret.of rfl rfl rfl (fun κ o f hin => ?_)
  obtain ⟨y0, y1, y2, y3, ylt⟩ := now_shp ha
  obtain ⟨u3, u4, u5⟩ := id ra
  have ymod := now_mod ha
  obtain ⟨x0, x1, x2, x3, xlt⟩ := now_shp hb
  obtain ⟨v3, v4, v5⟩ := id rb
  have xmod := now_mod hb
  refine g_aload_n (pc := 0) o 0 dX1_become_0 rfl rfl ?_
  refine g_aload_n (pc := 1) o 1 dX1_become_1 rfl rfl ?_
  refine g_getI (pc := 2) o flRX1_21 (by first | assumption | rfl) (by first | assumption | omega) dX1_become_2 ?_
  refine g_putI (pc := 5) o flRX1_21 rfl (by first | assumption | rfl) (by first | assumption | omega) rfl rfl dX1_become_5 ?_
  refine g_aload_n (pc := 8) o 0 dX1_become_8 rfl rfl ?_
  refine g_aload_n (pc := 9) o 1 dX1_become_9 rfl rfl ?_
  refine g_getI (pc := 10) o flRX1_25 (by first | assumption | rfl) (by first | assumption | omega) dX1_become_10 ?_
  refine g_putI (pc := 13) o flRX1_25 rfl (by first | assumption | rfl) (by first | assumption | omega) rfl rfl dX1_become_13 ?_
  refine g_aload_n (pc := 16) o 0 dX1_become_16 rfl rfl ?_
  refine g_aload_n (pc := 17) o 1 dX1_become_17 rfl rfl ?_
  refine g_getI (pc := 18) o flRX1_28 (by first | assumption | rfl) (by first | assumption | omega) dX1_become_18 ?_
  refine g_putI (pc := 21) o flRX1_28 rfl (by first | assumption | rfl) (by first | assumption | omega) rfl rfl dX1_become_21 ?_
  refine g_aload_n (pc := 24) o 1 dX1_become_24 rfl rfl ?_
  refine g_getR (pc := 25) o flRX1_9 (by first | assumption | rfl) (by first | assumption | omega) (by assumption) dX1_become_25 ?_
  refine g_iconst (pc := 28) (v := 0) o dX1_become_28 (by decide) ?_
  refine g_aload_n (pc := 29) o 0 dX1_become_29 rfl rfl ?_
  refine g_getR (pc := 30) o flRX1_9 (by first | assumption | rfl) (by first | assumption | omega) (by assumption) dX1_become_30 ?_
  refine g_iconst (pc := 33) (v := 0) o dX1_become_33 (by decide) ?_
  refine g_bipush (pc := 34) (v := 6) o dX1_become_34 (by decide) ?_
  refine g_copy (pc := 36) o lkRX1_36 nat_copy st_copy ini_sys (by first | assumption | rfl) (by first | assumption | rfl) (by first | assumption | omega) (by first | assumption | omega) (6) rfl (by omega) (by omega) rfl rfl dX1_become_36 ?_
  refine g_aload_n (pc := 39) o 1 dX1_become_39 rfl rfl ?_
  refine g_getR (pc := 40) o flRX1_15 (by first | assumption | rfl) (by first | assumption | omega) (by assumption) dX1_become_40 ?_
  refine g_iconst (pc := 43) (v := 0) o dX1_become_43 (by decide) ?_
  refine g_aload_n (pc := 44) o 0 dX1_become_44 rfl rfl ?_
  refine g_getR (pc := 45) o flRX1_15 (by first | assumption | rfl) (by first | assumption | omega) (by assumption) dX1_become_45 ?_
  refine g_iconst (pc := 48) (v := 0) o dX1_become_48 (by decide) ?_
  refine g_bipush (pc := 49) (v := 6) o dX1_become_49 (by decide) ?_
  refine g_copy (pc := 51) o lkRX1_36 nat_copy st_copy ini_sys (by first | assumption | rfl) (by first | assumption | rfl) (by first | assumption | omega) (by first | assumption | omega) (6) rfl (by omega) (by omega) rfl rfl dX1_become_51 ?_
  refine g_aload_n (pc := 54) o 1 dX1_become_54 rfl rfl ?_
  refine g_getR (pc := 55) o flRX1_18 (by first | assumption | rfl) (by first | assumption | omega) (by assumption) dX1_become_55 ?_
  refine g_iconst (pc := 58) (v := 0) o dX1_become_58 (by decide) ?_
  refine g_aload_n (pc := 59) o 0 dX1_become_59 rfl rfl ?_
  refine g_getR (pc := 60) o flRX1_18 (by first | assumption | rfl) (by first | assumption | omega) (by assumption) dX1_become_60 ?_
  refine g_iconst (pc := 63) (v := 0) o dX1_become_63 (by decide) ?_
  refine g_bipush (pc := 64) (v := 6) o dX1_become_64 (by decide) ?_
  refine g_copy (pc := 66) o lkRX1_36 nat_copy st_copy ini_sys (by first | assumption | rfl) (by first | assumption | rfl) (by first | assumption | omega) (by first | assumption | omega) (6) rfl (by omega) (by omega) rfl rfl dX1_become_66 ?_
  exact g_vret (pc := 69) o f dX1_become_69 (hp_M (by funext z j; simp only [st2, bcmM]; grind))

set_option maxHeartbeats 2000000 in
set_option maxRecDepth 20000 in
theorem cX1pass {a c0 w : Nat} {T : Nat → Nat} (ha : a ∈ nows) (ra : RNi Rf a) (hc : c0 = 4 ∨ c0 = 16) (hn : 96 ≤ n) (t1 : T 1 ≤ 6) (t2 : T 2 ≤ 6) (m1 : M c0 1 = nI (T 1)) (m5 : M c0 5 = nI (T 2)) (hw : w < 256) : Ret Λ (d + 2) mX1_pass [.ref a, .ref c0, .int (nI w)] (n, M, Rf, Lg) none (n, passM M a w (T 2) (T 1), Rf, Lg) 0 0 := by
  refine Ret.of rfl rfl rfl (fun κ o f hin => ?_)
  obtain ⟨y0, y1, y2, y3, ylt⟩ := now_shp ha
  obtain ⟨u3, u4, u5⟩ := id ra
  have ymod := now_mod ha
  obtain ⟨z0, z1, z2, z3, z4, z5, z6, z7, z8, z9, z10, z11⟩ := city_shp hc
  have loop : ∀ k c : Nat, c ≤ T 2 → T 2 < c + k → G (Λ, κ) 14 [some (.ref a), some (.ref c0), some (.int (nI w)), some (.int (nI c))] [] (n, rowM (tireM M (a + 1) w (a + 1)) (a + 3) c (fun j => M (a + 3) j + nI (bn (w.testBit j))), Rf, Lg) 0 0 := by
    intro k
    induction k with
    | zero => intro c h1 h2; exact absurd h2 (by omega)
    | succ k ih =>
      intro c h1 h2
      have m5x : rowM (tireM M (a + 1) w (a + 1)) (a + 3) c (fun j => M (a + 3) j + nI (bn (w.testBit j))) c0 5 = nI (T 2) := by rw [← m5]; simp only [rowM, tireM]; grind
      refine g_iload_n (pc := 14) o 3 dX1_pass_14 rfl rfl ?_
      refine g_aload_n (pc := 15) o 1 dX1_pass_15 rfl rfl ?_
      refine g_getI (pc := 16) o flRX1_46 (by first | assumption | rfl) (by first | assumption | omega) dX1_pass_16 ?_
      refine g_icmp_ge (pc := 19) o 42 dX1_pass_19 (by decide) (fun q19 => ?_) (fun q19 => ?_)
      · have ec : c = T 2 := by have := (le_N (a := T 2) (b := c) (by omega) (by omega) m5x rfl).mp q19; omega
        refine g_iload_n (pc := 42) o 2 dX1_pass_42 rfl rfl ?_
        refine g_S1i (pc := 43) o lkRX1_49 cmJ6_bitCount_0f7a4 (cbc (by omega)) rfl rfl ⟨Nat.le_refl _, Nat.le_refl _⟩ dX1_pass_43 ?_
        rw [ec]
        refine g_aload_n (pc := 46) o 1 dX1_pass_46 rfl rfl ?_
        refine g_getI (pc := 47) o flRX1_55 (by first | assumption | rfl) (by first | assumption | omega) dX1_pass_47 ?_
        rw [show rowM (tireM M (a + 1) w (a + 1)) (a + 3) (T 2) (fun j => M (a + 3) j + nI (bn (w.testBit j))) c0 1 = nI (T 1) from by rw [← m1]; simp only [rowM, tireM]; grind]
        have hp := pop_le w
        refine g_icmp_ge (pc := 50) o 63 dX1_pass_50 (by decide) (fun q50 => ?_) (fun q50 => ?_)
        · refine g_aload_n (pc := 63) o 0 dX1_pass_63 rfl rfl ?_
          refine g_dup (pc := 64) o dX1_pass_64 rfl ?_
          refine g_getI (pc := 65) o flRX1_25 (by first | assumption | rfl) (by first | assumption | omega) dX1_pass_65 ?_
          refine g_iconst (pc := 68) (v := 1) o dX1_pass_68 (by decide) ?_
          refine g_iadd (pc := 69) o dX1_pass_69 ?_
          refine g_putI (pc := 70) o flRX1_25 rfl (by first | assumption | rfl) (by first | assumption | omega) rfl rfl dX1_pass_70 ?_
          refine g_aload_n (pc := 73) o 0 dX1_pass_73 rfl rfl ?_
          refine g_getI (pc := 74) o flRX1_25 (by first | assumption | rfl) (by first | assumption | omega) dX1_pass_74 ?_
          refine g_bipush (pc := 77) (v := 8) o dX1_pass_77 (by decide) ?_
          refine g_icmp_lt (pc := 79) o 97 dX1_pass_79 (by decide) (fun q79 => ?_) (fun q79 => ?_)
          · have gq : (pop w < T 1) ↔ ¬ nI (T 1) ≤ nI (pop w) := by rw [le_N (a := T 1) (b := pop w) (by omega) (by omega) rfl rfl]; omega
            exact g_vret (pc := 97) o f dX1_pass_97 (hp_M (by funext z j; simp only [passM, gq]; simp only [st2, rowM, tireM] at *; grind))
          · refine g_aload_n (pc := 82) o 0 dX1_pass_82 rfl rfl ?_
            refine g_iconst (pc := 83) (v := 0) o dX1_pass_83 (by decide) ?_
            refine g_putI (pc := 84) o flRX1_25 rfl (by first | assumption | rfl) (by first | assumption | omega) rfl rfl dX1_pass_84 ?_
            refine g_aload_n (pc := 87) o 0 dX1_pass_87 rfl rfl ?_
            refine g_dup (pc := 88) o dX1_pass_88 rfl ?_
            refine g_getI (pc := 89) o flRX1_21 (by first | assumption | rfl) (by first | assumption | omega) dX1_pass_89 ?_
            refine g_iconst (pc := 92) (v := 1) o dX1_pass_92 (by decide) ?_
            refine g_iadd (pc := 93) o dX1_pass_93 ?_
            refine g_putI (pc := 94) o flRX1_21 rfl (by first | assumption | rfl) (by first | assumption | omega) rfl rfl dX1_pass_94 ?_
            have gq : (pop w < T 1) ↔ ¬ nI (T 1) ≤ nI (pop w) := by rw [le_N (a := T 1) (b := pop w) (by omega) (by omega) rfl rfl]; omega
            exact g_vret (pc := 97) o f dX1_pass_97 (hp_M (by funext z j; simp only [passM, gq]; simp only [st2, rowM, tireM] at *; grind))
        · refine g_aload_n (pc := 53) o 0 dX1_pass_53 rfl rfl ?_
          refine g_dup (pc := 54) o dX1_pass_54 rfl ?_
          refine g_getI (pc := 55) o flRX1_28 (by first | assumption | rfl) (by first | assumption | omega) dX1_pass_55 ?_
          refine g_iconst (pc := 58) (v := 1) o dX1_pass_58 (by decide) ?_
          refine g_iadd (pc := 59) o dX1_pass_59 ?_
          refine g_putI (pc := 60) o flRX1_28 rfl (by first | assumption | rfl) (by first | assumption | omega) rfl rfl dX1_pass_60 ?_
          refine g_aload_n (pc := 63) o 0 dX1_pass_63 rfl rfl ?_
          refine g_dup (pc := 64) o dX1_pass_64 rfl ?_
          refine g_getI (pc := 65) o flRX1_25 (by first | assumption | rfl) (by first | assumption | omega) dX1_pass_65 ?_
          refine g_iconst (pc := 68) (v := 1) o dX1_pass_68 (by decide) ?_
          refine g_iadd (pc := 69) o dX1_pass_69 ?_
          refine g_putI (pc := 70) o flRX1_25 rfl (by first | assumption | rfl) (by first | assumption | omega) rfl rfl dX1_pass_70 ?_
          refine g_aload_n (pc := 73) o 0 dX1_pass_73 rfl rfl ?_
          refine g_getI (pc := 74) o flRX1_25 (by first | assumption | rfl) (by first | assumption | omega) dX1_pass_74 ?_
          refine g_bipush (pc := 77) (v := 8) o dX1_pass_77 (by decide) ?_
          refine g_icmp_lt (pc := 79) o 97 dX1_pass_79 (by decide) (fun q79 => ?_) (fun q79 => ?_)
          · have gq : (pop w < T 1) ↔ ¬ nI (T 1) ≤ nI (pop w) := by rw [le_N (a := T 1) (b := pop w) (by omega) (by omega) rfl rfl]; omega
            exact g_vret (pc := 97) o f dX1_pass_97 (hp_M (by funext z j; simp only [passM, gq]; simp only [st2, rowM, tireM] at *; grind))
          · refine g_aload_n (pc := 82) o 0 dX1_pass_82 rfl rfl ?_
            refine g_iconst (pc := 83) (v := 0) o dX1_pass_83 (by decide) ?_
            refine g_putI (pc := 84) o flRX1_25 rfl (by first | assumption | rfl) (by first | assumption | omega) rfl rfl dX1_pass_84 ?_
            refine g_aload_n (pc := 87) o 0 dX1_pass_87 rfl rfl ?_
            refine g_dup (pc := 88) o dX1_pass_88 rfl ?_
            refine g_getI (pc := 89) o flRX1_21 (by first | assumption | rfl) (by first | assumption | omega) dX1_pass_89 ?_
            refine g_iconst (pc := 92) (v := 1) o dX1_pass_92 (by decide) ?_
            refine g_iadd (pc := 93) o dX1_pass_93 ?_
            refine g_putI (pc := 94) o flRX1_21 rfl (by first | assumption | rfl) (by first | assumption | omega) rfl rfl dX1_pass_94 ?_
            have gq : (pop w < T 1) ↔ ¬ nI (T 1) ≤ nI (pop w) := by rw [le_N (a := T 1) (b := pop w) (by omega) (by omega) rfl rfl]; omega
            exact g_vret (pc := 97) o f dX1_pass_97 (hp_M (by funext z j; simp only [passM, gq]; simp only [st2, rowM, tireM] at *; grind))
      · have hc1 : c < T 2 := by have := mt (le_N (a := T 2) (b := c) (by omega) (by omega) m5x rfl).mpr q19; omega
        refine g_aload_n (pc := 22) o 0 dX1_pass_22 rfl rfl ?_
        refine g_getR (pc := 23) o flRX1_18 (by first | assumption | rfl) (by first | assumption | omega) (by assumption) dX1_pass_23 ?_
        refine g_iload_n (pc := 26) o 3 dX1_pass_26 rfl rfl ?_
        refine g_dup2 (pc := 27) o dX1_pass_27 rfl rfl ?_
        refine g_iald (pc := 28) o (c) (by first | assumption | rfl) (by first | assumption | omega) rfl (by omega) dX1_pass_28 ?_
        rw [rowM_at]
        refine g_iload_n (pc := 29) o 2 dX1_pass_29 rfl rfl ?_
        refine g_iload_n (pc := 30) o 3 dX1_pass_30 rfl rfl ?_
        refine g_ishr (pc := 31) o dX1_pass_31 ?_
        refine g_iconst (pc := 32) (v := 1) o dX1_pass_32 (by decide) ?_
        refine g_iand (pc := 33) o dX1_pass_33 ?_
        rw [n_bit (by omega) (by omega)]
        refine g_iadd (pc := 34) o dX1_pass_34 ?_
        refine g_iast (pc := 35) o (c) (by first | assumption | rfl) (by first | assumption | omega) rfl (by omega) dX1_pass_35 ?_
        refine g_incN (pc := 36) o (c) dX1_pass_36 rfl rfl ?_
        refine g_goto (pc := 39) o 14 dX1_pass_39 (by decide) ?_
        exact g_eq rfl rfl rfl (hp_M (rowM_s _ _ _ _ (by simp only [tireM, rowM]; grind))) (ih (c + 1) (by omega) (by omega))
  refine g_aload_n (pc := 0) o 0 dX1_pass_0 rfl rfl ?_
  refine g_getR (pc := 1) o flRX1_9 (by first | assumption | rfl) (by first | assumption | omega) (by assumption) dX1_pass_1 ?_
  refine g_iload_n (pc := 4) o 2 dX1_pass_4 rfl rfl ?_
  refine g_aload_n (pc := 5) o 0 dX1_pass_5 rfl rfl ?_
  refine g_getR (pc := 6) o flRX1_9 (by first | assumption | rfl) (by first | assumption | omega) (by assumption) dX1_pass_6 ?_
  refine g_SN3v (pc := 9) o lkRX1_42 cmX3_tire (cX3tire (by omega) y1 y1 (by omega) (by omega)) rfl rfl ⟨Nat.le_refl _, Nat.le_refl _⟩ dX1_pass_9 ?_
  refine g_iconst (pc := 12) (v := 0) o dX1_pass_12 (by decide) ?_
  refine g_istore_n (pc := 13) o 3 dX1_pass_13 rfl rfl ?_
  exact g_eq rfl rfl rfl (hp_M (rowM_0 _ _ _).symm) (loop (T 2 + 1) 0 (by omega) (by omega))

end M4
