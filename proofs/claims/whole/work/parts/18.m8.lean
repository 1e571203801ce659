section M8
variable {Λ : PL} {d n : Nat} {M : HM} {Rf : HR} {Lg : HL}

/-- the loudest drum below k that the quota bears -/
def drmF (T : Nat → Nat) (w d : Nat) : Nat → Int32
  | 0 => -9
  | k + 1 => if pop (dif w (wkB T d k)) < T 1 then drmF T w d k else nI k
def lm (k : Nat) : Int32 := nI k - 1
theorem lm_s (k : Nat) : lm (k + 1) = nI k := nI_pred k
theorem lm_dec (k : Nat) : nI k + Int32.ofInt (-1) = lm k := by unfold lm; rw [Int32.sub_eq_add_neg]; rfl
theorem lm_0 : lm 0 < 0 := by decide
theorem lm_int (k : Nat) (h : k < 1000) : (lm k).toInt = (k : Int) - 1 := by
  cases k with
  | zero => decide
  | succ k => rw [lm_s, nI_toInt (by omega)]; omega
theorem dif6 {a b : Nat} (h : a < 64) : dif a b < 64 := dif_lt (k := 6) h
def drS (T S : Nat → Nat) (v : Int32) : Int32 := tbv v (T 0) (fun j => drmF T (wA T S (-1)) j 10) (-1)
set_option maxHeartbeats 2000000 in
set_option maxRecDepth 20000 in
theorem cX3drum {t b : Nat} {T S : Nat → Nat} (xb : XB M Rf n t T S b) {v : Int32} : Ret Λ (d + 5) mX3_drum [.ref 0, .int v] (n, M, Rf, Lg) (some (.int (drS T S v))) (n, M, Rf, Lg) 0 0 := by
  refine Ret.of rfl rfl rfl (fun κ o f hin => ?_)
  obtain ⟨hx, hc, hn, ht, hm, hr, hs, os, hb9⟩ := id xb
  have rc := hx.city hc
  obtain ⟨x0, x1, x3, x4, x5, x8, x9, x10, x11, x13, x14, x15, xN, xC4, xC16, xP, xI, xT, xL, xNm⟩ := id hx
  obtain ⟨r3, r4, r6, r7, r8, r9, r11, r12, r13, r14, r15⟩ := id rc
  obtain ⟨z0, z1, z2, z3, z4, z5, z6, z7, z8, z9, z10, z11⟩ := city_shp hc
  obtain ⟨⟨t0, t0b⟩, t1, t2, t3, tD, tC, tN⟩ := id ht
  obtain ⟨m0, m1, m5, m10, mb, mj, mc, mn, ml⟩ := id hm
  have ra := xN 28 in28
  have rt := xN 32 in32
  obtain ⟨u3, u4, u5⟩ := id ra
  obtain ⟨v3, v4, v5⟩ := id rt
  obtain ⟨s0, s1, s2, sc⟩ := id hs
  obtain ⟨os0, os1, os2, osc⟩ := id os
  refine g_aload_n (pc := 0) o 0 dX3_drum_0 rfl rfl ?_
  refine g_iload_n (pc := 1) o 1 dX3_drum_1 rfl rfl ?_
  refine g_V1i (pc := 2) o lkRX3_87 cmX3_isDistrict (cX3isDistrict xb) (by first | assumption | rfl) (by first | assumption | omega) rfl rfl ⟨Nat.le_refl _, Nat.le_refl _⟩ dX3_drum_2 ?_
  refine g_if_ne (pc := 5) o 10 dX3_drum_5 (by decide) (fun q5 => ?_) (fun q5 => ?_)
  · obtain ⟨j, hj, rfl⟩ := inn_of (bi_nz.mp q5) (by omega)
    rw [show drS T S (nI j) = drmF T (wA T S (-1)) j 10 from tbv_in hj (by omega)] at f
    have loop : ∀ k : Nat, k ≤ 10 → drmF T (wA T S (-1)) j 10 = drmF T (wA T S (-1)) j k → G (Λ, κ) 26 [some (.ref 0), some (.int (nI j)), some (.int (nI (wA T S (-1)))), some (.int (lm k))] [] (n, M, Rf, Lg) 0 0 := by
      intro k
      induction k with
      | zero =>
        intro h1 er
        refine g_iload_n (pc := 26) o 3 dX3_drum_26 rfl rfl ?_
        refine g_if_lt (pc := 27) o 58 dX3_drum_27 (by decide) (fun q27 => ?_) (fun q27 => ?_)
        · refine g_bipush (pc := 58) (v := -9) o dX3_drum_58 (by decide) ?_
          exact g_iret (pc := 60) o f dX3_drum_60 rfl (by rw [er]; rfl) rfl
        · exact absurd lm_0 q27
      | succ k ih =>
        intro h1 er
        rw [show lm (k + 1) = nI k from lm_s k]
        refine g_iload_n (pc := 26) o 3 dX3_drum_26 rfl rfl ?_
        refine g_if_lt (pc := 27) o 58 dX3_drum_27 (by decide) (fun q27 => ?_) (fun q27 => ?_)
        · exact absurd q27 (nI_pos (by omega))
        · refine g_aload_n (pc := 30) o 0 dX3_drum_30 rfl rfl ?_
          refine g_iload_n (pc := 31) o 2 dX3_drum_31 rfl rfl ?_
          refine g_aload_n (pc := 32) o 0 dX3_drum_32 rfl rfl ?_
          refine g_getR (pc := 33) o flRX3_19 (by first | assumption | rfl) (by first | assumption | omega) (by assumption) dX3_drum_33 ?_
          refine g_iload_n (pc := 36) o 1 dX3_drum_36 rfl rfl ?_
          refine g_iload_n (pc := 37) o 3 dX3_drum_37 rfl rfl ?_
          refine g_V2i (pc := 38) o lkRX3_237 cmX0_wokenBy (cX0wokenBy hc hn rc ht hm (dd := j) (vv := k) (by omega) (by omega)) (by first | assumption | rfl) (by first | assumption | omega) rfl rfl ⟨Nat.le_refl _, Nat.le_refl _⟩ dX3_drum_38 ?_
          refine g_iconst (pc := 41) (v := -1) o dX3_drum_41 (by decide) ?_
          refine g_ixor (pc := 42) o dX3_drum_42 ?_
          refine g_iand (pc := 43) o dX3_drum_43 ?_
          rw [n_dif]
          refine g_V1i (pc := 44) o lkRX3_191 cmX3_lapses (cX3lapses xb (Nat.lt_trans (dif6 (wA6 t2)) (by decide))) (by first | assumption | rfl) (by first | assumption | omega) rfl rfl ⟨Nat.le_refl _, Nat.le_refl _⟩ dX3_drum_44 ?_
          refine g_if_ne (pc := 47) o 52 dX3_drum_47 (by decide) (fun q47 => ?_) (fun q47 => ?_)
          · have hq := bi_nz.mp q47
            refine g_iinc (pc := 52) o dX3_drum_52 rfl ?_
            rw [lm_dec]
            refine g_goto (pc := 55) o 26 dX3_drum_55 (by decide) ?_
            exact ih (by omega) (by rw [er]; show (if _ then _ else _) = _; rw [if_pos hq])
          · have hq := bi_z.mp q47
            refine g_iload_n (pc := 50) o 3 dX3_drum_50 rfl rfl ?_
            exact g_iret (pc := 51) o f dX3_drum_51 rfl (by rw [er]; show _ = (if _ then _ else _); rw [if_neg hq]) rfl
    refine g_aload_n (pc := 10) o 0 dX3_drum_10 rfl rfl ?_
    refine g_getR (pc := 11) o flRX3_19 (by first | assumption | rfl) (by first | assumption | omega) (by assumption) dX3_drum_11 ?_
    refine g_aload_n (pc := 14) o 0 dX3_drum_14 rfl rfl ?_
    refine g_getR (pc := 15) o flRX3_29 (by first | assumption | rfl) (by first | assumption | omega) (by assumption) dX3_drum_15 ?_
    refine g_iconst (pc := 18) (v := -1) o dX3_drum_18 (by decide) ?_
    refine g_V2i (pc := 19) o lkRX3_172 cmX0_asleep (cX0asleep hc hn rc ht hm in28 ra hs os hr) (by first | assumption | rfl) (by first | assumption | omega) rfl rfl ⟨Nat.le_refl _, Nat.le_refl _⟩ dX3_drum_19 ?_
    refine g_istore_n (pc := 22) o 2 dX3_drum_22 rfl rfl ?_
    refine g_bipush (pc := 23) (v := 9) o dX3_drum_23 (by decide) ?_
    refine g_istore_n (pc := 25) o 3 dX3_drum_25 rfl rfl ?_
    exact loop 10 (by omega) rfl
  · refine g_iconst (pc := 8) (v := -1) o dX3_drum_8 (by decide) ?_
    exact g_iret (pc := 9) o f dX3_drum_9 rfl (by unfold drS; rw [tbv_out (bi_z.mp q5)]) rfl

/-- one more than the last hour that is counted -/
def lstN (ch : Nat → Nat) : Nat → Nat
  | 0 => 0
  | k + 1 => max (lstN ch k) (ch k + 1)
theorem lstN_le {ch : Nat → Nat} : ∀ k, (∀ i, i < k → ch i ≤ 20) → lstN ch k ≤ 21 := by
  intro k
  induction k with
  | zero => intro _; exact Nat.zero_le _
  | succ k ih =>
    intro h
    have h1 := ih (fun i hi => h i (by omega))
    have h2 := h k (by omega)
    show max (lstN ch k) (ch k + 1) ≤ 21
    omega
theorem lm_max {a c : Nat} (ha : a < 1000) (hc : c < 1000) : (if lm a < nI c then nI c else lm a) = lm (max a (c + 1)) := by
  have e : (lm a < nI c) ↔ a < c + 1 := by
    rw [Int32.lt_iff_toInt_lt, lm_int a ha, nI_toInt (by omega)]; omega
  by_cases h : a < c + 1
  · rw [if_pos (e.mpr h), Nat.max_eq_right (by omega), lm_s]
  · rw [if_neg (fun q => h (e.mp q)), Nat.max_eq_left (by omega)]
/-- the first k counts allow that so many sleep in the hour i -/
def asC (ch cm : Nat → Nat) (i m : Nat) : Nat → Bool
  | 0 => true
  | k + 1 => asC ch cm i m k && !(ch k == i && !(cm k == m))
set_option maxHeartbeats 2000000 in
set_option maxRecDepth 20000 in
theorem cX3lastCounted  (hn : 96 ≤ n) (x10 : Rf 0 10 = some 39) (x11 : Rf 0 11 = some 40) {cn : Nat} {ch cm : Nat → Nat} (hcn : M 0 12 = nI cn) (hc6 : cn ≤ 6) (hch : ∀ i, i < cn → M 39 i = nI (ch i) ∧ ch i ≤ 20 ∧ M 40 i = nI (cm i) ∧ cm i ≤ 6) : Ret Λ (d + 1) mX3_lastCounted [.ref 0] (n, M, Rf, Lg) (some (.int (lm (lstN ch cn)))) (n, M, Rf, Lg) 0 0 := by
  refine Ret.of rfl rfl rfl (fun κ o f hin => ?_)
  have loop : ∀ k c : Nat, c ≤ cn → cn < c + k → G (Λ, κ) 4 [some (.ref 0), some (.int (lm (lstN ch c))), some (.int (nI c))] [] (n, M, Rf, Lg) 0 0 := by
    intro k
    induction k with
    | zero => intro c h1 h2; exact absurd h2 (by omega)
    | succ k ih =>
      intro c h1 h2
      refine g_iload_n (pc := 4) o 2 dX3_lastCounted_4 rfl rfl ?_
      refine g_aload_n (pc := 5) o 0 dX3_lastCounted_5 rfl rfl ?_
      refine g_getI (pc := 6) o flRX3_84 (by first | assumption | rfl) (by first | assumption | omega) dX3_lastCounted_6 ?_
      refine g_icmp_ge (pc := 9) o 29 dX3_lastCounted_9 (by decide) (fun q9 => ?_) (fun q9 => ?_)
      · have ec : c = cn := by have := (le_N (a := cn) (b := c) (by omega) (by omega) hcn rfl).mp q9; omega
        refine g_iload_n (pc := 29) o 1 dX3_lastCounted_29 rfl rfl ?_
        exact g_iret (pc := 30) o f dX3_lastCounted_30 rfl (by rw [ec]) rfl
      · have hc1 : c < cn := by have := mt (le_N (a := cn) (b := c) (by omega) (by omega) hcn rfl).mpr q9; omega
        refine g_iload_n (pc := 12) o 1 dX3_lastCounted_12 rfl rfl ?_
        refine g_aload_n (pc := 13) o 0 dX3_lastCounted_13 rfl rfl ?_
        refine g_getR (pc := 14) o flRX3_47 (by first | assumption | rfl) (by first | assumption | omega) (by assumption) dX3_lastCounted_14 ?_
        refine g_iload_n (pc := 17) o 2 dX3_lastCounted_17 rfl rfl ?_
        refine g_iald (pc := 18) o (c) (by first | assumption | rfl) (by first | assumption | omega) rfl (by omega) dX3_lastCounted_18 ?_
        have hx := hch c hc1
        rw [hx.1]
        have hy := lstN_le c (fun i hi => (hch i (by omega)).2.1)
        refine g_max (pc := 19) o lkRX3_226 rfl rfl ⟨Nat.le_refl _, Nat.le_refl _⟩ dX3_lastCounted_19 ?_ st_max ini_math co_max
        rw [lm_max (by omega) (by omega)]
        refine g_istore_n (pc := 22) o 1 dX3_lastCounted_22 rfl rfl ?_
        refine g_incN (pc := 23) o (c) dX3_lastCounted_23 rfl rfl ?_
        refine g_goto (pc := 26) o 4 dX3_lastCounted_26 (by decide) ?_
        exact ih (c + 1) (by omega) (by omega)
  refine g_iconst (pc := 0) (v := -1) o dX3_lastCounted_0 (by decide) ?_
  refine g_istore_n (pc := 1) o 1 dX3_lastCounted_1 rfl rfl ?_
  refine g_iconst (pc := 2) (v := 0) o dX3_lastCounted_2 (by decide) ?_
  refine g_istore_n (pc := 3) o 2 dX3_lastCounted_3 rfl rfl ?_
  exact loop (cn + 1) 0 (by omega) (by omega)

theorem asC_mono {ch cm : Nat → Nat} {i m : Nat} : ∀ k c, c ≤ k → asC ch cm i m k = true → asC ch cm i m c = true := by
  intro k
  induction k with
  | zero => intro c hc h; rw [Nat.le_zero.mp hc]; exact h
  | succ k ih =>
    intro c hc h
    by_cases e : c = k + 1
    · rw [e]; exact h
    · refine ih c (by omega) ?_
      simp only [asC, Bool.and_eq_true] at h
      exact h.1
theorem asC_no {ch cm : Nat → Nat} {i m c k : Nat} (h : c < k) (hb : asC ch cm i m (c + 1) = false) : ¬ asC ch cm i m k = true := by
  intro q
  have := asC_mono k (c + 1) h q
  rw [hb] at this
  cases this
set_option maxHeartbeats 2000000 in
set_option maxRecDepth 20000 in
theorem cX3isAsCounted  (hn : 96 ≤ n) (x10 : Rf 0 10 = some 39) (x11 : Rf 0 11 = some 40) {cn : Nat} {ch cm : Nat → Nat} (hcn : M 0 12 = nI cn) (hc6 : cn ≤ 6) (hch : ∀ i, i < cn → M 39 i = nI (ch i) ∧ ch i ≤ 20 ∧ M 40 i = nI (cm i) ∧ cm i ≤ 6) {i9 m9 : Nat} (hi9 : i9 < 1000) (hm9 : m9 < 1000) : Ret Λ (d) mX3_isAsCounted [.ref 0, .int (nI i9), .int (nI m9)] (n, M, Rf, Lg) (some (.int (bi (asC ch cm i9 m9 cn = true)))) (n, M, Rf, Lg) 0 0 := by
  refine Ret.of rfl rfl rfl (fun κ o f hin => ?_)
  have loop : ∀ k c : Nat, asC ch cm i9 m9 c = true → c ≤ cn → cn < c + k → G (Λ, κ) 2 [some (.ref 0), some (.int (nI i9)), some (.int (nI m9)), some (.int (nI c))] [] (n, M, Rf, Lg) 0 0 := by
    intro k
    induction k with
    | zero => intro c er h1 h2; exact absurd h2 (by omega)
    | succ k ih =>
      intro c er h1 h2
      refine g_iload_n (pc := 2) o 3 dX3_isAsCounted_2 rfl rfl ?_
      refine g_aload_n (pc := 3) o 0 dX3_isAsCounted_3 rfl rfl ?_
      refine g_getI (pc := 4) o flRX3_84 (by first | assumption | rfl) (by first | assumption | omega) dX3_isAsCounted_4 ?_
      refine g_icmp_ge (pc := 7) o 38 dX3_isAsCounted_7 (by decide) (fun q7 => ?_) (fun q7 => ?_)
      · have ec : c = cn := by have := (le_N (a := cn) (b := c) (by omega) (by omega) hcn rfl).mp q7; omega
        refine g_iconst (pc := 38) (v := 1) o dX3_isAsCounted_38 (by decide) ?_
        exact g_iret (pc := 39) o f dX3_isAsCounted_39 rfl (bi_t (by rw [← ec]; exact er)).symm rfl
      · have hc1 : c < cn := by have := mt (le_N (a := cn) (b := c) (by omega) (by omega) hcn rfl).mpr q7; omega
        refine g_aload_n (pc := 10) o 0 dX3_isAsCounted_10 rfl rfl ?_
        refine g_getR (pc := 11) o flRX3_47 (by first | assumption | rfl) (by first | assumption | omega) (by assumption) dX3_isAsCounted_11 ?_
        refine g_iload_n (pc := 14) o 3 dX3_isAsCounted_14 rfl rfl ?_
        refine g_iald (pc := 15) o (c) (by first | assumption | rfl) (by first | assumption | omega) rfl (by omega) dX3_isAsCounted_15 ?_
        have hx := hch c hc1
        rw [hx.1]
        refine g_iload_n (pc := 16) o 1 dX3_isAsCounted_16 rfl rfl ?_
        refine g_icmp_ne (pc := 17) o 32 dX3_isAsCounted_17 (by decide) (fun q17 => ?_) (fun q17 => ?_)
        · have e1 : asC ch cm i9 m9 (c + 1) = true := by have := mt (eq_N (by omega) (by omega) rfl rfl).mpr q17; simp [asC, er, this]
          refine g_incN (pc := 32) o (c) dX3_isAsCounted_32 rfl rfl ?_
          refine g_goto (pc := 35) o 2 dX3_isAsCounted_35 (by decide) ?_
          exact ih (c + 1) e1 (by omega) (by omega)
        · have g1 := (eq_N (by omega) (by omega) rfl rfl).mp q17
          refine g_aload_n (pc := 20) o 0 dX3_isAsCounted_20 rfl rfl ?_
          refine g_getR (pc := 21) o flRX3_51 (by first | assumption | rfl) (by first | assumption | omega) (by assumption) dX3_isAsCounted_21 ?_
          refine g_iload_n (pc := 24) o 3 dX3_isAsCounted_24 rfl rfl ?_
          refine g_iald (pc := 25) o (c) (by first | assumption | rfl) (by first | assumption | omega) rfl (by omega) dX3_isAsCounted_25 ?_
          rw [hx.2.2.1]
          refine g_iload_n (pc := 26) o 2 dX3_isAsCounted_26 rfl rfl ?_
          refine g_icmp_eq (pc := 27) o 32 dX3_isAsCounted_27 (by decide) (fun q27 => ?_) (fun q27 => ?_)
          · have e1 : asC ch cm i9 m9 (c + 1) = true := by have := (eq_N (by omega) (by omega) rfl rfl).mp q27; simp [asC, er, this]
            refine g_incN (pc := 32) o (c) dX3_isAsCounted_32 rfl rfl ?_
            refine g_goto (pc := 35) o 2 dX3_isAsCounted_35 (by decide) ?_
            exact ih (c + 1) e1 (by omega) (by omega)
          · have g2 := mt (eq_N (by omega) (by omega) rfl rfl).mpr q27
            refine g_iconst (pc := 30) (v := 0) o dX3_isAsCounted_30 (by decide) ?_
            exact g_iret (pc := 31) o f dX3_isAsCounted_31 rfl (bi_f (asC_no (c := c) (by omega) (by simp [asC, g1, g2]))).symm rfl
  refine g_iconst (pc := 0) (v := 0) o dX3_isAsCounted_0 (by decide) ?_
  refine g_istore_n (pc := 1) o 3 dX3_isAsCounted_1 rfl rfl ?_
  exact loop (cn + 1) 0 rfl (by omega) (by omega)

set_option maxHeartbeats 2000000 in
set_option maxRecDepth 20000 in
theorem cX3power  {a e : Nat} (he : e < 1000) : Ret Λ (d) mX3_power [.int (nI a), .int (nI e)] (n, M, Rf, Lg) (some (.int (nI (a ^ e)))) (n, M, Rf, Lg) 0 0 := by
  refine Ret.of rfl rfl rfl (fun κ o f hin => ?_)
  have loop : ∀ k c : Nat, c ≤ e → e < c + k → G (Λ, κ) 4 [some (.int (nI a)), some (.int (nI e)), some (.int (nI (a ^ c))), some (.int (nI c))] [] (n, M, Rf, Lg) 0 0 := by
    intro k
    induction k with
    | zero => intro c h1 h2; exact absurd h2 (by omega)
    | succ k ih =>
      intro c h1 h2
      refine g_iload_n (pc := 4) o 3 dX3_power_4 rfl rfl ?_
      refine g_iload_n (pc := 5) o 1 dX3_power_5 rfl rfl ?_
      refine g_icmp_ge (pc := 6) o 19 dX3_power_6 (by decide) (fun q6 => ?_) (fun q6 => ?_)
      · have ec : c = e := by have := (le_N (a := e) (b := c) (by omega) (by omega) rfl rfl).mp q6; omega
        refine g_iload_n (pc := 19) o 2 dX3_power_19 rfl rfl ?_
        exact g_iret (pc := 20) o f dX3_power_20 rfl (by rw [ec]) rfl
      · have hc1 : c < e := by have := mt (le_N (a := e) (b := c) (by omega) (by omega) rfl rfl).mpr q6; omega
        refine g_iload_n (pc := 9) o 2 dX3_power_9 rfl rfl ?_
        refine g_iload_n (pc := 10) o 0 dX3_power_10 rfl rfl ?_
        refine g_imul (pc := 11) o dX3_power_11 ?_
        rw [pk_mul, ← Nat.pow_succ]
        refine g_istore_n (pc := 12) o 2 dX3_power_12 rfl rfl ?_
        refine g_incN (pc := 13) o (c) dX3_power_13 rfl rfl ?_
        refine g_goto (pc := 16) o 4 dX3_power_16 (by decide) ?_
        exact ih (c + 1) (by omega) (by omega)
  refine g_iconst (pc := 0) (v := 1) o dX3_power_0 (by decide) ?_
  refine g_istore_n (pc := 1) o 2 dX3_power_1 rfl rfl ?_
  refine g_iconst (pc := 2) (v := 0) o dX3_power_2 (by decide) ?_
  refine g_istore_n (pc := 3) o 3 dX3_power_3 rfl rfl ?_
  exact loop (e + 1) 0 (by omega) (by omega)

/-- p taken out of both, at most k times -/
def red (p : Nat) (a b : Nat) : Nat → Nat × Nat
  | 0 => (a, b)
  | k + 1 => if (red p a b k).1 % p = 0 then ((red p a b k).1 / p, (red p a b k).2 / p) else red p a b k
theorem red_le (p a b k : Nat) : (red p a b k).1 ≤ a ∧ (red p a b k).2 ≤ b := by
  induction k with
  | zero => exact ⟨Nat.le_refl _, Nat.le_refl _⟩
  | succ k ih =>
    show (if _ then _ else _ : Nat × Nat).1 ≤ a ∧ (if _ then _ else _ : Nat × Nat).2 ≤ b
    split
    · exact ⟨Nat.le_trans (Nat.div_le_self _ _) ih.1, Nat.le_trans (Nat.div_le_self _ _) ih.2⟩
    · exact ih
def lea (u k : Nat) : Nat × Nat := red 5 (red 2 u (10 ^ k) k).1 (red 2 u (10 ^ k) k).2 k
set_option maxHeartbeats 2000000 in
set_option maxRecDepth 20000 in
theorem cX3inLeast  {u e : Nat} (hu : u < 2000000000) (he : e ≤ 6) (h10 : 10 ^ e < 2000000000) {ww : Int32} : Ret Λ (d + 1) mX3_inLeastTerms [.int (nI u), .int (nI e), .int ww] (n, M, Rf, Lg) (some (.int (if ww = 0 then nI (lea u e).1 else nI (lea u e).2))) (n, M, Rf, Lg) 0 0 := by
  refine Ret.of rfl rfl rfl (fun κ o f hin => ?_)
  obtain ⟨a1, ha1⟩ : ∃ a1, a1 = (red 2 u (10 ^ e) e).1 := ⟨_, rfl⟩
  obtain ⟨b1, hb1⟩ : ∃ b1, b1 = (red 2 u (10 ^ e) e).2 := ⟨_, rfl⟩
  have hle2 := red_le 2 u (10 ^ e) e
  have ef : (if ww = 0 then nI (lea u e).1 else nI (lea u e).2) = (if ww = 0 then nI (red 5 a1 b1 e).1 else nI (red 5 a1 b1 e).2) := by unfold lea; rw [← ha1, ← hb1]
  have loop5 : ∀ k c : Nat, c ≤ e → e < c + k → G (Λ, κ) 44 [some (.int (nI u)), some (.int (nI e)), some (.int ww), some (.int (nI (red 5 a1 b1 c).1)), some (.int (nI (red 5 a1 b1 c).2)), some (.int (nI c))] [] (n, M, Rf, Lg) 0 0 := by
    intro k
    induction k with
    | zero => intro c h1 h2; exact absurd h2 (by omega)
    | succ k ih =>
      intro c h1 h2
      have hle := red_le 5 a1 b1 c
      refine g_iload (pc := 44) o dX3_inLeastTerms_44 rfl ?_
      refine g_iload_n (pc := 46) o 1 dX3_inLeastTerms_46 rfl rfl ?_
      refine g_icmp_ge (pc := 47) o 72 dX3_inLeastTerms_47 (by decide) (fun q47 => ?_) (fun q47 => ?_)
      · have ec : c = e := by have := (le_N (a := e) (b := c) (by omega) (by omega) rfl rfl).mp q47; omega
        refine g_iload_n (pc := 72) o 2 dX3_inLeastTerms_72 rfl rfl ?_
        refine g_if_ne (pc := 73) o 80 dX3_inLeastTerms_73 (by decide) (fun q73 => ?_) (fun q73 => ?_)
        · refine g_iload (pc := 80) o dX3_inLeastTerms_80 rfl ?_
          exact g_iret (pc := 82) o f dX3_inLeastTerms_82 rfl (by rw [ef, ec]; first | rw [if_pos q73] | rw [if_neg q73]) rfl
        · refine g_iload_n (pc := 76) o 3 dX3_inLeastTerms_76 rfl rfl ?_
          refine g_goto (pc := 77) o 82 dX3_inLeastTerms_77 (by decide) ?_
          exact g_iret (pc := 82) o f dX3_inLeastTerms_82 rfl (by rw [ef, ec]; first | rw [if_pos q73] | rw [if_neg q73]) rfl
      · have hc1 : c < e := by have := mt (le_N (a := e) (b := c) (by omega) (by omega) rfl rfl).mpr q47; omega
        refine g_iload_n (pc := 50) o 3 dX3_inLeastTerms_50 rfl rfl ?_
        refine g_iconst (pc := 51) (v := 5) o dX3_inLeastTerms_51 (by decide) ?_
        refine g_irem (pc := 52) o dX3_inLeastTerms_52 (by decide) ?_
        rw [show nI (red 5 a1 b1 c).1 - nI (red 5 a1 b1 c).1 / 5 * 5 = nI ((red 5 a1 b1 c).1 % 5) from pk_rem (by omega) (by decide) (by decide)]
        refine g_if_ne (pc := 53) o 66 dX3_inLeastTerms_53 (by decide) (fun q53 => ?_) (fun q53 => ?_)
        · have g : ¬ (red 5 a1 b1 c).1 % 5 = 0 := mt (eq_N (by omega) (by decide) rfl (rfl : (0 : Int32) = nI 0)).mpr q53
          have e1 : red 5 a1 b1 (c + 1) = red 5 a1 b1 c := if_neg g
          refine g_incN (pc := 66) o (c) dX3_inLeastTerms_66 rfl rfl ?_
          refine g_goto (pc := 69) o 44 dX3_inLeastTerms_69 (by decide) ?_
          refine g_eq rfl ?_ rfl rfl (ih (c + 1) (by omega) (by omega))
          rw [e1]; rfl
        · have g : (red 5 a1 b1 c).1 % 5 = 0 := (eq_N (by omega) (by decide) rfl (rfl : (0 : Int32) = nI 0)).mp q53
          have e1 : red 5 a1 b1 (c + 1) = ((red 5 a1 b1 c).1 / 5, (red 5 a1 b1 c).2 / 5) := if_pos g
          refine g_iload_n (pc := 56) o 3 dX3_inLeastTerms_56 rfl rfl ?_
          refine g_iconst (pc := 57) (v := 5) o dX3_inLeastTerms_57 (by decide) ?_
          refine g_idiv (pc := 58) o dX3_inLeastTerms_58 (by decide) ?_
          rw [show nI (red 5 a1 b1 c).1 / 5 = nI ((red 5 a1 b1 c).1 / 5) from pk_div (by omega) (by decide) (by decide)]
          refine g_istore_n (pc := 59) o 3 dX3_inLeastTerms_59 rfl rfl ?_
          refine g_iload (pc := 60) o dX3_inLeastTerms_60 rfl ?_
          refine g_iconst (pc := 62) (v := 5) o dX3_inLeastTerms_62 (by decide) ?_
          refine g_idiv (pc := 63) o dX3_inLeastTerms_63 (by decide) ?_
          rw [show nI (red 5 a1 b1 c).2 / 5 = nI ((red 5 a1 b1 c).2 / 5) from pk_div (by omega) (by decide) (by decide)]
          refine g_istore (pc := 64) o dX3_inLeastTerms_64 rfl ?_
          refine g_incN (pc := 66) o (c) dX3_inLeastTerms_66 rfl rfl ?_
          refine g_goto (pc := 69) o 44 dX3_inLeastTerms_69 (by decide) ?_
          refine g_eq rfl ?_ rfl rfl (ih (c + 1) (by omega) (by omega))
          rw [e1]; rfl
  have loop2 : ∀ k c : Nat, c ≤ e → e < c + k → G (Λ, κ) 13 [some (.int (nI u)), some (.int (nI e)), some (.int ww), some (.int (nI (red 2 u (10 ^ e) c).1)), some (.int (nI (red 2 u (10 ^ e) c).2)), some (.int (nI c))] [] (n, M, Rf, Lg) 0 0 := by
    intro k
    induction k with
    | zero => intro c h1 h2; exact absurd h2 (by omega)
    | succ k ih =>
      intro c h1 h2
      have hle := red_le 2 u (10 ^ e) c
      refine g_iload (pc := 13) o dX3_inLeastTerms_13 rfl ?_
      refine g_iload_n (pc := 15) o 1 dX3_inLeastTerms_15 rfl rfl ?_
      refine g_icmp_ge (pc := 16) o 41 dX3_inLeastTerms_16 (by decide) (fun q16 => ?_) (fun q16 => ?_)
      · have ec : c = e := by have := (le_N (a := e) (b := c) (by omega) (by omega) rfl rfl).mp q16; omega
        refine g_iconst (pc := 41) (v := 0) o dX3_inLeastTerms_41 (by decide) ?_
        refine g_istore (pc := 42) o dX3_inLeastTerms_42 rfl ?_
        refine g_eq rfl ?_ rfl rfl (loop5 (e + 1) 0 (by omega) (by omega))
        rw [ec, ← ha1, ← hb1]; rfl
      · have hc1 : c < e := by have := mt (le_N (a := e) (b := c) (by omega) (by omega) rfl rfl).mpr q16; omega
        refine g_iload_n (pc := 19) o 3 dX3_inLeastTerms_19 rfl rfl ?_
        refine g_iconst (pc := 20) (v := 2) o dX3_inLeastTerms_20 (by decide) ?_
        refine g_irem (pc := 21) o dX3_inLeastTerms_21 (by decide) ?_
        rw [show nI (red 2 u (10 ^ e) c).1 - nI (red 2 u (10 ^ e) c).1 / 2 * 2 = nI ((red 2 u (10 ^ e) c).1 % 2) from pk_rem (by omega) (by decide) (by decide)]
        refine g_if_ne (pc := 22) o 35 dX3_inLeastTerms_22 (by decide) (fun q22 => ?_) (fun q22 => ?_)
        · have g : ¬ (red 2 u (10 ^ e) c).1 % 2 = 0 := mt (eq_N (by omega) (by decide) rfl (rfl : (0 : Int32) = nI 0)).mpr q22
          have e1 : red 2 u (10 ^ e) (c + 1) = red 2 u (10 ^ e) c := if_neg g
          refine g_incN (pc := 35) o (c) dX3_inLeastTerms_35 rfl rfl ?_
          refine g_goto (pc := 38) o 13 dX3_inLeastTerms_38 (by decide) ?_
          refine g_eq rfl ?_ rfl rfl (ih (c + 1) (by omega) (by omega))
          rw [e1]; rfl
        · have g : (red 2 u (10 ^ e) c).1 % 2 = 0 := (eq_N (by omega) (by decide) rfl (rfl : (0 : Int32) = nI 0)).mp q22
          have e1 : red 2 u (10 ^ e) (c + 1) = ((red 2 u (10 ^ e) c).1 / 2, (red 2 u (10 ^ e) c).2 / 2) := if_pos g
          refine g_iload_n (pc := 25) o 3 dX3_inLeastTerms_25 rfl rfl ?_
          refine g_iconst (pc := 26) (v := 2) o dX3_inLeastTerms_26 (by decide) ?_
          refine g_idiv (pc := 27) o dX3_inLeastTerms_27 (by decide) ?_
          rw [show nI (red 2 u (10 ^ e) c).1 / 2 = nI ((red 2 u (10 ^ e) c).1 / 2) from pk_div (by omega) (by decide) (by decide)]
          refine g_istore_n (pc := 28) o 3 dX3_inLeastTerms_28 rfl rfl ?_
          refine g_iload (pc := 29) o dX3_inLeastTerms_29 rfl ?_
          refine g_iconst (pc := 31) (v := 2) o dX3_inLeastTerms_31 (by decide) ?_
          refine g_idiv (pc := 32) o dX3_inLeastTerms_32 (by decide) ?_
          rw [show nI (red 2 u (10 ^ e) c).2 / 2 = nI ((red 2 u (10 ^ e) c).2 / 2) from pk_div (by omega) (by decide) (by decide)]
          refine g_istore (pc := 33) o dX3_inLeastTerms_33 rfl ?_
          refine g_incN (pc := 35) o (c) dX3_inLeastTerms_35 rfl rfl ?_
          refine g_goto (pc := 38) o 13 dX3_inLeastTerms_38 (by decide) ?_
          refine g_eq rfl ?_ rfl rfl (ih (c + 1) (by omega) (by omega))
          rw [e1]; rfl
  refine g_iload_n (pc := 0) o 0 dX3_inLeastTerms_0 rfl rfl ?_
  refine g_istore_n (pc := 1) o 3 dX3_inLeastTerms_1 rfl rfl ?_
  refine g_bipush (pc := 2) (v := 10) o dX3_inLeastTerms_2 (by decide) ?_
  refine g_iload_n (pc := 4) o 1 dX3_inLeastTerms_4 rfl rfl ?_
  refine g_S2i (pc := 5) o lkRX3_265 cmX3_power (cX3power (a := 10) (by omega)) rfl rfl ⟨Nat.le_refl _, Nat.le_refl _⟩ dX3_inLeastTerms_5 ?_
  refine g_istore (pc := 8) o dX3_inLeastTerms_8 rfl ?_
  refine g_iconst (pc := 10) (v := 0) o dX3_inLeastTerms_10 (by decide) ?_
  refine g_istore (pc := 11) o dX3_inLeastTerms_11 rfl ?_
  exact loop2 (e + 1) 0 (by omega) (by omega)

end M8
