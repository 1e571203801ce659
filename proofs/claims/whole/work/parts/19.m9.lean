section M9
variable {Λ : PL} {d n : Nat} {M : HM} {Rf : HR} {Lg : HL}

theorem popn_mono {a b : Nat} (h : ∀ i, a.testBit i = true → b.testBit i = true) (n : Nat) : popn n a ≤ popn n b := by
  induction n with
  | zero => exact Nat.le_refl _
  | succ n ih =>
    show popn n a + bn (a.testBit n) ≤ popn n b + bn (b.testBit n)
    have : bn (a.testBit n) ≤ bn (b.testBit n) := by
      cases e : a.testBit n with
      | false => exact Nat.zero_le _
      | true => rw [h n e]; exact Nat.le_refl _
    omega
theorem dif_sub {a b : Nat} (h : dif a b = 0) : ∀ i, a.testBit i = true → b.testBit i = true := by
  intro i hi
  have h1 : (dif a b).testBit i = false := by rw [h]; exact Nat.zero_testBit i
  rw [dif_bit, hi] at h1
  simpa using h1
def odT (T S : Nat → Nat) (p k : Nat) : Nat := if dif k (nsO T (S 1)) = 0 ∧ ¬ pop (dif (lie T (cdA T S (-1))) (wkA T k)) < T 1 then p ^ pop k * (10 - p) ^ (pop (nsO T (S 1)) - pop k) else 0
def odU (T S : Nat → Nat) (p : Nat) : Nat → Nat
  | 0 => 0
  | k + 1 => odU T S p k + odT T S p k
theorem pop6 {w : Nat} (h : w < 64) : pop w ≤ 6 := by
  unfold pop; rw [popn_small (k := 6) h 8 (by decide)]; exact popn_le 6 w
theorem odT_le {T S : Nat → Nat} {p : Nat} (hp : p ≤ 10) (h3 : T 3 ≤ 6) (k : Nat) : odT T S p k ≤ 1000000 := by
  unfold odT
  split
  · rename_i h
    have h1 : pop k ≤ pop (nsO T (S 1)) := popn_mono (dif_sub h.1) 8
    have h2 : pop (nsO T (S 1)) ≤ 6 := pop6 (mk6 _ h3)
    have e1 : p ^ pop k ≤ 10 ^ pop k := Nat.pow_le_pow_left hp _
    have e2 : (10 - p) ^ (pop (nsO T (S 1)) - pop k) ≤ 10 ^ (pop (nsO T (S 1)) - pop k) := Nat.pow_le_pow_left (by omega) _
    have e3 : 10 ^ pop k * 10 ^ (pop (nsO T (S 1)) - pop k) = 10 ^ pop (nsO T (S 1)) := by rw [← Nat.pow_add]; congr 1; omega
    have e4 : 10 ^ pop (nsO T (S 1)) ≤ 10 ^ 6 := Nat.pow_le_pow_right (by decide) h2
    have e5 := Nat.mul_le_mul e1 e2
    rw [e3] at e5
    exact Nat.le_trans e5 e4
  · exact Nat.zero_le _
theorem odU_le {T S : Nat → Nat} {p : Nat} (hp : p ≤ 10) (h3 : T 3 ≤ 6) (k : Nat) : odU T S p k ≤ 1000000 * k := by
  induction k with
  | zero => exact Nat.le_refl _
  | succ k ih =>
    have := odT_le (S := S) hp h3 k
    show odU T S p k + odT T S p k ≤ _
    omega
def aOdds (T S : Nat → Nat) (v w : Int32) : Int32 := if inn v 11 ∧ inn w 2 then (if w = 0 then nI (lea (odU T S v.toNatClampNeg 64) (pop (nsO T (S 1)))).1 else nI (lea (odU T S v.toNatClampNeg 64) (pop (nsO T (S 1)))).2) else -1
set_option maxHeartbeats 2000000 in
set_option maxRecDepth 20000 in
theorem cX3odds {t b : Nat} {T S : Nat → Nat} (xb : XB M Rf n t T S b) {v w : Int32} : Ret Λ (d + 4) mX3_odds [.ref 0, .int v, .int w] (n, M, Rf, Lg) (some (.int (aOdds T S v w))) (n, M, Rf, Lg) 0 0 := by
  refine Ret.of rfl rfl rfl (fun κ o f hin => ?_)
  obtain ⟨hx, hc, hn, ht, hm, hr, hs, os, hb9⟩ := id xb
  have rc := hx.city hc
  obtain ⟨x0, x1, x3, x4, x5, x8, x9, x10, x11, x13, x14, x15, xN, xC4, xC16, xP, xI, xT, xL, xNm⟩ := id hx
  obtain ⟨r3, r4, r6, r7, r8, r9, r11, r12, r13, r14, r15⟩ := id rc
  obtain ⟨z0, z1, z2, z3, z4, z5, z6, z7, z8, z9, z10, z11⟩ := city_shp hc
  obtain ⟨⟨t0, t0b⟩, t1, t2, t3, tD, tC, tN⟩ := id ht
  obtain ⟨m0, m1, m5, m10, mb, mj, mc, mn, ml⟩ := id hm
  have ra := xN 28 in28
  have rt := xN 32 in32
  obtain ⟨u3, u4, u5⟩ := id ra
  obtain ⟨v3, v4, v5⟩ := id rt
  obtain ⟨s0, s1, s2, sc⟩ := id hs
  obtain ⟨os0, os1, os2, osc⟩ := id os
  refine g_iload_n (pc := 0) o 1 dX3_odds_0 rfl rfl ?_
  refine g_if_lt (pc := 1) o 19 dX3_odds_1 (by decide) (fun q1 => ?_) (fun q1 => ?_)
  · have hv : ¬ (inn v 11 ∧ inn w 2) := fun q => inn_lt0 q1 q.1
    refine g_iconst (pc := 19) (v := -1) o dX3_odds_19 (by decide) ?_
    exact g_iret (pc := 20) o f dX3_odds_20 rfl (by unfold aOdds; rw [if_neg hv]) rfl
  · refine g_iload_n (pc := 4) o 1 dX3_odds_4 rfl rfl ?_
    refine g_bipush (pc := 5) (v := 10) o dX3_odds_5 (by decide) ?_
    refine g_icmp_gt (pc := 7) o 19 dX3_odds_7 (by decide) (fun q7 => ?_) (fun q7 => ?_)
    · have hv : ¬ (inn v 11 ∧ inn w 2) := fun q => inn_gt (N := 10) (by decide) rfl q7 q.1
      refine g_iconst (pc := 19) (v := -1) o dX3_odds_19 (by decide) ?_
      exact g_iret (pc := 20) o f dX3_odds_20 rfl (by unfold aOdds; rw [if_neg hv]) rfl
    · have hv1 := inn_le (N := 10) (by decide) rfl q1 (Int32.not_lt.mp q7)
      refine g_iload_n (pc := 10) o 2 dX3_odds_10 rfl rfl ?_
      refine g_if_lt (pc := 11) o 19 dX3_odds_11 (by decide) (fun q11 => ?_) (fun q11 => ?_)
      · have hv : ¬ (inn v 11 ∧ inn w 2) := fun q => inn_lt0 q11 q.2
        refine g_iconst (pc := 19) (v := -1) o dX3_odds_19 (by decide) ?_
        exact g_iret (pc := 20) o f dX3_odds_20 rfl (by unfold aOdds; rw [if_neg hv]) rfl
      · refine g_iload_n (pc := 14) o 2 dX3_odds_14 rfl rfl ?_
        refine g_iconst (pc := 15) (v := 1) o dX3_odds_15 (by decide) ?_
        refine g_icmp_le (pc := 16) o 21 dX3_odds_16 (by decide) (fun q16 => ?_) (fun q16 => ?_)
        · have hv : inn v 11 ∧ inn w 2 := ⟨hv1, inn_le (N := 1) (by decide) rfl q11 q16⟩
          obtain ⟨p, hp, rfl⟩ := inn_of hv1 (by decide)
          have hns : nsO T (S 1) < 64 := mk6 _ t3
          have hm6 := pop6 hns
          have loop : ∀ (k c : Nat) (dm : Option Value), c ≤ 64 → 64 < c + k → G (Λ, κ) 62 [some (.ref 0), some (.int (nI p)), some (.int w), some (.int (nI (nsO T (S 1)))), some (.int (nI (pop (nsO T (S 1))))), some (.int (nI (odU T S p c))), some (.int (nI (lie T (cdA T S (-1))))), some (.int (nI c)), dm] [] (n, M, Rf, Lg) 0 0 := by
            intro k
            induction k with
            | zero => intro c dm h1 h2; exact absurd h2 (by omega)
            | succ k ih =>
              intro c dm h1 h2
              have hdl : dif c (nsO T (S 1)) < 64 ∨ 64 ≤ c := by by_cases h : c < 64; exact Or.inl (dif6 h); exact Or.inr (by omega)
              have hul := odU_le (S := S) (p := p) (by omega) t3 c
              refine g_iload (pc := 62) o dX3_odds_62 rfl ?_
              refine g_bipush (pc := 64) (v := 64) o dX3_odds_64 (by decide) ?_
              refine g_icmp_ge (pc := 66) o 136 dX3_odds_66 (by decide) (fun q66 => ?_) (fun q66 => ?_)
              · have ec : c = 64 := by have := (le_N (a := 64) (b := c) (by decide) (by omega) rfl rfl).mp q66; omega
                refine g_iload (pc := 136) o dX3_odds_136 rfl ?_
                refine g_iload (pc := 138) o dX3_odds_138 rfl ?_
                refine g_iload_n (pc := 140) o 2 dX3_odds_140 rfl rfl ?_
                refine g_S3i (pc := 141) o lkRX3_268 cmX3_inLeastTerms (cX3inLeast (by omega) (by omega) (by have : 10 ^ pop (nsO T (S 1)) ≤ 10 ^ 6 := Nat.pow_le_pow_right (by decide) hm6; omega)) rfl rfl ⟨Nat.le_refl _, Nat.le_refl _⟩ dX3_odds_141 ?_
                exact g_iret (pc := 144) o f dX3_odds_144 rfl (by rw [ec]; unfold aOdds; rw [if_pos hv, nI_clamp (by omega)]) rfl
              · have hc1 : c < 64 := by have := mt (le_N (a := 64) (b := c) (by decide) (by omega) rfl rfl).mpr q66; omega
                refine g_iload (pc := 69) o dX3_odds_69 rfl ?_
                refine g_iload_n (pc := 71) o 3 dX3_odds_71 rfl rfl ?_
                refine g_iconst (pc := 72) (v := -1) o dX3_odds_72 (by decide) ?_
                refine g_ixor (pc := 73) o dX3_odds_73 ?_
                refine g_iand (pc := 74) o dX3_odds_74 ?_
                rw [n_dif]
                refine g_if_ne (pc := 75) o 130 dX3_odds_75 (by decide) (fun q75 => ?_) (fun q75 => ?_)
                · have g0 : ¬ dif c (nsO T (S 1)) = 0 := mt (eq_N (by omega) (by decide) rfl (rfl : (0 : Int32) = nI 0)).mpr q75
                  have e1 : odU T S p (c + 1) = odU T S p c := by show odU T S p c + odT T S p c = _; rw [show odT T S p c = 0 from if_neg (fun q => g0 q.1)]; rfl
                  refine g_incN (pc := 130) o (c) dX3_odds_130 rfl rfl ?_
                  refine g_goto (pc := 133) o 62 dX3_odds_133 (by decide) ?_
                  first | exact ih (c + 1) _ (by omega) (by omega) | (rw [← e1]; exact ih (c + 1) _ (by omega) (by omega))
                · have g0 : dif c (nsO T (S 1)) = 0 := (eq_N (by omega) (by decide) rfl (rfl : (0 : Int32) = nI 0)).mp q75
                  have g3 : pop c ≤ pop (nsO T (S 1)) := popn_mono (dif_sub g0) 8
                  refine g_aload_n (pc := 78) o 0 dX3_odds_78 rfl rfl ?_
                  refine g_iload (pc := 79) o dX3_odds_79 rfl ?_
                  refine g_aload_n (pc := 81) o 0 dX3_odds_81 rfl rfl ?_
                  refine g_getR (pc := 82) o flRX3_19 (by first | assumption | rfl) (by first | assumption | omega) (by assumption) dX3_odds_82 ?_
                  refine g_iload (pc := 85) o dX3_odds_85 rfl ?_
                  refine g_V1i (pc := 87) o lkRX3_262 cmX0_wokenByAll (cX0wokenByAll hc hn rc ht hm (w := c) (by omega)) (by first | assumption | rfl) (by first | assumption | omega) rfl rfl ⟨Nat.le_refl _, Nat.le_refl _⟩ dX3_odds_87 ?_
                  refine g_iconst (pc := 90) (v := -1) o dX3_odds_90 (by decide) ?_
                  refine g_ixor (pc := 91) o dX3_odds_91 ?_
                  refine g_iand (pc := 92) o dX3_odds_92 ?_
                  rw [n_dif]
                  have hpc := pop_le c
                  refine g_V1i (pc := 93) o lkRX3_191 cmX3_lapses (cX3lapses xb (Nat.lt_trans (dif6 (lieL6 T _ t2)) (by decide))) (by first | assumption | rfl) (by first | assumption | omega) rfl rfl ⟨Nat.le_refl _, Nat.le_refl _⟩ dX3_odds_93 ?_
                  refine g_if_ne (pc := 96) o 130 dX3_odds_96 (by decide) (fun q96 => ?_) (fun q96 => ?_)
                  · have g4 := bi_nz.mp q96
                    have e1 : odU T S p (c + 1) = odU T S p c := by show odU T S p c + odT T S p c = _; rw [show odT T S p c = 0 from if_neg (fun q => q.2 g4)]; rfl
                    refine g_incN (pc := 130) o (c) dX3_odds_130 rfl rfl ?_
                    refine g_goto (pc := 133) o 62 dX3_odds_133 (by decide) ?_
                    first | exact ih (c + 1) _ (by omega) (by omega) | (rw [← e1]; exact ih (c + 1) _ (by omega) (by omega))
                  · have g4 := bi_z.mp q96
                    have e1 : odU T S p (c + 1) = odU T S p c + p ^ pop c * (10 - p) ^ (pop (nsO T (S 1)) - pop c) := by show odU T S p c + odT T S p c = _; rw [show odT T S p c = _ from if_pos ⟨g0, g4⟩]
                    refine g_iload (pc := 99) o dX3_odds_99 rfl ?_
                    refine g_S1i (pc := 101) o lkRX3_179 cmJ6_bitCount_0f7a4 (cbc (by omega)) rfl rfl ⟨Nat.le_refl _, Nat.le_refl _⟩ dX3_odds_101 ?_
                    refine g_istore (pc := 104) o dX3_odds_104 rfl ?_
                    refine g_iload (pc := 106) o dX3_odds_106 rfl ?_
                    refine g_iload_n (pc := 108) o 1 dX3_odds_108 rfl rfl ?_
                    refine g_iload (pc := 109) o dX3_odds_109 rfl ?_
                    refine g_S2i (pc := 111) o lkRX3_265 cmX3_power (cX3power (a := p) (by omega)) rfl rfl ⟨Nat.le_refl _, Nat.le_refl _⟩ dX3_odds_111 ?_
                    refine g_bipush (pc := 114) (v := 10) o dX3_odds_114 (by decide) ?_
                    refine g_iload_n (pc := 116) o 1 dX3_odds_116 rfl rfl ?_
                    refine g_isub (pc := 117) o dX3_odds_117 ?_
                    rw [show (10 : Int32) - nI p = nI (10 - p) from pk_sub (a := 10) (by omega)]
                    refine g_iload (pc := 118) o dX3_odds_118 rfl ?_
                    refine g_iload (pc := 120) o dX3_odds_120 rfl ?_
                    refine g_isub (pc := 122) o dX3_odds_122 ?_
                    rw [pk_sub g3]
                    refine g_S2i (pc := 123) o lkRX3_265 cmX3_power (cX3power (a := 10 - p) (by omega)) rfl rfl ⟨Nat.le_refl _, Nat.le_refl _⟩ dX3_odds_123 ?_
                    refine g_imul (pc := 126) o dX3_odds_126 ?_
                    rw [pk_mul]
                    refine g_iadd (pc := 127) o dX3_odds_127 ?_
                    rw [nI_add, ← e1]
                    refine g_istore (pc := 128) o dX3_odds_128 rfl ?_
                    refine g_incN (pc := 130) o (c) dX3_odds_130 rfl rfl ?_
                    refine g_goto (pc := 133) o 62 dX3_odds_133 (by decide) ?_
                    first | exact ih (c + 1) _ (by omega) (by omega) | (rw [← e1]; exact ih (c + 1) _ (by omega) (by omega))
          refine g_aload_n (pc := 21) o 0 dX3_odds_21 rfl rfl ?_
          refine g_getR (pc := 22) o flRX3_19 (by first | assumption | rfl) (by first | assumption | omega) (by assumption) dX3_odds_22 ?_
          refine g_aload_n (pc := 25) o 0 dX3_odds_25 rfl rfl ?_
          refine g_getR (pc := 26) o flRX3_29 (by first | assumption | rfl) (by first | assumption | omega) (by assumption) dX3_odds_26 ?_
          refine g_getI (pc := 29) o flRX3_133 (by first | assumption | rfl) (by first | assumption | omega) dX3_odds_29 ?_
          rw [s1]
          refine g_V1i (pc := 32) o lkRX3_256 cmX0_noisesOf (cX0noisesOf hc hn rc ht hm (hh := S 1) (by omega)) (by first | assumption | rfl) (by first | assumption | omega) rfl rfl ⟨Nat.le_refl _, Nat.le_refl _⟩ dX3_odds_32 ?_
          refine g_istore_n (pc := 35) o 3 dX3_odds_35 rfl rfl ?_
          refine g_iload_n (pc := 36) o 3 dX3_odds_36 rfl rfl ?_
          refine g_S1i (pc := 37) o lkRX3_179 cmJ6_bitCount_0f7a4 (cbc (by omega)) rfl rfl ⟨Nat.le_refl _, Nat.le_refl _⟩ dX3_odds_37 ?_
          refine g_istore (pc := 40) o dX3_odds_40 rfl ?_
          refine g_iconst (pc := 42) (v := 0) o dX3_odds_42 (by decide) ?_
          refine g_istore (pc := 43) o dX3_odds_43 rfl ?_
          refine g_aload_n (pc := 45) o 0 dX3_odds_45 rfl rfl ?_
          refine g_getR (pc := 46) o flRX3_19 (by first | assumption | rfl) (by first | assumption | omega) (by assumption) dX3_odds_46 ?_
          refine g_aload_n (pc := 49) o 0 dX3_odds_49 rfl rfl ?_
          refine g_getR (pc := 50) o flRX3_29 (by first | assumption | rfl) (by first | assumption | omega) (by assumption) dX3_odds_50 ?_
          refine g_iconst (pc := 53) (v := -1) o dX3_odds_53 (by decide) ?_
          refine g_V2i (pc := 54) o lkRX3_259 cmX0_lyingDown (cX0lying hc hn rc ht hm in28 ra hs os) (by first | assumption | rfl) (by first | assumption | omega) rfl rfl ⟨Nat.le_refl _, Nat.le_refl _⟩ dX3_odds_54 ?_
          refine g_istore (pc := 57) o dX3_odds_57 rfl ?_
          refine g_iconst (pc := 59) (v := 0) o dX3_odds_59 (by decide) ?_
          refine g_istore (pc := 60) o dX3_odds_60 rfl ?_
          exact loop 65 0 none (by omega) (by omega)
        · have hv : ¬ (inn v 11 ∧ inn w 2) := fun q => inn_gt (N := 1) (by decide) rfl (Int32.not_le.mp q16) q.2
          refine g_iconst (pc := 19) (v := -1) o dX3_odds_19 (by decide) ?_
          exact g_iret (pc := 20) o f dX3_odds_20 rfl (by unfold aOdds; rw [if_neg hv]) rfl

/-- the beginning of a city with the hours that are called now -/
def shS (T S : Nat → Nat) : Nat → Nat := fun k => if k < 3 then 0 else if k < 9 then T (17 + k) else if k < 15 then S k else 0
def shR (T S : Nat → Nat) (c : Nat) : Nat → Nat → Nat
  | 0 => shS T S
  | i + 1 => stepS T (shR T S c i) (dif (wA T (shR T S c i) (-1)) (2 ^ c))
def shW (T S : Nat → Nat) (c i : Nat) : Nat := dif (wA T (shR T S c i) (-1)) (2 ^ c)
def allN (p : Nat → Bool) : Nat → Bool
  | 0 => true
  | n + 1 => allN p n && p n
theorem allN_iff (p : Nat → Bool) (n : Nat) : allN p n = true ↔ ∀ i, i < n → p i = true := by
  induction n with
  | zero => exact ⟨fun _ i h => absurd h (by omega), fun _ => rfl⟩
  | succ n ih =>
    show (allN p n && p n) = true ↔ _
    rw [Bool.and_eq_true, ih]
    constructor
    · intro h i hi
      by_cases e : i = n
      · rw [e]; exact h.2
      · exact h.1 i (by omega)
    · intro h
      exact ⟨fun i hi => h i (by omega), h n (by omega)⟩
def mcs (T S ch cm : Nat → Nat) (cn c : Nat) : Bool := allN (fun i => asC ch cm i (pop (shW T S c i)) cn) (lstN ch cn)
theorem shS_ok {T S : Nat → Nat} {b : Nat} (t2 : T 2 ≤ 6) (ht : okT T) (h : okS S (T 2) b) : okS (shS T S) (T 2) 0 := by
  obtain ⟨-, -, -, -, -, tC, -⟩ := ht
  obtain ⟨-, -, -, hc⟩ := h
  refine ⟨Nat.le_refl _, by show 0 < 8; decide, Nat.le_refl _, fun i hi => ⟨?_, ?_, ?_⟩⟩
  · have : shS T S (3 + i) = T (20 + i) := by unfold shS; rw [if_neg (by omega), if_pos (by omega)]; congr 1; omega
    rw [this]; exact (tC i hi).2.1
  · have : shS T S (9 + i) = S (9 + i) := by unfold shS; rw [if_neg (by omega), if_neg (by omega), if_pos (by omega)]
    rw [this]; exact (hc i hi).2.1
  · have : shS T S (15 + i) = 0 := by unfold shS; rw [if_neg (by omega), if_neg (by omega), if_neg (by omega)]
    rw [this]; exact Nat.le_refl _
theorem shR_ok {T S : Nat → Nat} {b : Nat} (c : Nat) (t2 : T 2 ≤ 6) (ht : okT T) (h : okS S (T 2) b) (i : Nat) : okS (shR T S c i) (T 2) i := by
  induction i with
  | zero => exact shS_ok t2 ht h
  | succ i ih => exact step_ok _ t2 ih
theorem sh_now {M : HM} {t : Nat} {T S : Nat → Nat} (t2 : T 2 ≤ 6) (hc : t = 4 ∨ t = 16) (hm : cyT M t T) (hs : nwS M 28 S (T 2)) : nwS (fun z j => if z = 34 ∧ j < 6 then bgnM M 32 t 30 j else bgnM M 32 t z j) 32 (shS T S) (T 2) := by
  obtain ⟨-, -, -, -, -, -, mc, -, -⟩ := hm
  obtain ⟨-, -, -, sc⟩ := hs
  refine ⟨?_, ?_, ?_, fun i hi => ⟨?_, ?_, ?_⟩⟩
  · show _ = (0 : Int32); simp only [bgnM, bgnC]; grind
  · show _ = (0 : Int32); simp only [bgnM, bgnC]; grind
  · show _ = (0 : Int32); simp only [bgnM, bgnC]; grind
  · have : shS T S (3 + i) = T (20 + i) := by unfold shS; rw [if_neg (by omega), if_pos (by omega)]; congr 1; omega
    rw [this, ← (mc i hi).2.1]; simp only [bgnM, bgnC]; grind
  · have : shS T S (9 + i) = S (9 + i) := by unfold shS; rw [if_neg (by omega), if_neg (by omega), if_pos (by omega)]
    rw [this, ← (sc i hi).2.1]; simp only [bgnM, bgnC]; grind
  · have : shS T S (15 + i) = 0 := by unfold shS; rw [if_neg (by omega), if_neg (by omega), if_neg (by omega)]
    rw [this]; show _ = (0 : Int32); simp only [bgnM, bgnC]; grind
set_option maxHeartbeats 2000000 in
set_option maxRecDepth 20000 in
theorem cX3makesCountsSo {t b : Nat} {T S : Nat → Nat} (xb : XB M Rf n t T S b) {cn : Nat} {ch cm : Nat → Nat} (hcn : M 0 12 = nI cn) (hc6 : cn ≤ 6) (hch : ∀ i, i < cn → M 39 i = nI (ch i) ∧ ch i ≤ 20 ∧ M 40 i = nI (cm i) ∧ cm i ≤ 6) {c : Nat} (hc2 : c < 6) : RetE Λ (d + 4) mX3_makesCountsSo [.ref 0, .int (nI c)] (n, M, Rf, Lg) (pI n Rf Lg (fun r M' => r = bi (mcs T S ch cm cn c = true) ∧ frT M M')) 0 0 := by
  refine RetE.of rfl rfl rfl (fun κ o f hin => ?_)
  obtain ⟨hx, hc, hn, ht, hm, hr, hs, os, hb9⟩ := id xb
  have rc := hx.city hc
  obtain ⟨x0, x1, x3, x4, x5, x8, x9, x10, x11, x13, x14, x15, xN, xC4, xC16, xP, xI, xT, xL, xNm⟩ := id hx
  obtain ⟨r3, r4, r6, r7, r8, r9, r11, r12, r13, r14, r15⟩ := id rc
  obtain ⟨z0, z1, z2, z3, z4, z5, z6, z7, z8, z9, z10, z11⟩ := city_shp hc
  obtain ⟨⟨t0, t0b⟩, t1, t2, t3, tD, tC, tN⟩ := id ht
  obtain ⟨m0, m1, m5, m10, mb, mj, mc, mn, ml⟩ := id hm
  have ra := xN 28 in28
  have rt := xN 32 in32
  obtain ⟨u3, u4, u5⟩ := id ra
  obtain ⟨v3, v4, v5⟩ := id rt
  obtain ⟨s0, s1, s2, sc⟩ := id hs
  obtain ⟨os0, os1, os2, osc⟩ := id os
  have hl21 := lstN_le cn (fun i hi => (hch i hi).2.1)
  have loop : ∀ (k i : Nat) (dm : Option Value) (M1 : HM), nwS M1 32 (shR T S c i) (T 2) → frT M M1 → allN (fun i => asC ch cm i (pop (shW T S c i)) cn) i = true → i ≤ lstN ch cn → lstN ch cn < i + k → G (Λ, κ) 39 [some (.ref 0), some (.int (nI c)), some (.int (lm (lstN ch cn))), some (.int (nI i)), dm] [] (n, M1, Rf, Lg) 0 0 := by
    intro k
    induction k with
    | zero => intro i dm M1 hs1 hf er h1 h2; exact absurd h2 (by omega)
    | succ k ih =>
      intro i dm M1 hs1 hf er h1 h2
      refine g_iload_n (pc := 39) o 3 dX3_makesCountsSo_39 rfl rfl ?_
      refine g_iload_n (pc := 40) o 2 dX3_makesCountsSo_40 rfl rfl ?_
      refine g_icmp_gt (pc := 41) o 98 dX3_makesCountsSo_41 (by decide) (fun q41 => ?_) (fun q41 => ?_)
      · have ei : i = lstN ch cn := by rw [Int32.lt_iff_toInt_lt, lm_int _ (by omega), nI_toInt (by omega)] at q41; omega
        refine g_iconst (pc := 98) (v := 1) o dX3_makesCountsSo_98 (by decide) ?_
        exact e_iret (pc := 99) o f dX3_makesCountsSo_99 rfl (pI.of ⟨(bi_t (by unfold mcs; rw [← ei]; exact er)).symm, hf⟩)
      · have hi1 : i < lstN ch cn := by rw [Int32.lt_iff_toInt_lt, lm_int _ (by omega), nI_toInt (by omega)] at q41; omega
        have xb2 := xb.kept (M' := M1) (fun z h3 h4 => hf z (by omega))
        have ok2 := shR_ok c t2 ht os i
        have hm2 : cyT M1 t T := xb2.2.2.2.2.1
        refine g_aload_n (pc := 44) o 0 dX3_makesCountsSo_44 rfl rfl ?_
        refine g_getR (pc := 45) o flRX3_19 (by first | assumption | rfl) (by first | assumption | omega) (by assumption) dX3_makesCountsSo_45 ?_
        refine g_aload_n (pc := 48) o 0 dX3_makesCountsSo_48 rfl rfl ?_
        refine g_getR (pc := 49) o flRX3_33 (by first | assumption | rfl) (by first | assumption | omega) (by assumption) dX3_makesCountsSo_49 ?_
        refine g_iconst (pc := 52) (v := -1) o dX3_makesCountsSo_52 (by decide) ?_
        refine g_V2i (pc := 53) o lkRX3_172 cmX0_asleep (cX0asleep hc hn rc ht hm2 in32 rt hs1 ok2 xb2.2.2.2.2.2.1) (by first | assumption | rfl) (by first | assumption | omega) rfl rfl ⟨Nat.le_refl _, Nat.le_refl _⟩ dX3_makesCountsSo_53 ?_
        refine g_iconst (pc := 56) (v := 1) o dX3_makesCountsSo_56 (by decide) ?_
        refine g_iload_n (pc := 57) o 1 dX3_makesCountsSo_57 rfl rfl ?_
        refine g_ishl (pc := 58) o dX3_makesCountsSo_58 ?_
        rw [n_one (by omega)]
        refine g_iconst (pc := 59) (v := -1) o dX3_makesCountsSo_59 (by decide) ?_
        refine g_ixor (pc := 60) o dX3_makesCountsSo_60 ?_
        skip
        refine g_iand (pc := 61) o dX3_makesCountsSo_61 ?_
        rw [n_dif]
        refine g_istore (pc := 62) o dX3_makesCountsSo_62 rfl ?_
        refine g_aload_n (pc := 64) o 0 dX3_makesCountsSo_64 rfl rfl ?_
        refine g_iload_n (pc := 65) o 3 dX3_makesCountsSo_65 rfl rfl ?_
        refine g_iload (pc := 66) o dX3_makesCountsSo_66 rfl ?_
        refine g_S1i (pc := 68) o lkRX3_179 cmJ6_bitCount_0f7a4 (cbc (Nat.lt_trans (dif6 (wA6 t2)) (by decide))) rfl rfl ⟨Nat.le_refl _, Nat.le_refl _⟩ dX3_makesCountsSo_68 ?_
        refine g_V2i (pc := 71) o lkRX3_253 cmX3_isAsCounted (cX3isAsCounted hn x10 x11 (cn := cn) (ch := ch) (cm := cm) (by rw [hf 0 (by omega)]; exact hcn) hc6 (fun q hq => by rw [hf 39 (by omega), hf 40 (by omega)]; exact hch q hq) (i9 := i) (m9 := pop (shW T S c i)) (by omega) (by have := pop_le (shW T S c i); omega)) (by first | assumption | rfl) (by first | assumption | omega) rfl rfl ⟨Nat.le_refl _, Nat.le_refl _⟩ dX3_makesCountsSo_71 ?_
        refine g_if_ne (pc := 74) o 79 dX3_makesCountsSo_74 (by decide) (fun q74 => ?_) (fun q74 => ?_)
        · have g1 := bi_nz.mp q74
          refine g_aload_n (pc := 79) o 0 dX3_makesCountsSo_79 rfl rfl ?_
          refine g_getR (pc := 80) o flRX3_33 (by first | assumption | rfl) (by first | assumption | omega) (by assumption) dX3_makesCountsSo_80 ?_
          refine g_aload_n (pc := 83) o 0 dX3_makesCountsSo_83 rfl rfl ?_
          refine g_getR (pc := 84) o flRX3_19 (by first | assumption | rfl) (by first | assumption | omega) (by assumption) dX3_makesCountsSo_84 ?_
          refine g_iload (pc := 87) o dX3_makesCountsSo_87 rfl ?_
          refine g_V2v (pc := 89) o lkRX3_175 cmX1_pass (cX1pass in32 rt hc hn t1 t2 hm2.2.1 hm2.2.2.1 (Nat.lt_trans (dif6 (wA6 t2)) (by decide))) (by first | assumption | rfl) (by first | assumption | omega) rfl rfl ⟨Nat.le_refl _, Nat.le_refl _⟩ dX3_makesCountsSo_89 ?_
          refine g_incN (pc := 92) o (i) dX3_makesCountsSo_92 rfl rfl ?_
          refine g_goto (pc := 95) o 39 dX3_makesCountsSo_95 (by decide) ?_
          exact ih (i + 1) _ _ (pass_now t2 (by omega) hs1 ok2) (fun z hz => by rw [passM_ne _ _ _ _ _ (by omega)]; exact hf z hz) (by show (allN _ i && asC ch cm i (pop (shW T S c i)) cn) = true; rw [er, g1]; rfl) (by omega) (by omega)
        · have g1 := bi_z.mp q74
          refine g_iconst (pc := 77) (v := 0) o dX3_makesCountsSo_77 (by decide) ?_
          exact e_iret (pc := 78) o f dX3_makesCountsSo_78 rfl (pI.of ⟨(bi_f (by unfold mcs; rw [allN_iff]; intro q; exact g1 (q i hi1))).symm, hf⟩)
  refine g_aload_n (pc := 0) o 0 dX3_makesCountsSo_0 rfl rfl ?_
  refine g_getR (pc := 1) o flRX3_33 (by first | assumption | rfl) (by first | assumption | omega) (by assumption) dX3_makesCountsSo_1 ?_
  refine g_aload_n (pc := 4) o 0 dX3_makesCountsSo_4 rfl rfl ?_
  refine g_getR (pc := 5) o flRX3_19 (by first | assumption | rfl) (by first | assumption | omega) (by assumption) dX3_makesCountsSo_5 ?_
  refine g_V1v (pc := 8) o lkRX3_69 cmX1_begin (cX1begin in32 rt hc hn r7) (by first | assumption | rfl) (by first | assumption | omega) rfl rfl ⟨Nat.le_refl _, Nat.le_refl _⟩ dX3_makesCountsSo_8 ?_
  refine g_aload_n (pc := 11) o 0 dX3_makesCountsSo_11 rfl rfl ?_
  refine g_getR (pc := 12) o flRX3_29 (by first | assumption | rfl) (by first | assumption | omega) (by assumption) dX3_makesCountsSo_12 ?_
  refine g_getR (pc := 15) o flRX3_112 (by first | assumption | rfl) (by first | assumption | omega) (by assumption) dX3_makesCountsSo_15 ?_
  refine g_iconst (pc := 18) (v := 0) o dX3_makesCountsSo_18 (by decide) ?_
  refine g_aload_n (pc := 19) o 0 dX3_makesCountsSo_19 rfl rfl ?_
  refine g_getR (pc := 20) o flRX3_33 (by first | assumption | rfl) (by first | assumption | omega) (by assumption) dX3_makesCountsSo_20 ?_
  refine g_getR (pc := 23) o flRX3_112 (by first | assumption | rfl) (by first | assumption | omega) (by assumption) dX3_makesCountsSo_23 ?_
  refine g_iconst (pc := 26) (v := 0) o dX3_makesCountsSo_26 (by decide) ?_
  refine g_bipush (pc := 27) (v := 6) o dX3_makesCountsSo_27 (by decide) ?_
  refine g_copy (pc := 29) o lkRX3_193 nat_copy st_copy ini_sys (by first | assumption | rfl) (by first | assumption | rfl) (by first | assumption | omega) (by first | assumption | omega) (6) rfl (by omega) (by omega) rfl rfl dX3_makesCountsSo_29 ?_
  have h0f : frT M (fun z j => if z = 34 ∧ j < 6 then bgnM M 32 t 30 j else bgnM M 32 t z j) := by
    intro z hz; funext j; show (if z = 34 ∧ j < 6 then _ else bgnM M 32 t z j) = M z j; rw [if_neg (by omega), bgnM_ne _ _ _ (by omega)]
  refine g_aload_n (pc := 32) o 0 dX3_makesCountsSo_32 rfl rfl ?_
  refine g_V0i (pc := 33) o lkRX3_250 cmX3_lastCounted (cX3lastCounted hn x10 x11 (cn := cn) (ch := ch) (cm := cm) ((congrFun (h0f 0 (by omega)) 12).trans hcn) hc6 (fun q hq => by have g := hch q hq; exact ⟨(congrFun (h0f 39 (by omega)) q).trans g.1, g.2.1, (congrFun (h0f 40 (by omega)) q).trans g.2.2.1, g.2.2.2⟩)) (by first | assumption | rfl) (by first | assumption | omega) rfl rfl ⟨Nat.le_refl _, Nat.le_refl _⟩ dX3_makesCountsSo_33 ?_
  refine g_istore_n (pc := 36) o 2 dX3_makesCountsSo_36 rfl rfl ?_
  refine g_iconst (pc := 37) (v := 0) o dX3_makesCountsSo_37 (by decide) ?_
  refine g_istore_n (pc := 38) o 3 dX3_makesCountsSo_38 rfl rfl ?_
  exact loop (lstN ch cn + 1) 0 none _ (sh_now t2 hc hm hs) h0f rfl (by omega) (by omega)

set_option maxHeartbeats 2000000 in
set_option maxRecDepth 20000 in
theorem cX3sham {t b : Nat} {T S : Nat → Nat} (xb : XB M Rf n t T S b) {cn : Nat} {ch cm : Nat → Nat} (hcn : M 0 12 = nI cn) (hc6 : cn ≤ 6) (hch : ∀ i, i < cn → M 39 i = nI (ch i) ∧ ch i ≤ 20 ∧ M 40 i = nI (cm i) ∧ cm i ≤ 6) : RetE Λ (d + 5) mX3_sham [.ref 0] (n, M, Rf, Lg) (pI n Rf Lg (fun r M' => r = nI (mk (mcs T S ch cm cn) (T 2)) ∧ frT M M')) 0 0 := by
  refine RetE.of rfl rfl rfl (fun κ o f hin => ?_)
  obtain ⟨hx, hc, hn, ht, hm, hr, hs, os, hb9⟩ := id xb
  have rc := hx.city hc
  obtain ⟨x0, x1, x3, x4, x5, x8, x9, x10, x11, x13, x14, x15, xN, xC4, xC16, xP, xI, xT, xL, xNm⟩ := id hx
  obtain ⟨r3, r4, r6, r7, r8, r9, r11, r12, r13, r14, r15⟩ := id rc
  obtain ⟨z0, z1, z2, z3, z4, z5, z6, z7, z8, z9, z10, z11⟩ := city_shp hc
  obtain ⟨⟨t0, t0b⟩, t1, t2, t3, tD, tC, tN⟩ := id ht
  obtain ⟨m0, m1, m5, m10, mb, mj, mc, mn, ml⟩ := id hm
  have ra := xN 28 in28
  have rt := xN 32 in32
  obtain ⟨u3, u4, u5⟩ := id ra
  obtain ⟨v3, v4, v5⟩ := id rt
  obtain ⟨s0, s1, s2, sc⟩ := id hs
  obtain ⟨os0, os1, os2, osc⟩ := id os
  have loop : ∀ (k c : Nat) (M1 : HM), frT M M1 → c ≤ T 2 → T 2 < c + k → G (Λ, κ) 4 [some (.ref 0), some (.int (nI (mk (mcs T S ch cm cn) c))), some (.int (nI c))] [] (n, M1, Rf, Lg) 0 0 := by
    intro k
    induction k with
    | zero => intro c M1 hf h1 h2; exact absurd h2 (by omega)
    | succ k ih =>
      intro c M1 hf h1 h2
      have m5x : M1 t 5 = nI (T 2) := by rw [hf t (by omega)]; exact m5
      refine g_iload_n (pc := 4) o 2 dX3_sham_4 rfl rfl ?_
      refine g_aload_n (pc := 5) o 0 dX3_sham_5 rfl rfl ?_
      refine g_getR (pc := 6) o flRX3_19 (by first | assumption | rfl) (by first | assumption | omega) (by assumption) dX3_sham_6 ?_
      refine g_getI (pc := 9) o flRX3_146 (by first | assumption | rfl) (by first | assumption | omega) dX3_sham_9 ?_
      refine g_icmp_ge (pc := 12) o 35 dX3_sham_12 (by decide) (fun q12 => ?_) (fun q12 => ?_)
      · have ec : c = T 2 := by have := (le_N (a := T 2) (b := c) (by omega) (by omega) m5x rfl).mp q12; omega
        refine g_iload_n (pc := 35) o 1 dX3_sham_35 rfl rfl ?_
        exact e_iret (pc := 36) o f dX3_sham_36 rfl (pI.of ⟨by rw [ec], hf⟩)
      · have hc1 : c < T 2 := by have := mt (le_N (a := T 2) (b := c) (by omega) (by omega) m5x rfl).mpr q12; omega
        have xb2 := xb.kept (M' := M1) (fun z h3 h4 => hf z (by omega))
        refine g_aload_n (pc := 15) o 0 dX3_sham_15 rfl rfl ?_
        refine g_iload_n (pc := 16) o 2 dX3_sham_16 rfl rfl ?_
        refine e_V1i (pc := 17) o lkRX3_247 cmX3_makesCountsSo (cX3makesCountsSo xb2 (cn := cn) (ch := ch) (cm := cm) (by rw [hf 0 (by omega)]; exact hcn) hc6 (fun q hq => by rw [hf 39 (by omega), hf 40 (by omega)]; exact hch q hq) (c := c) (by omega)) (by first | assumption | rfl) (by first | assumption | omega) rfl rfl ⟨Nat.le_refl _, Nat.le_refl _⟩ dX3_sham_17 (fun r M2 hp => ?_)
        obtain ⟨rfl, hf2⟩ := hp
        refine g_if_eq (pc := 20) o 29 dX3_sham_20 (by decide) (fun q20 => ?_) (fun q20 => ?_)
        · have e1 : mk (mcs T S ch cm cn) (c + 1) = mk (mcs T S ch cm cn) c := mk_f (ts_nt9 (bi_z.mp q20))
          refine g_incN (pc := 29) o (c) dX3_sham_29 rfl rfl ?_
          refine g_goto (pc := 32) o 4 dX3_sham_32 (by decide) ?_
          first | exact ih (c + 1) _ (fun z hz => by rw [hf2 z hz]; exact hf z hz) (by omega) (by omega) | (rw [← e1]; exact ih (c + 1) _ (fun z hz => by rw [hf2 z hz]; exact hf z hz) (by omega) (by omega))
        · have e1 := mk_t (p := (mcs T S ch cm cn)) (n := c) (bi_nz.mp q20) (by omega)
          refine g_iload_n (pc := 23) o 1 dX3_sham_23 rfl rfl ?_
          refine g_iconst (pc := 24) (v := 1) o dX3_sham_24 (by decide) ?_
          refine g_iload_n (pc := 25) o 2 dX3_sham_25 rfl rfl ?_
          refine g_ishl (pc := 26) o dX3_sham_26 ?_
          refine g_ior (pc := 27) o dX3_sham_27 ?_
          rw [e1]
          refine g_istore_n (pc := 28) o 1 dX3_sham_28 rfl rfl ?_
          refine g_incN (pc := 29) o (c) dX3_sham_29 rfl rfl ?_
          refine g_goto (pc := 32) o 4 dX3_sham_32 (by decide) ?_
          first | exact ih (c + 1) _ (fun z hz => by rw [hf2 z hz]; exact hf z hz) (by omega) (by omega) | (rw [← e1]; exact ih (c + 1) _ (fun z hz => by rw [hf2 z hz]; exact hf z hz) (by omega) (by omega))
  refine g_iconst (pc := 0) (v := 0) o dX3_sham_0 (by decide) ?_
  refine g_istore_n (pc := 1) o 1 dX3_sham_1 rfl rfl ?_
  refine g_iconst (pc := 2) (v := 0) o dX3_sham_2 (by decide) ?_
  refine g_istore_n (pc := 3) o 2 dX3_sham_3 rfl rfl ?_
  exact loop (T 2 + 1) 0 _ (fun _ _ => rfl) (by omega) (by omega)

end M9
