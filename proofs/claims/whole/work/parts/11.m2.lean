section M2
variable {Λ : PL} {d n : Nat} {M : HM} {Rf : HR} {Lg : HL}

def bcx (v : Int32) : Int32 :=
  let v1 := v - ((v.toUInt32 >>> ((1 : Int32).toUInt32 &&& Int32.toUInt32 31)).toInt32 &&& 1431655765)
  let v2 := (v1 &&& 858993459) + ((v1.toUInt32 >>> ((2 : Int32).toUInt32 &&& Int32.toUInt32 31)).toInt32 &&& 858993459)
  let v3 := (v2 + (v2.toUInt32 >>> ((4 : Int32).toUInt32 &&& Int32.toUInt32 31)).toInt32) &&& 252645135
  let v4 := v3 + (v3.toUInt32 >>> ((8 : Int32).toUInt32 &&& Int32.toUInt32 31)).toInt32
  let v5 := v4 + (v4.toUInt32 >>> ((16 : Int32).toUInt32 &&& Int32.toUInt32 31)).toInt32
  v5 &&& 63
theorem bcx_pop : ∀ w, w < 256 → bcx (nI w) = nI (pop w) := by decide +kernel

set_option maxHeartbeats 2000000 in
set_option maxRecDepth 20000 in
theorem cbc {w : Nat} (hw : w < 256) : Ret Λ (d) mJ6_bitCount_0f7a4 [.int (nI w)] (n, M, Rf, Lg) (some (.int (nI (pop w)))) (n, M, Rf, Lg) 0 0 := by
  refine Ret.of rfl rfl rfl (fun κ o f hin => ?_)
  refine g_iload_n (pc := 0) o 0 dJ6_bitCount_0f7a4_0 rfl rfl ?_
  refine g_iload_n (pc := 1) o 0 dJ6_bitCount_0f7a4_1 rfl rfl ?_
  refine g_iconst (pc := 2) (v := 1) o dJ6_bitCount_0f7a4_2 (by decide) ?_
  refine g_iushr (pc := 3) o dJ6_bitCount_0f7a4_3 ?_
  refine g_ldcw (pc := 4) o ctRJ6_265 dJ6_bitCount_0f7a4_4 ?_
  refine g_iand (pc := 7) o dJ6_bitCount_0f7a4_7 ?_
  refine g_isub (pc := 8) o dJ6_bitCount_0f7a4_8 ?_
  refine g_istore_n (pc := 9) o 0 dJ6_bitCount_0f7a4_9 rfl rfl ?_
  refine g_iload_n (pc := 10) o 0 dJ6_bitCount_0f7a4_10 rfl rfl ?_
  refine g_ldcw (pc := 11) o ctRJ6_266 dJ6_bitCount_0f7a4_11 ?_
  refine g_iand (pc := 14) o dJ6_bitCount_0f7a4_14 ?_
  refine g_iload_n (pc := 15) o 0 dJ6_bitCount_0f7a4_15 rfl rfl ?_
  refine g_iconst (pc := 16) (v := 2) o dJ6_bitCount_0f7a4_16 (by decide) ?_
  refine g_iushr (pc := 17) o dJ6_bitCount_0f7a4_17 ?_
  refine g_ldcw (pc := 18) o ctRJ6_266 dJ6_bitCount_0f7a4_18 ?_
  refine g_iand (pc := 21) o dJ6_bitCount_0f7a4_21 ?_
  refine g_iadd (pc := 22) o dJ6_bitCount_0f7a4_22 ?_
  refine g_istore_n (pc := 23) o 0 dJ6_bitCount_0f7a4_23 rfl rfl ?_
  refine g_iload_n (pc := 24) o 0 dJ6_bitCount_0f7a4_24 rfl rfl ?_
  refine g_iload_n (pc := 25) o 0 dJ6_bitCount_0f7a4_25 rfl rfl ?_
  refine g_iconst (pc := 26) (v := 4) o dJ6_bitCount_0f7a4_26 (by decide) ?_
  refine g_iushr (pc := 27) o dJ6_bitCount_0f7a4_27 ?_
  refine g_iadd (pc := 28) o dJ6_bitCount_0f7a4_28 ?_
  refine g_ldcw (pc := 29) o ctRJ6_267 dJ6_bitCount_0f7a4_29 ?_
  refine g_iand (pc := 32) o dJ6_bitCount_0f7a4_32 ?_
  refine g_istore_n (pc := 33) o 0 dJ6_bitCount_0f7a4_33 rfl rfl ?_
  refine g_iload_n (pc := 34) o 0 dJ6_bitCount_0f7a4_34 rfl rfl ?_
  refine g_iload_n (pc := 35) o 0 dJ6_bitCount_0f7a4_35 rfl rfl ?_
  refine g_bipush (pc := 36) (v := 8) o dJ6_bitCount_0f7a4_36 (by decide) ?_
  refine g_iushr (pc := 38) o dJ6_bitCount_0f7a4_38 ?_
  refine g_iadd (pc := 39) o dJ6_bitCount_0f7a4_39 ?_
  refine g_istore_n (pc := 40) o 0 dJ6_bitCount_0f7a4_40 rfl rfl ?_
  refine g_iload_n (pc := 41) o 0 dJ6_bitCount_0f7a4_41 rfl rfl ?_
  refine g_iload_n (pc := 42) o 0 dJ6_bitCount_0f7a4_42 rfl rfl ?_
  refine g_bipush (pc := 43) (v := 16) o dJ6_bitCount_0f7a4_43 (by decide) ?_
  refine g_iushr (pc := 45) o dJ6_bitCount_0f7a4_45 ?_
  refine g_iadd (pc := 46) o dJ6_bitCount_0f7a4_46 ?_
  refine g_istore_n (pc := 47) o 0 dJ6_bitCount_0f7a4_47 rfl rfl ?_
  refine g_iload_n (pc := 48) o 0 dJ6_bitCount_0f7a4_48 rfl rfl ?_
  refine g_bipush (pc := 49) (v := 63) o dJ6_bitCount_0f7a4_49 (by decide) ?_
  refine g_iand (pc := 51) o dJ6_bitCount_0f7a4_51 ?_
  exact g_iret (pc := 52) o f dJ6_bitCount_0f7a4_52 rfl (bcx_pop w hw) rfl

set_option maxHeartbeats 2000000 in
set_option maxRecDepth 20000 in
theorem cX4ones {w : Nat} (hw : w < 2 ^ 31) : Ret Λ (d) mX4_ones [.int (nI w)] (n, M, Rf, Lg) (some (.int (nI (pop w)))) (n, M, Rf, Lg) 0 0 := by
  refine Ret.of rfl rfl rfl (fun κ o f hin => ?_)
  have loop : ∀ k c : Nat, c ≤ 8 → 8 < c + k → G (Λ, κ) 4 [some (.int (nI w)), some (.int (nI (popn c w))), some (.int (nI c))] [] (n, M, Rf, Lg) 0 0 := by
    intro k
    induction k with
    | zero => intro c h1 h2; exact absurd h2 (by omega)
    | succ k ih =>
      intro c h1 h2
      refine g_iload_n (pc := 4) o 2 dX4_ones_4 rfl rfl ?_
      refine g_bipush (pc := 5) (v := 8) o dX4_ones_5 (by decide) ?_
      refine g_icmp_ge (pc := 7) o 24 dX4_ones_7 (by decide) (fun q7 => ?_) (fun q7 => ?_)
      · have ec : c = 8 := by have := (le_N (a := 8) (b := c) (by omega) (by omega) rfl rfl).mp q7; omega
        refine g_iload_n (pc := 24) o 1 dX4_ones_24 rfl rfl ?_
        exact g_iret (pc := 25) o f dX4_ones_25 rfl (by rw [ec]; rfl) rfl
      · have hc1 : c < 8 := by have := mt (le_N (a := 8) (b := c) (by omega) (by omega) rfl rfl).mpr q7; omega
        refine g_iload_n (pc := 10) o 1 dX4_ones_10 rfl rfl ?_
        refine g_iload_n (pc := 11) o 0 dX4_ones_11 rfl rfl ?_
        refine g_iload_n (pc := 12) o 2 dX4_ones_12 rfl rfl ?_
        refine g_ishr (pc := 13) o dX4_ones_13 ?_
        refine g_iconst (pc := 14) (v := 1) o dX4_ones_14 (by decide) ?_
        refine g_iand (pc := 15) o dX4_ones_15 ?_
        rw [n_bit hw (by omega)]
        refine g_iadd (pc := 16) o dX4_ones_16 ?_
        rw [nI_add]
        refine g_istore_n (pc := 17) o 1 dX4_ones_17 rfl rfl ?_
        refine g_incN (pc := 18) o (c) dX4_ones_18 rfl rfl ?_
        refine g_goto (pc := 21) o 4 dX4_ones_21 (by decide) ?_
        exact ih (c + 1) (by omega) (by omega)
  refine g_iconst (pc := 0) (v := 0) o dX4_ones_0 (by decide) ?_
  refine g_istore_n (pc := 1) o 1 dX4_ones_1 rfl rfl ?_
  refine g_iconst (pc := 2) (v := 0) o dX4_ones_2 (by decide) ?_
  refine g_istore_n (pc := 3) o 2 dX4_ones_3 rfl rfl ?_
  exact loop 9 0 (by omega) (by omega)

set_option maxHeartbeats 2000000 in
set_option maxRecDepth 20000 in
theorem cX0noisesOf {c0 : Nat} {T : Nat → Nat} (hc : c0 = 4 ∨ c0 = 16) (hn : 96 ≤ n) (rc : RCi Rf c0) (ht : okT T) (hm : cyT M c0 T) {hh : Nat} (hh8 : hh < 8) : Ret Λ (d) mX0_noisesOf [.ref c0, .int (nI hh)] (n, M, Rf, Lg) (some (.int (nI (nsO T hh)))) (n, M, Rf, Lg) 0 0 := by
  refine Ret.of rfl rfl rfl (fun κ o f hin => ?_)
  obtain ⟨r3, r4, r6, r7, r8, r9, r11, r12, r13, r14, r15⟩ := rc
  obtain ⟨z0, z1, z2, z3, z4, z5, z6, z7, z8, z9, z10, z11⟩ := city_shp hc
  obtain ⟨⟨t0, t0b⟩, t1, t2, t3, tD, tC, tN⟩ := ht
  obtain ⟨m0, m1, m5, m10, mb, mj, mc, mn, ml⟩ := hm
  have loop : ∀ k c : Nat, c ≤ T 3 → T 3 < c + k → G (Λ, κ) 4 [some (.ref c0), some (.int (nI hh)), some (.int (nI (mk (fun i => T (44 + i) == hh) c))), some (.int (nI c))] [] (n, M, Rf, Lg) 0 0 := by
    intro k
    induction k with
    | zero => intro c h1 h2; exact absurd h2 (by omega)
    | succ k ih =>
      intro c h1 h2
      refine g_iload_n (pc := 4) o 3 dX0_noisesOf_4 rfl rfl ?_
      refine g_aload_n (pc := 5) o 0 dX0_noisesOf_5 rfl rfl ?_
      refine g_getI (pc := 6) o flRX0_59 (by first | assumption | rfl) (by first | assumption | omega) dX0_noisesOf_6 ?_
      refine g_icmp_ge (pc := 9) o 34 dX0_noisesOf_9 (by decide) (fun q9 => ?_) (fun q9 => ?_)
      · have ec : c = T 3 := by have := (le_N (a := T 3) (b := c) (by omega) (by omega) m10 rfl).mp q9; omega
        refine g_iload_n (pc := 34) o 2 dX0_noisesOf_34 rfl rfl ?_
        exact g_iret (pc := 35) o f dX0_noisesOf_35 rfl (by rw [ec]; rfl) rfl
      · have hc1 : c < T 3 := by have := mt (le_N (a := T 3) (b := c) (by omega) (by omega) m10 rfl).mpr q9; omega
        refine g_aload_n (pc := 12) o 0 dX0_noisesOf_12 rfl rfl ?_
        refine g_getR (pc := 13) o flRX0_33 (by first | assumption | rfl) (by first | assumption | omega) (by assumption) dX0_noisesOf_13 ?_
        refine g_iload_n (pc := 16) o 3 dX0_noisesOf_16 rfl rfl ?_
        refine g_iald (pc := 17) o (c) (by first | assumption | rfl) (by first | assumption | omega) rfl (by omega) dX0_noisesOf_17 ?_
        have hx := tN c hc1
        rw [(mn c hc1).2.1]
        refine g_iload_n (pc := 18) o 1 dX0_noisesOf_18 rfl rfl ?_
        refine g_icmp_ne (pc := 19) o 28 dX0_noisesOf_19 (by decide) (fun q19 => ?_) (fun q19 => ?_)
        · have e1 : mk (fun i => T (44 + i) == hh) (c + 1) = mk (fun i => T (44 + i) == hh) c := mk_f (by have := mt (eq_N (by omega) (by omega) rfl rfl).mpr q19; simpa using this)
          refine g_incN (pc := 28) o (c) dX0_noisesOf_28 rfl rfl ?_
          refine g_goto (pc := 31) o 4 dX0_noisesOf_31 (by decide) ?_
          first | exact ih (c + 1) (by omega) (by omega) | (rw [← e1]; exact ih (c + 1) (by omega) (by omega))
        · have e1 := mk_t (p := fun i => T (44 + i) == hh) (n := c) (by have := (eq_N (by omega) (by omega) rfl rfl).mp q19; simpa using this) (by omega)
          refine g_iload_n (pc := 22) o 2 dX0_noisesOf_22 rfl rfl ?_
          refine g_iconst (pc := 23) (v := 1) o dX0_noisesOf_23 (by decide) ?_
          refine g_iload_n (pc := 24) o 3 dX0_noisesOf_24 rfl rfl ?_
          refine g_ishl (pc := 25) o dX0_noisesOf_25 ?_
          refine g_ior (pc := 26) o dX0_noisesOf_26 ?_
          rw [e1]
          refine g_istore_n (pc := 27) o 2 dX0_noisesOf_27 rfl rfl ?_
          refine g_incN (pc := 28) o (c) dX0_noisesOf_28 rfl rfl ?_
          refine g_goto (pc := 31) o 4 dX0_noisesOf_31 (by decide) ?_
          first | exact ih (c + 1) (by omega) (by omega) | (rw [← e1]; exact ih (c + 1) (by omega) (by omega))
  refine g_iconst (pc := 0) (v := 0) o dX0_noisesOf_0 (by decide) ?_
  refine g_istore_n (pc := 1) o 2 dX0_noisesOf_1 rfl rfl ?_
  refine g_iconst (pc := 2) (v := 0) o dX0_noisesOf_2 (by decide) ?_
  refine g_istore_n (pc := 3) o 3 dX0_noisesOf_3 rfl rfl ?_
  exact loop (T 3 + 1) 0 (by omega) (by omega)

set_option maxHeartbeats 2000000 in
set_option maxRecDepth 20000 in
theorem cX0wokenBy {c0 : Nat} {T : Nat → Nat} (hc : c0 = 4 ∨ c0 = 16) (hn : 96 ≤ n) (rc : RCi Rf c0) (ht : okT T) (hm : cyT M c0 T) {dd vv : Nat} (hd : dd < 2147483648) (hv : vv < 2147483648) : Ret Λ (d) mX0_wokenBy [.ref c0, .int (nI dd), .int (nI vv)] (n, M, Rf, Lg) (some (.int (nI (wkB T dd vv)))) (n, M, Rf, Lg) 0 0 := by
  refine Ret.of rfl rfl rfl (fun κ o f hin => ?_)
  obtain ⟨r3, r4, r6, r7, r8, r9, r11, r12, r13, r14, r15⟩ := rc
  obtain ⟨z0, z1, z2, z3, z4, z5, z6, z7, z8, z9, z10, z11⟩ := city_shp hc
  obtain ⟨⟨t0, t0b⟩, t1, t2, t3, tD, tC, tN⟩ := ht
  obtain ⟨m0, m1, m5, m10, mb, mj, mc, mn, ml⟩ := hm
  have loop : ∀ k c : Nat, c ≤ T 2 → T 2 < c + k → G (Λ, κ) 5 [some (.ref c0), some (.int (nI dd)), some (.int (nI vv)), some (.int (nI (mk (fun i => T (14 + i) == dd && decide (T (32 + i) < vv)) c))), some (.int (nI c))] [] (n, M, Rf, Lg) 0 0 := by
    intro k
    induction k with
    | zero => intro c h1 h2; exact absurd h2 (by omega)
    | succ k ih =>
      intro c h1 h2
      refine g_iload (pc := 5) o dX0_wokenBy_5 rfl ?_
      refine g_aload_n (pc := 7) o 0 dX0_wokenBy_7 rfl rfl ?_
      refine g_getI (pc := 8) o flRX0_56 (by first | assumption | rfl) (by first | assumption | omega) dX0_wokenBy_8 ?_
      refine g_icmp_ge (pc := 11) o 49 dX0_wokenBy_11 (by decide) (fun q11 => ?_) (fun q11 => ?_)
      · have ec : c = T 2 := by have := (le_N (a := T 2) (b := c) (by omega) (by omega) m5 rfl).mp q11; omega
        refine g_iload_n (pc := 49) o 3 dX0_wokenBy_49 rfl rfl ?_
        exact g_iret (pc := 50) o f dX0_wokenBy_50 rfl (by rw [ec]; rfl) rfl
      · have hc1 : c < T 2 := by have := mt (le_N (a := T 2) (b := c) (by omega) (by omega) m5 rfl).mpr q11; omega
        refine g_aload_n (pc := 14) o 0 dX0_wokenBy_14 rfl rfl ?_
        refine g_getR (pc := 15) o flRX0_18 (by first | assumption | rfl) (by first | assumption | omega) (by assumption) dX0_wokenBy_15 ?_
        refine g_iload (pc := 18) o dX0_wokenBy_18 rfl ?_
        refine g_iald (pc := 20) o (c) (by first | assumption | rfl) (by first | assumption | omega) rfl (by omega) dX0_wokenBy_20 ?_
        have hx := tC c hc1
        rw [(mc c hc1).1]
        refine g_iload_n (pc := 21) o 1 dX0_wokenBy_21 rfl rfl ?_
        refine g_icmp_ne (pc := 22) o 43 dX0_wokenBy_22 (by decide) (fun q22 => ?_) (fun q22 => ?_)
        · have e1 : mk (fun i => T (14 + i) == dd && decide (T (32 + i) < vv)) (c + 1) = mk (fun i => T (14 + i) == dd && decide (T (32 + i) < vv)) c := mk_f (by simp; intro q; exact absurd q (mt (eq_N (by omega) (by omega) rfl rfl).mpr q22))
          refine g_incN (pc := 43) o (c) dX0_wokenBy_43 rfl rfl ?_
          refine g_goto (pc := 46) o 5 dX0_wokenBy_46 (by decide) ?_
          first | exact ih (c + 1) (by omega) (by omega) | (rw [← e1]; exact ih (c + 1) (by omega) (by omega))
        · have g1 := (eq_N (by omega) (by omega) rfl rfl).mp q22
          refine g_aload_n (pc := 25) o 0 dX0_wokenBy_25 rfl rfl ?_
          refine g_getR (pc := 26) o flRX0_27 (by first | assumption | rfl) (by first | assumption | omega) (by assumption) dX0_wokenBy_26 ?_
          refine g_iload (pc := 29) o dX0_wokenBy_29 rfl ?_
          refine g_iald (pc := 31) o (c) (by first | assumption | rfl) (by first | assumption | omega) rfl (by omega) dX0_wokenBy_31 ?_
          rw [(mc c hc1).2.2.2]
          refine g_iload_n (pc := 32) o 2 dX0_wokenBy_32 rfl rfl ?_
          refine g_icmp_ge (pc := 33) o 43 dX0_wokenBy_33 (by decide) (fun q33 => ?_) (fun q33 => ?_)
          · have e1 : mk (fun i => T (14 + i) == dd && decide (T (32 + i) < vv)) (c + 1) = mk (fun i => T (14 + i) == dd && decide (T (32 + i) < vv)) c := mk_f (by simp; intro _; exact (le_N (by omega) (by omega) rfl rfl).mp q33)
            refine g_incN (pc := 43) o (c) dX0_wokenBy_43 rfl rfl ?_
            refine g_goto (pc := 46) o 5 dX0_wokenBy_46 (by decide) ?_
            first | exact ih (c + 1) (by omega) (by omega) | (rw [← e1]; exact ih (c + 1) (by omega) (by omega))
          · have e1 := mk_t (p := (fun i => T (14 + i) == dd && decide (T (32 + i) < vv))) (n := c) (by have g2 := mt (le_N (by omega) (by omega) rfl rfl).mpr q33; simp [g1]; omega) (by omega)
            refine g_iload_n (pc := 36) o 3 dX0_wokenBy_36 rfl rfl ?_
            refine g_iconst (pc := 37) (v := 1) o dX0_wokenBy_37 (by decide) ?_
            refine g_iload (pc := 38) o dX0_wokenBy_38 rfl ?_
            refine g_ishl (pc := 40) o dX0_wokenBy_40 ?_
            refine g_ior (pc := 41) o dX0_wokenBy_41 ?_
            rw [e1]
            refine g_istore_n (pc := 42) o 3 dX0_wokenBy_42 rfl rfl ?_
            refine g_incN (pc := 43) o (c) dX0_wokenBy_43 rfl rfl ?_
            refine g_goto (pc := 46) o 5 dX0_wokenBy_46 (by decide) ?_
            first | exact ih (c + 1) (by omega) (by omega) | (rw [← e1]; exact ih (c + 1) (by omega) (by omega))
  refine g_iconst (pc := 0) (v := 0) o dX0_wokenBy_0 (by decide) ?_
  refine g_istore_n (pc := 1) o 3 dX0_wokenBy_1 rfl rfl ?_
  refine g_iconst (pc := 2) (v := 0) o dX0_wokenBy_2 (by decide) ?_
  refine g_istore (pc := 3) o dX0_wokenBy_3 rfl ?_
  exact loop (T 2 + 1) 0 (by omega) (by omega)
end M2
