section M1
variable {Λ : PL} {d n : Nat} {M : HM} {Rf : HR} {Lg : HL}

set_option maxHeartbeats 2000000 in
set_option maxRecDepth 20000 in
theorem cX4in (v a b : Int32) : Ret Λ (d) mX4_in [.int v, .int a, .int b] (n, M, Rf, Lg) (some (.int (bi (a ≤ v ∧ v ≤ b)))) (n, M, Rf, Lg) 0 0 := by
  refine Ret.of rfl rfl rfl (fun κ o f hin => ?_)
  refine g_iload_n (pc := 0) o 0 dX4_in_0 rfl rfl ?_
  refine g_iload_n (pc := 1) o 1 dX4_in_1 rfl rfl ?_
  refine g_icmp_lt (pc := 2) o 14 dX4_in_2 (by decide) (fun q2 => ?_) (fun q2 => ?_)
  · refine g_iconst (pc := 14) (v := 0) o dX4_in_14 (by decide) ?_
    exact g_iret (pc := 15) o f dX4_in_15 rfl (by first | exact (bi_t ⟨Int32.not_lt.mp ‹_›, Int32.not_lt.mp ‹_›⟩).symm | exact (bi_f (fun q => absurd ‹_ < _› (Int32.not_lt.mpr q.1))).symm | exact (bi_f (fun q => absurd ‹_ < _› (Int32.not_lt.mpr q.2))).symm) rfl
  · refine g_iload_n (pc := 5) o 0 dX4_in_5 rfl rfl ?_
    refine g_iload_n (pc := 6) o 2 dX4_in_6 rfl rfl ?_
    refine g_icmp_gt (pc := 7) o 14 dX4_in_7 (by decide) (fun q7 => ?_) (fun q7 => ?_)
    · refine g_iconst (pc := 14) (v := 0) o dX4_in_14 (by decide) ?_
      exact g_iret (pc := 15) o f dX4_in_15 rfl (by first | exact (bi_t ⟨Int32.not_lt.mp ‹_›, Int32.not_lt.mp ‹_›⟩).symm | exact (bi_f (fun q => absurd ‹_ < _› (Int32.not_lt.mpr q.1))).symm | exact (bi_f (fun q => absurd ‹_ < _› (Int32.not_lt.mpr q.2))).symm) rfl
    · refine g_iconst (pc := 10) (v := 1) o dX4_in_10 (by decide) ?_
      refine g_goto (pc := 11) o 15 dX4_in_11 (by decide) ?_
      exact g_iret (pc := 15) o f dX4_in_15 rfl (by first | exact (bi_t ⟨Int32.not_lt.mp ‹_›, Int32.not_lt.mp ‹_›⟩).symm | exact (bi_f (fun q => absurd ‹_ < _› (Int32.not_lt.mpr q.1))).symm | exact (bi_f (fun q => absurd ‹_ < _› (Int32.not_lt.mpr q.2))).symm) rfl

set_option maxHeartbeats 2000000 in
set_option maxRecDepth 20000 in
theorem cX3has {w i : Nat} (hw : w < 2 ^ 31) (hi : i < 32) : Ret Λ (d) mX3_has [.int (nI w), .int (nI i)] (n, M, Rf, Lg) (some (.int (bi (w.testBit i = true)))) (n, M, Rf, Lg) 0 0 := by
  refine Ret.of rfl rfl rfl (fun κ o f hin => ?_)
  refine g_iload_n (pc := 0) o 0 dX3_has_0 rfl rfl ?_
  refine g_iload_n (pc := 1) o 1 dX3_has_1 rfl rfl ?_
  refine g_ishr (pc := 2) o dX3_has_2 ?_
  refine g_iconst (pc := 3) (v := 1) o dX3_has_3 (by decide) ?_
  refine g_iand (pc := 4) o dX3_has_4 ?_
  rw [n_bit hw hi]
  refine g_iconst (pc := 5) (v := 1) o dX3_has_5 (by decide) ?_
  refine g_icmp_ne (pc := 6) o 13 dX3_has_6 (by decide) (fun q6 => ?_) (fun q6 => ?_)
  · refine g_iconst (pc := 13) (v := 0) o dX3_has_13 (by decide) ?_
    exact g_iret (pc := 14) o f dX3_has_14 rfl (by first | exact (bi_t (bn_one.mp q6)).symm | exact (bi_f (fun q => q6 (bn_one.mpr q))).symm) rfl
  · refine g_iconst (pc := 9) (v := 1) o dX3_has_9 (by decide) ?_
    refine g_goto (pc := 10) o 14 dX3_has_10 (by decide) ?_
    exact g_iret (pc := 14) o f dX3_has_14 rfl (by first | exact (bi_t (bn_one.mp q6)).symm | exact (bi_f (fun q => q6 (bn_one.mpr q))).symm) rfl

/-- an hour on one: asleep or not -/
def tir (t : Bool) (v : Int32) : Int32 := if t then (if v - 2 < 0 then 0 else v - 2) else (if 20 < v + 1 then 20 else v + 1)
def tireM (M : HM) (a w b : Nat) : HM := rowM M b 6 (fun j => tir (w.testBit j) (M a j))

set_option maxHeartbeats 2000000 in
set_option maxRecDepth 20000 in
theorem cX3tire {a w b : Nat} (hw : w < 2 ^ 31) (sa : shp a = (6, 6)) (sb : shp b = (6, 6)) (han : a < n) (hbn : b < n) : Ret Λ (d + 1) mX3_tire [.ref a, .int (nI w), .ref b] (n, M, Rf, Lg) none (n, tireM M a w b, Rf, Lg) 0 0 := by
  refine Ret.of rfl rfl rfl (fun κ o f hin => ?_)
  have loop : ∀ k c : Nat, c ≤ 6 → 6 < c + k → G (Λ, κ) 2 [some (.ref a), some (.int (nI w)), some (.ref b), some (.int (nI c))] [] (n, rowM M b c (fun j => tir (w.testBit j) (M a j)), Rf, Lg) 0 0 := by
    intro k
    induction k with
    | zero => intro c h1 h2; exact absurd h2 (by omega)
    | succ k ih =>
      intro c h1 h2
      refine g_iload_n (pc := 2) o 3 dX3_tire_2 rfl rfl ?_
      refine g_bipush (pc := 3) (v := 6) o dX3_tire_3 (by decide) ?_
      refine g_icmp_ge (pc := 5) o 47 dX3_tire_5 (by decide) (fun q5 => ?_) (fun q5 => ?_)
      · have e6 : c = 6 := by have := (le_N (a := 6) (b := c) (by decide) (by omega) rfl rfl).mp q5; omega
        subst e6
        exact g_vret (pc := 47) o f dX3_tire_47 rfl
      · have h6 : c < 6 := by have := mt (le_N (a := 6) (b := c) (by decide) (by omega) rfl rfl).mpr q5; omega
        refine g_aload_n (pc := 8) o 2 dX3_tire_8 rfl rfl ?_
        refine g_iload_n (pc := 9) o 3 dX3_tire_9 rfl rfl ?_
        refine g_iload_n (pc := 10) o 1 dX3_tire_10 rfl rfl ?_
        refine g_iload_n (pc := 11) o 3 dX3_tire_11 rfl rfl ?_
        refine g_S2i (pc := 12) o lkRX3_223 cmX3_has (cX3has hw (by omega)) rfl rfl ⟨Nat.le_refl _, Nat.le_refl _⟩ dX3_tire_12 ?_
        refine g_if_eq (pc := 15) o 30 dX3_tire_15 (by decide) (fun q15 => ?_) (fun q15 => ?_)
        · refine g_aload_n (pc := 30) o 0 dX3_tire_30 rfl rfl ?_
          refine g_iload_n (pc := 31) o 3 dX3_tire_31 rfl rfl ?_
          refine g_iald (pc := 32) o (c) (by first | assumption | rfl) (by first | assumption | omega) rfl (by omega) dX3_tire_32 ?_
          rw [rowM_at]
          refine g_iconst (pc := 33) (v := 1) o dX3_tire_33 (by decide) ?_
          refine g_iadd (pc := 34) o dX3_tire_34 ?_
          refine g_bipush (pc := 35) (v := 20) o dX3_tire_35 (by decide) ?_
          refine g_min (pc := 37) o lkRX3_166 rfl rfl ⟨Nat.le_refl _, Nat.le_refl _⟩ dX3_tire_37 ?_ st_min ini_math co_min
          refine g_iast (pc := 40) o (c) (by first | assumption | rfl) (by first | assumption | omega) rfl (by omega) dX3_tire_40 ?_
          refine g_incN (pc := 41) o (c) dX3_tire_41 rfl rfl ?_
          refine g_goto (pc := 44) o 2 dX3_tire_44 (by decide) ?_
          refine g_eq rfl rfl rfl (hp_M (rowM_s M b c _ ?_)) (ih (c + 1) (by omega) (by omega))
          first | (simp only [tir, bi_nz.mp q15, if_true]; done) | (simp only [tir, bi_z.mp q15]; rfl) | (simp [tir, bi_z.mp q15]; done)
        · refine g_aload_n (pc := 18) o 0 dX3_tire_18 rfl rfl ?_
          refine g_iload_n (pc := 19) o 3 dX3_tire_19 rfl rfl ?_
          refine g_iald (pc := 20) o (c) (by first | assumption | rfl) (by first | assumption | omega) rfl (by omega) dX3_tire_20 ?_
          rw [rowM_at]
          refine g_iconst (pc := 21) (v := 2) o dX3_tire_21 (by decide) ?_
          refine g_isub (pc := 22) o dX3_tire_22 ?_
          refine g_iconst (pc := 23) (v := 0) o dX3_tire_23 (by decide) ?_
          refine g_max (pc := 24) o lkRX3_226 rfl rfl ⟨Nat.le_refl _, Nat.le_refl _⟩ dX3_tire_24 ?_ st_max ini_math co_max
          refine g_goto (pc := 27) o 40 dX3_tire_27 (by decide) ?_
          refine g_iast (pc := 40) o (c) (by first | assumption | rfl) (by first | assumption | omega) rfl (by omega) dX3_tire_40 ?_
          refine g_incN (pc := 41) o (c) dX3_tire_41 rfl rfl ?_
          refine g_goto (pc := 44) o 2 dX3_tire_44 (by decide) ?_
          refine g_eq rfl rfl rfl (hp_M (rowM_s M b c _ ?_)) (ih (c + 1) (by omega) (by omega))
          first | (simp only [tir, bi_nz.mp q15, if_true]; done) | (simp only [tir, bi_z.mp q15]; rfl) | (simp [tir, bi_z.mp q15]; done)
  refine g_iconst (pc := 0) (v := 0) o dX3_tire_0 (by decide) ?_
  refine g_istore_n (pc := 1) o 3 dX3_tire_1 rfl rfl ?_
  exact g_eq rfl rfl rfl (hp_M (rowM_0 M b _).symm) (loop 7 0 (by omega) (by omega))
end M1
