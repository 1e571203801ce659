section M39
variable {Λ : PL} {d n : Nat} {M : HM} {Rf : HR} {Lg : HL}

theorem vCU_I {v w : Int32} (h : 1 ≤ v ∧ v ≤ 3) (h2 : -1 ≤ w) : vCU v w := by
  rw [Int32.le_iff_toInt_le, Int32.le_iff_toInt_le] at h
  rw [Int32.le_iff_toInt_le] at h2
  exact ⟨h, h2⟩
theorem vCU_n {v w : Int32} (h : ¬ (1 ≤ v ∧ v ≤ 3)) : ¬ vCU v w := fun q => h (by rw [Int32.le_iff_toInt_le, Int32.le_iff_toInt_le]; exact q.1)
theorem cu_v {T S : Nat → Nat} {v w : Int32} (h : vCU v w) (hw : w < v) : aCallUp T S v w = (match fCU T S v.toNatClampNeg with
  | none => -9
  | some L => if w = -1 then nI (v.toNatClampNeg * T 1) else nI (L.getD w.toNatClampNeg 0)) := by
  unfold aCallUp
  rw [if_pos h, if_neg (Int32.not_le.mpr hw)]
  cases fCU T S v.toNatClampNeg <;> rfl
theorem cu_5 {T S : Nat → Nat} {v w : Int32} (h : vCU v w) (hw : ¬ w < v) : aCallUp T S v w = -5 := by
  unfold aCallUp
  rw [if_pos h, if_pos (Int32.not_lt.mp hw)]
theorem cu_1 {T S : Nat → Nat} {v w : Int32} (h : ¬ vCU v w) : aCallUp T S v w = -1 := by
  unfold aCallUp
  rw [if_neg h]

set_option maxHeartbeats 2000000 in
set_option maxRecDepth 20000 in
theorem cX4callUp {b : Nat} {T S : Nat → Nat} (mb : MB M Rf n T S b) (hb1 : b ≤ 1000) {dl : Nat} (mf : MF M 63 (-9) (-9) (-9) dl) {v w : Int32} : RetE Λ (d + 4) mX4_callUp [.ref 96, .int v, .int w] (n, M, Rf, Lg) (pI n Rf Lg (fun r M' => r = aCallUp T S v w ∧ frS M M' ∧ mR M' 100 21 S)) 0 0 := by
  refine RetE.of rfl rfl rfl (fun κ o f hin => ?_)
  obtain ⟨rm, hn, ht, hT, hS, os, hb9⟩ := id mb
  obtain ⟨y1, y3, y4, y5, y6, y8, y9, y10, y21, y22, y23, y24⟩ := id rm
  obtain ⟨⟨t0, t0b⟩, t1, t2, t3, tD, tC, tN⟩ := id ht
  obtain ⟨os0, os1, os2, osc⟩ := id os
  refine g_iload_n (pc := 0) o 1 dX4_callUp_0 rfl rfl ?_
  refine g_iconst (pc := 1) (v := 1) o dX4_callUp_1 (by decide) ?_
  refine g_iconst (pc := 2) (v := 3) o dX4_callUp_2 (by decide) ?_
  refine g_S3i (pc := 3) o lkRX4_67 cmX4_in (cX4in _ 1 3) rfl rfl ⟨Nat.le_refl _, Nat.le_refl _⟩ dX4_callUp_3 ?_
  refine g_if_eq (pc := 6) o 14 dX4_callUp_6 (by decide) (fun q6 => ?_) (fun q6 => ?_)
  · have hv : ¬ vCU v w := vCU_n (bi_z.mp q6)
    refine g_iconst (pc := 14) (v := -1) o dX4_callUp_14 (by decide) ?_
    exact e_iret (pc := 15) o f dX4_callUp_15 rfl (pI.of ⟨(cu_1 hv).symm, frS.refl _, hS⟩)
  · have g1 := bi_nz.mp q6
    refine g_iload_n (pc := 9) o 2 dX4_callUp_9 rfl rfl ?_
    refine g_iconst (pc := 10) (v := -1) o dX4_callUp_10 (by decide) ?_
    refine g_icmp_ge (pc := 11) o 16 dX4_callUp_11 (by decide) (fun q11 => ?_) (fun q11 => ?_)
    · have hv : vCU v w := vCU_I g1 q11
      refine g_iload_n (pc := 16) o 2 dX4_callUp_16 rfl rfl ?_
      refine g_iload_n (pc := 17) o 1 dX4_callUp_17 rfl rfl ?_
      refine g_icmp_lt (pc := 18) o 24 dX4_callUp_18 (by decide) (fun q18 => ?_) (fun q18 => ?_)
      · obtain ⟨k9, hk9, rfl⟩ : ∃ k, k < 4 ∧ v = nI k := inn_of ⟨by have := hv.1.1; omega, by have := hv.1.2; omega⟩ (by decide)
        have hk1 : 1 ≤ k9 := by have := hv.1.1; rw [nI_toInt (by omega)] at this; omega
        refine g_aload_n (pc := 24) o 0 dX4_callUp_24 rfl rfl ?_
        refine g_iload_n (pc := 25) o 1 dX4_callUp_25 rfl rfl ?_
        refine e_V1v (pc := 26) o lkRX4_187 cmX4_seeks (cX4seeks mb hb1 mf (nn := k9) hk1 (by omega)) rfl (by omega) rfl rfl ⟨Nat.le_refl _, Nat.le_refl _⟩ dX4_callUp_26 (fun M2 hp => ?_)
        obtain ⟨k1, k2, k3⟩ := hp
        have hval := cu_v (T := T) (S := S) hv q18
        rw [nI_clamp (by omega)] at hval
        refine g_aload_n (pc := 29) o 0 dX4_callUp_29 rfl rfl ?_
        refine g_getI (pc := 30) o flRX4_177 rfl (by omega) dX4_callUp_30 ?_
        refine g_bipush (pc := 33) (v := -9) o dX4_callUp_33 (by decide) ?_
        refine g_icmp_eq (pc := 35) o 43 dX4_callUp_35 (by decide) (fun q35 => ?_) (fun q35 => ?_)
        · have e0 : fCU T S k9 = none := by
            cases e : fCU T S k9 with
            | none => rfl
            | some L => rw [e] at k3; have h9 : M2 96 25 = nI (k9 * T 1) := k3.1; rw [h9] at q35; exact absurd q35 (ne9 k3.2.1)
          rw [e0] at hval k3
          refine g_aload_n (pc := 43) o 0 dX4_callUp_43 rfl rfl ?_
          refine g_getI (pc := 44) o flRX4_177 rfl (by omega) dX4_callUp_44 ?_
          refine g_goto (pc := 47) o 56 dX4_callUp_47 (by decide) ?_
          exact e_iret (pc := 56) o f dX4_callUp_56 rfl (pI.of (by rw [hval]; first | exact ⟨k3, k1, k2⟩ | exact ⟨b1, k1, k2⟩ | exact ⟨b3 j hj, k1, k2⟩))
        · obtain ⟨L, e0⟩ : ∃ L, fCU T S k9 = some L := by
            cases e : fCU T S k9 with
            | none => rw [e] at k3; exact absurd k3 q35
            | some L => exact ⟨L, rfl⟩
          rw [e0] at hval k3
          obtain ⟨b1, b2, b3⟩ : M2 96 25 = nI (k9 * T 1) ∧ k9 * T 1 < 1000 ∧ ∀ i, i < k9 → M2 108 i = nI (L.getD i 0) := k3
          dsimp only at hval
          refine g_iload_n (pc := 38) o 2 dX4_callUp_38 rfl rfl ?_
          refine g_iconst (pc := 39) (v := -1) o dX4_callUp_39 (by decide) ?_
          refine g_icmp_ne (pc := 40) o 50 dX4_callUp_40 (by decide) (fun q40 => ?_) (fun q40 => ?_)
          · rw [if_neg q40] at hval
            obtain ⟨j, hj, rfl⟩ : ∃ j, j < k9 ∧ w = nI j := by
              have hw1 := hv.2
              have hw2 := Int32.lt_iff_toInt_lt.mp q18
              rw [nI_toInt (by omega)] at hw2
              have hne : w.toInt ≠ -1 := fun h => q40 (Int32.toInt_inj.mp (by rw [h]; decide))
              exact inn_of ⟨by omega, hw2⟩ (by omega)
            rw [nI_clamp (by omega)] at hval
            refine g_aload_n (pc := 50) o 0 dX4_callUp_50 rfl rfl ?_
            refine g_getR (pc := 51) o flRX4_57 rfl (by omega) y24 dX4_callUp_51 ?_
            refine g_iload_n (pc := 54) o 2 dX4_callUp_54 rfl rfl ?_
            refine g_iald (pc := 55) o (j) rfl (by omega) rfl (by omega) dX4_callUp_55 ?_
            exact e_iret (pc := 56) o f dX4_callUp_56 rfl (pI.of (by rw [hval]; first | exact ⟨k3, k1, k2⟩ | exact ⟨b1, k1, k2⟩ | exact ⟨b3 j hj, k1, k2⟩))
          · rw [if_pos q40] at hval
            refine g_aload_n (pc := 43) o 0 dX4_callUp_43 rfl rfl ?_
            refine g_getI (pc := 44) o flRX4_177 rfl (by omega) dX4_callUp_44 ?_
            refine g_goto (pc := 47) o 56 dX4_callUp_47 (by decide) ?_
            exact e_iret (pc := 56) o f dX4_callUp_56 rfl (pI.of (by rw [hval]; first | exact ⟨k3, k1, k2⟩ | exact ⟨b1, k1, k2⟩ | exact ⟨b3 j hj, k1, k2⟩))
      · refine g_bipush (pc := 21) (v := -5) o dX4_callUp_21 (by decide) ?_
        exact e_iret (pc := 23) o f dX4_callUp_23 rfl (pI.of ⟨(cu_5 hv q18).symm, frS.refl _, hS⟩)
    · have hv : ¬ vCU v w := vCU_w q11
      refine g_iconst (pc := 14) (v := -1) o dX4_callUp_14 (by decide) ?_
      exact e_iret (pc := 15) o f dX4_callUp_15 rfl (pI.of ⟨(cu_1 hv).symm, frS.refl _, hS⟩)

end M39
