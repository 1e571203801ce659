section M17
variable {Λ : PL} {d n : Nat} {M : HM} {Rf : HR} {Lg : HL}

def RM (Rf : HR) : Prop := Rf 96 1 = some 97 ∧ Rf 96 3 = some 98 ∧ Rf 96 4 = some 99 ∧ Rf 96 5 = some 100 ∧ Rf 96 6 = some 101 ∧ Rf 96 8 = some 102 ∧ Rf 96 9 = some 103 ∧ Rf 96 10 = some 104 ∧ Rf 96 21 = some 105 ∧ Rf 96 22 = some 106 ∧ Rf 96 23 = some 107 ∧ Rf 96 24 = some 108
/-- a row of numbers -/
def mR (M : HM) (a N : Nat) (f : Nat → Nat) : Prop := ∀ k, k < N → M a k = nI (f k)
/-- the reference's own: city, hours -/
def MB (M : HM) (Rf : HR) (n : Nat) (T S : Nat → Nat) (b : Nat) : Prop := RM Rf ∧ 109 ≤ n ∧ okT T ∧ mR M 98 56 T ∧ mR M 100 21 S ∧ okS S (T 2) b ∧ b ≤ 2000
theorem mR.kept {M M' : HM} {a N : Nat} {f : Nat → Nat} (h : mR M a N f) (e : M' a = M a) : mR M' a N f := fun k hk => by rw [e]; exact h k hk
theorem MB.kept {M M' : HM} {Rf : HR} {n b : Nat} {T S : Nat → Nat} (h : MB M Rf n T S b) (e : M' 98 = M 98) (e2 : M' 100 = M 100) : MB M' Rf n T S b := ⟨h.1, h.2.1, h.2.2.1, h.2.2.2.1.kept e, h.2.2.2.2.1.kept e2, h.2.2.2.2.2⟩
theorem inI {v x : Int32} {N : Nat} (hN : N < 1000) (hx : x = nI N - 1) : (0 ≤ v ∧ v ≤ x) ↔ inn v N := by
  have h := lm_int N hN
  unfold lm at h
  rw [hx, Int32.le_iff_toInt_le, Int32.le_iff_toInt_le, h]
  have : (0 : Int32).toInt = 0 := by decide
  unfold inn
  omega
theorem cX4inN {v x : Int32} (N : Nat) (hN : N < 1000) (hx : x = nI N - 1) : Ret Λ d mX4_in [.int v, .int 0, .int x] (n, M, Rf, Lg) (some (.int (bi (inn v N)))) (n, M, Rf, Lg) 0 0 := by
  have h := cX4in (Λ := Λ) (d := d) (n := n) (M := M) (Rf := Rf) (Lg := Lg) v 0 x
  rw [bi_cong (inI hN hx)] at h
  exact h
theorem cX4inNN {v a b : Nat} (hv : v < 100000) (ha : a < 100000) (hb : b < 100000) : Ret Λ d mX4_in [.int (nI v), .int (nI a), .int (nI b)] (n, M, Rf, Lg) (some (.int (bi (a ≤ v ∧ v ≤ b)))) (n, M, Rf, Lg) 0 0 := by
  have h := cX4in (Λ := Λ) (d := d) (n := n) (M := M) (Rf := Rf) (Lg := Lg) (nI v) (nI a) (nI b)
  rw [bi_cong (q := a ≤ v ∧ v ≤ b) (by rw [nI_leI (by omega) (by omega), nI_leI (by omega) (by omega)])] at h
  exact h

set_option maxHeartbeats 2000000 in
set_option maxRecDepth 20000 in
theorem cX4isCitizen {b : Nat} {T S : Nat → Nat} (mb : MB M Rf n T S b) {v : Int32} : Ret Λ (d + 1) mX4_isCitizen [.ref 96, .int v] (n, M, Rf, Lg) (some (.int (bi (inn v (T 2))))) (n, M, Rf, Lg) 0 0 := by
  refine Ret.of rfl rfl rfl (fun κ o f hin => ?_)
  obtain ⟨rm, hn, ht, hT, hS, os, hb9⟩ := id mb
  obtain ⟨y1, y3, y4, y5, y6, y8, y9, y10, y21, y22, y23, y24⟩ := id rm
  obtain ⟨⟨t0, t0b⟩, t1, t2, t3, tD, tC, tN⟩ := id ht
  obtain ⟨os0, os1, os2, osc⟩ := id os
  refine g_iload_n (pc := 0) o 1 dX4_isCitizen_0 rfl rfl ?_
  refine g_iconst (pc := 1) (v := 0) o dX4_isCitizen_1 (by decide) ?_
  refine g_aload_n (pc := 2) o 0 dX4_isCitizen_2 rfl rfl ?_
  refine g_getR (pc := 3) o flRX4_13 rfl (by omega) y3 dX4_isCitizen_3 ?_
  refine g_iconst (pc := 6) (v := 2) o dX4_isCitizen_6 (by decide) ?_
  refine g_iald (pc := 7) o (2) rfl (by omega) rfl (by omega) dX4_isCitizen_7 ?_
  refine g_iconst (pc := 8) (v := 1) o dX4_isCitizen_8 (by decide) ?_
  refine g_isub (pc := 9) o dX4_isCitizen_9 ?_
  refine g_S3i (pc := 10) o lkRX4_67 cmX4_in (cX4inN (T 2) (by omega) (by rw [hT 2 (by decide)])) rfl rfl ⟨Nat.le_refl _, Nat.le_refl _⟩ dX4_isCitizen_10 ?_
  exact g_iret (pc := 13) o f dX4_isCitizen_13 bi_nar rfl rfl

set_option maxHeartbeats 2000000 in
set_option maxRecDepth 20000 in
theorem cX4isDistrict {b : Nat} {T S : Nat → Nat} (mb : MB M Rf n T S b) {v : Int32} : Ret Λ (d + 1) mX4_isDistrict [.ref 96, .int v] (n, M, Rf, Lg) (some (.int (bi (inn v (T 0))))) (n, M, Rf, Lg) 0 0 := by
  refine Ret.of rfl rfl rfl (fun κ o f hin => ?_)
  obtain ⟨rm, hn, ht, hT, hS, os, hb9⟩ := id mb
  obtain ⟨y1, y3, y4, y5, y6, y8, y9, y10, y21, y22, y23, y24⟩ := id rm
  obtain ⟨⟨t0, t0b⟩, t1, t2, t3, tD, tC, tN⟩ := id ht
  obtain ⟨os0, os1, os2, osc⟩ := id os
  refine g_iload_n (pc := 0) o 1 dX4_isDistrict_0 rfl rfl ?_
  refine g_iconst (pc := 1) (v := 0) o dX4_isDistrict_1 (by decide) ?_
  refine g_aload_n (pc := 2) o 0 dX4_isDistrict_2 rfl rfl ?_
  refine g_getR (pc := 3) o flRX4_13 rfl (by omega) y3 dX4_isDistrict_3 ?_
  refine g_iconst (pc := 6) (v := 0) o dX4_isDistrict_6 (by decide) ?_
  refine g_iald (pc := 7) o (0) rfl (by omega) rfl (by omega) dX4_isDistrict_7 ?_
  refine g_iconst (pc := 8) (v := 1) o dX4_isDistrict_8 (by decide) ?_
  refine g_isub (pc := 9) o dX4_isDistrict_9 ?_
  refine g_S3i (pc := 10) o lkRX4_67 cmX4_in (cX4inN (T 0) (by omega) (by rw [hT 0 (by decide)])) rfl rfl ⟨Nat.le_refl _, Nat.le_refl _⟩ dX4_isDistrict_10 ?_
  exact g_iret (pc := 13) o f dX4_isDistrict_13 bi_nar rfl rfl

def nType (M : HM) (tl : Nat) (v : Int32) : HM := if inn v 256 ∧ tl < 200 then st2 (st2 M 97 tl v) 96 2 (nI (tl + 1)) else M
set_option maxHeartbeats 2000000 in
set_option maxRecDepth 20000 in
theorem cX4type (rm : RM Rf) (hn : 109 ≤ n) {tl : Nat} (htl : M 96 2 = nI tl) (hl : tl ≤ 200) {v : Int32} : Ret Λ (d + 1) mX4_type [.ref 96, .int v] (n, M, Rf, Lg) (some (.int (aType tl v))) (n, nType M tl v, Rf, Lg) 0 0 := by
  refine Ret.of rfl rfl rfl (fun κ o f hin => ?_)
  obtain ⟨y1, y3, y4, y5, y6, y8, y9, y10, y21, y22, y23, y24⟩ := id rm
  refine g_iload_n (pc := 0) o 1 dX4_type_0 rfl rfl ?_
  refine g_iconst (pc := 1) (v := 0) o dX4_type_1 (by decide) ?_
  refine g_sipush (pc := 2) (v := 255) o dX4_type_2 (by decide) ?_
  refine g_S3i (pc := 5) o lkRX4_67 cmX4_in (cX4inN 256 (by decide) rfl) rfl rfl ⟨Nat.le_refl _, Nat.le_refl _⟩ dX4_type_5 ?_
  refine g_if_ne (pc := 8) o 13 dX4_type_8 (by decide) (fun q8 => ?_) (fun q8 => ?_)
  · have g := bi_nz.mp q8
    refine g_aload_n (pc := 13) o 0 dX4_type_13 rfl rfl ?_
    refine g_getI (pc := 14) o flRX4_71 rfl (by omega) dX4_type_14 ?_
    refine g_sipush (pc := 17) (v := 200) o dX4_type_17 (by decide) ?_
    refine g_icmp_ne (pc := 20) o 26 dX4_type_20 (by decide) (fun q20 => ?_) (fun q20 => ?_)
    · have g2 := mt (eq_N (b := 200) (by omega) (by decide) htl rfl).mpr q20
      refine g_aload_n (pc := 26) o 0 dX4_type_26 rfl rfl ?_
      refine g_getR (pc := 27) o flRX4_7 rfl (by omega) y1 dX4_type_27 ?_
      refine g_aload_n (pc := 30) o 0 dX4_type_30 rfl rfl ?_
      refine g_getI (pc := 31) o flRX4_71 rfl (by omega) dX4_type_31 ?_
      refine g_iload_n (pc := 34) o 1 dX4_type_34 rfl rfl ?_
      refine g_iast (pc := 35) o (tl) rfl (by omega) htl (by omega) dX4_type_35 ?_
      refine g_aload_n (pc := 36) o 0 dX4_type_36 rfl rfl ?_
      refine g_dup (pc := 37) o dX4_type_37 rfl ?_
      refine g_getI (pc := 38) o flRX4_71 rfl (by omega) dX4_type_38 ?_
      refine g_iconst (pc := 41) (v := 1) o dX4_type_41 (by decide) ?_
      refine g_iadd (pc := 42) o dX4_type_42 ?_
      refine g_putI (pc := 43) o flRX4_71 rfl rfl (by omega) rfl rfl dX4_type_43 ?_
      refine g_aload_n (pc := 46) o 0 dX4_type_46 rfl rfl ?_
      refine g_getI (pc := 47) o flRX4_71 rfl (by omega) dX4_type_47 ?_
      exact g_iret (pc := 50) o f dX4_type_50 rfl (by unfold aType; rw [if_pos g, if_pos (show tl < 200 by omega), nI_succ tl, ← htl]; rfl) (by unfold nType; rw [if_pos ⟨g, show tl < 200 by omega⟩, nI_succ tl, ← htl]; rfl)
    · have g2 := (eq_N (b := 200) (by omega) (by decide) htl rfl).mp q20
      refine g_bipush (pc := 23) (v := -3) o dX4_type_23 (by decide) ?_
      exact g_iret (pc := 25) o f dX4_type_25 rfl (by unfold aType; rw [if_pos g, if_neg (by omega)]) (by unfold nType; rw [if_neg (fun hh => absurd hh.2 (by omega))])
  · have g := bi_z.mp q8
    refine g_iconst (pc := 11) (v := -1) o dX4_type_11 (by decide) ?_
    exact g_iret (pc := 12) o f dX4_type_12 rfl (by unfold aType; rw [if_neg g]) (by unfold nType; rw [if_neg (fun hh => g hh.1)])

set_option maxHeartbeats 2000000 in
set_option maxRecDepth 20000 in
theorem cX4clear (hn : 109 ≤ n) {tl : Nat} (hh : M 96 2 = nI tl) : Ret Λ (d) mX4_clear [.ref 96] (n, M, Rf, Lg) (some (.int (nI tl))) (n, st2 M 96 2 0, Rf, Lg) 0 0 := by
  refine Ret.of rfl rfl rfl (fun κ o f hin => ?_)
  refine g_aload_n (pc := 0) o 0 dX4_clear_0 rfl rfl ?_
  refine g_getI (pc := 1) o flRX4_71 rfl (by omega) dX4_clear_1 ?_
  refine g_istore_n (pc := 4) o 1 dX4_clear_4 rfl rfl ?_
  refine g_aload_n (pc := 5) o 0 dX4_clear_5 rfl rfl ?_
  refine g_iconst (pc := 6) (v := 0) o dX4_clear_6 (by decide) ?_
  refine g_putI (pc := 7) o flRX4_71 rfl rfl (by omega) rfl rfl dX4_clear_7 ?_
  refine g_iload_n (pc := 10) o 1 dX4_clear_10 rfl rfl ?_
  exact g_iret (pc := 11) o f dX4_clear_11 rfl (by rw [hh]) rfl

set_option maxHeartbeats 2000000 in
set_option maxRecDepth 20000 in
theorem cX4forget (hn : 109 ≤ n) {tl : Nat} (hh : M 96 11 = nI tl) : Ret Λ (d) mX4_forget [.ref 96] (n, M, Rf, Lg) (some (.int (nI tl))) (n, st2 M 96 11 0, Rf, Lg) 0 0 := by
  refine Ret.of rfl rfl rfl (fun κ o f hin => ?_)
  refine g_aload_n (pc := 0) o 0 dX4_forget_0 rfl rfl ?_
  refine g_getI (pc := 1) o flRX4_130 rfl (by omega) dX4_forget_1 ?_
  refine g_istore_n (pc := 4) o 1 dX4_forget_4 rfl rfl ?_
  refine g_aload_n (pc := 5) o 0 dX4_forget_5 rfl rfl ?_
  refine g_iconst (pc := 6) (v := 0) o dX4_forget_6 (by decide) ?_
  refine g_putI (pc := 7) o flRX4_130 rfl rfl (by omega) rfl rfl dX4_forget_7 ?_
  refine g_iload_n (pc := 10) o 1 dX4_forget_10 rfl rfl ?_
  exact g_iret (pc := 11) o f dX4_forget_11 rfl (by rw [hh]) rfl

set_option maxHeartbeats 2000000 in
set_option maxRecDepth 20000 in
theorem cX4district {b : Nat} {T S : Nat → Nat} (mb : MB M Rf n T S b) {v w : Int32} : Ret Λ (d + 2) mX4_district [.ref 96, .int v, .int w] (n, M, Rf, Lg) (some (.int (aDistrict T v w))) (n, M, Rf, Lg) 0 0 := by
  refine Ret.of rfl rfl rfl (fun κ o f hin => ?_)
  obtain ⟨rm, hn, ht, hT, hS, os, hb9⟩ := id mb
  obtain ⟨y1, y3, y4, y5, y6, y8, y9, y10, y21, y22, y23, y24⟩ := id rm
  obtain ⟨⟨t0, t0b⟩, t1, t2, t3, tD, tC, tN⟩ := id ht
  obtain ⟨os0, os1, os2, osc⟩ := id os
  refine g_aload_n (pc := 0) o 0 dX4_district_0 rfl rfl ?_
  refine g_iload_n (pc := 1) o 1 dX4_district_1 rfl rfl ?_
  refine g_V1i (pc := 2) o lkRX4_133 cmX4_isDistrict (cX4isDistrict mb) rfl (by omega) rfl rfl ⟨Nat.le_refl _, Nat.le_refl _⟩ dX4_district_2 ?_
  refine g_if_eq (pc := 5) o 38 dX4_district_5 (by decide) (fun q5 => ?_) (fun q5 => ?_)
  · have g := bi_z.mp q5
    refine g_iconst (pc := 38) (v := -1) o dX4_district_38 (by decide) ?_
    exact g_iret (pc := 39) o f dX4_district_39 rfl (by first | exact (by rw [hT (10 + j) (by omega)]; unfold aDistrict; rw [tbv_in hj (by omega)]; rfl) | exact (by rw [hT (6 + j) (by omega)]; unfold aDistrict; rw [tbv_in hj (by omega)]; rfl) | exact (by unfold aDistrict; rw [tbv_out g]) | exact (by unfold aDistrict; rw [tbv_in hj (by omega), if_neg, if_neg] <;> (intro h; subst h; exact g (by decide)))) rfl
  · obtain ⟨j, hj, rfl⟩ := inn_of (bi_nz.mp q5) (by omega)
    refine g_iload_n (pc := 8) o 2 dX4_district_8 rfl rfl ?_
    refine g_iconst (pc := 9) (v := 0) o dX4_district_9 (by decide) ?_
    refine g_iconst (pc := 10) (v := 1) o dX4_district_10 (by decide) ?_
    refine g_S3i (pc := 11) o lkRX4_67 cmX4_in (cX4inN 2 (by decide) rfl) rfl rfl ⟨Nat.le_refl _, Nat.le_refl _⟩ dX4_district_11 ?_
    refine g_if_eq (pc := 14) o 38 dX4_district_14 (by decide) (fun q14 => ?_) (fun q14 => ?_)
    · have g := bi_z.mp q14
      refine g_iconst (pc := 38) (v := -1) o dX4_district_38 (by decide) ?_
      exact g_iret (pc := 39) o f dX4_district_39 rfl (by first | exact (by rw [hT (10 + j) (by omega)]; unfold aDistrict; rw [tbv_in hj (by omega)]; rfl) | exact (by rw [hT (6 + j) (by omega)]; unfold aDistrict; rw [tbv_in hj (by omega)]; rfl) | exact (by unfold aDistrict; rw [tbv_out g]) | exact (by unfold aDistrict; rw [tbv_in hj (by omega), if_neg, if_neg] <;> (intro h; subst h; exact g (by decide)))) rfl
    · obtain ⟨k, hk, rfl⟩ := inn_of (bi_nz.mp q14) (by omega)
      refine g_aload_n (pc := 17) o 0 dX4_district_17 rfl rfl ?_
      refine g_getR (pc := 18) o flRX4_13 rfl (by omega) y3 dX4_district_18 ?_
      refine g_iload_n (pc := 21) o 2 dX4_district_21 rfl rfl ?_
      refine g_if_ne (pc := 22) o 30 dX4_district_22 (by decide) (fun q22 => ?_) (fun q22 => ?_)
      · have e1 : k = 1 := by have h0 : k ≠ 0 := (fun h => q22 (by rw [h]; rfl)); omega
        subst e1
        refine g_bipush (pc := 30) (v := 6) o dX4_district_30 (by decide) ?_
        refine g_iload_n (pc := 32) o 1 dX4_district_32 rfl rfl ?_
        refine g_iadd (pc := 33) o dX4_district_33 ?_
        refine g_iald (pc := 34) o ((6 + j)) rfl (by omega) (nI_addE rfl rfl) (by omega) dX4_district_34 ?_
        refine g_goto (pc := 35) o 39 dX4_district_35 (by decide) ?_
        exact g_iret (pc := 39) o f dX4_district_39 rfl (by first | exact (by rw [hT (10 + j) (by omega)]; unfold aDistrict; rw [tbv_in hj (by omega)]; rfl) | exact (by rw [hT (6 + j) (by omega)]; unfold aDistrict; rw [tbv_in hj (by omega)]; rfl) | exact (by unfold aDistrict; rw [tbv_out g]) | exact (by unfold aDistrict; rw [tbv_in hj (by omega), if_neg, if_neg] <;> (intro h; subst h; exact g (by decide)))) rfl
      · have e1 : k = 0 := (nI_eq (a := k) (b := 0) (by omega) (by decide)).mp q22
        subst e1
        refine g_bipush (pc := 25) (v := 10) o dX4_district_25 (by decide) ?_
        refine g_goto (pc := 27) o 32 dX4_district_27 (by decide) ?_
        refine g_iload_n (pc := 32) o 1 dX4_district_32 rfl rfl ?_
        refine g_iadd (pc := 33) o dX4_district_33 ?_
        refine g_iald (pc := 34) o ((10 + j)) rfl (by omega) (nI_addE rfl rfl) (by omega) dX4_district_34 ?_
        refine g_goto (pc := 35) o 39 dX4_district_35 (by decide) ?_
        exact g_iret (pc := 39) o f dX4_district_39 rfl (by first | exact (by rw [hT (10 + j) (by omega)]; unfold aDistrict; rw [tbv_in hj (by omega)]; rfl) | exact (by rw [hT (6 + j) (by omega)]; unfold aDistrict; rw [tbv_in hj (by omega)]; rfl) | exact (by unfold aDistrict; rw [tbv_out g]) | exact (by unfold aDistrict; rw [tbv_in hj (by omega), if_neg, if_neg] <;> (intro h; subst h; exact g (by decide)))) rfl

set_option maxHeartbeats 2000000 in
set_option maxRecDepth 20000 in
theorem cX4citizen {b : Nat} {T S : Nat → Nat} (mb : MB M Rf n T S b) {v w : Int32} : Ret Λ (d + 2) mX4_citizen [.ref 96, .int v, .int w] (n, M, Rf, Lg) (some (.int (aCitizen T S v w))) (n, M, Rf, Lg) 0 0 := by
  refine Ret.of rfl rfl rfl (fun κ o f hin => ?_)
  obtain ⟨rm, hn, ht, hT, hS, os, hb9⟩ := id mb
  obtain ⟨y1, y3, y4, y5, y6, y8, y9, y10, y21, y22, y23, y24⟩ := id rm
  obtain ⟨⟨t0, t0b⟩, t1, t2, t3, tD, tC, tN⟩ := id ht
  obtain ⟨os0, os1, os2, osc⟩ := id os
  refine g_aload_n (pc := 0) o 0 dX4_citizen_0 rfl rfl ?_
  refine g_iload_n (pc := 1) o 1 dX4_citizen_1 rfl rfl ?_
  refine g_V1i (pc := 2) o lkRX4_136 cmX4_isCitizen (cX4isCitizen mb) rfl (by omega) rfl rfl ⟨Nat.le_refl _, Nat.le_refl _⟩ dX4_citizen_2 ?_
  refine g_if_ne (pc := 5) o 10 dX4_citizen_5 (by decide) (fun q5 => ?_) (fun q5 => ?_)
  · obtain ⟨j, hj, rfl⟩ := inn_of (bi_nz.mp q5) (by omega)
    refine g_iload_n (pc := 10) o 2 dX4_citizen_10 rfl rfl ?_
    rcases sw_cases w 6 (by decide) with hsw | ⟨kk, hkk, rfl⟩
    · refine g_tabO (pc := 11) o 107 dX4_citizen_11 (by first | exact hsw | omega) (by decide) ?_
      refine g_iconst (pc := 107) (v := -1) o dX4_citizen_107 (by decide) ?_
      exact g_iret (pc := 108) o f dX4_citizen_108 rfl (by unfold aCitizen; rw [tbv_in hj (by omega), tbv_out (inn_neg hsw)]) rfl
    · match kk, hkk with
      | 0, _ =>
        refine g_tabI (pc := 11) o 48 dX4_citizen_11 (by decide) (by decide) rfl (by decide) ?_
        refine g_aload_n (pc := 48) o 0 dX4_citizen_48 rfl rfl ?_
        refine g_getR (pc := 49) o flRX4_13 rfl (by omega) y3 dX4_citizen_49 ?_
        refine g_bipush (pc := 52) (v := 14) o dX4_citizen_52 (by decide) ?_
        refine g_iload_n (pc := 54) o 1 dX4_citizen_54 rfl rfl ?_
        refine g_iadd (pc := 55) o dX4_citizen_55 ?_
        refine g_iald (pc := 56) o ((14 + j)) rfl (by omega) (nI_addE rfl rfl) (by omega) dX4_citizen_56 ?_
        exact g_iret (pc := 57) o f dX4_citizen_57 rfl (by rw [hT (14 + j) (by omega)]; unfold aCitizen; rw [tbv_in hj (by omega), tbv_in (by decide) (by decide)]; rfl) rfl
      | 1, _ =>
        refine g_tabI (pc := 11) o 58 dX4_citizen_11 (by decide) (by decide) rfl (by decide) ?_
        refine g_aload_n (pc := 58) o 0 dX4_citizen_58 rfl rfl ?_
        refine g_getR (pc := 59) o flRX4_19 rfl (by omega) y5 dX4_citizen_59 ?_
        refine g_iconst (pc := 62) (v := 3) o dX4_citizen_62 (by decide) ?_
        refine g_iload_n (pc := 63) o 1 dX4_citizen_63 rfl rfl ?_
        refine g_iadd (pc := 64) o dX4_citizen_64 ?_
        refine g_iald (pc := 65) o ((3 + j)) rfl (by omega) (nI_addE rfl rfl) (by omega) dX4_citizen_65 ?_
        exact g_iret (pc := 66) o f dX4_citizen_66 rfl (by rw [hS (3 + j) (by omega)]; unfold aCitizen; rw [tbv_in hj (by omega), tbv_in (by decide) (by decide)]; rfl) rfl
      | 2, _ =>
        refine g_tabI (pc := 11) o 67 dX4_citizen_11 (by decide) (by decide) rfl (by decide) ?_
        refine g_aload_n (pc := 67) o 0 dX4_citizen_67 rfl rfl ?_
        refine g_getR (pc := 68) o flRX4_13 rfl (by omega) y3 dX4_citizen_68 ?_
        refine g_bipush (pc := 71) (v := 26) o dX4_citizen_71 (by decide) ?_
        refine g_iload_n (pc := 73) o 1 dX4_citizen_73 rfl rfl ?_
        refine g_iadd (pc := 74) o dX4_citizen_74 ?_
        refine g_iald (pc := 75) o ((26 + j)) rfl (by omega) (nI_addE rfl rfl) (by omega) dX4_citizen_75 ?_
        exact g_iret (pc := 76) o f dX4_citizen_76 rfl (by rw [hT (26 + j) (by omega)]; unfold aCitizen; rw [tbv_in hj (by omega), tbv_in (by decide) (by decide)]; rfl) rfl
      | 3, _ =>
        refine g_tabI (pc := 11) o 77 dX4_citizen_11 (by decide) (by decide) rfl (by decide) ?_
        refine g_aload_n (pc := 77) o 0 dX4_citizen_77 rfl rfl ?_
        refine g_getR (pc := 78) o flRX4_13 rfl (by omega) y3 dX4_citizen_78 ?_
        refine g_bipush (pc := 81) (v := 32) o dX4_citizen_81 (by decide) ?_
        refine g_iload_n (pc := 83) o 1 dX4_citizen_83 rfl rfl ?_
        refine g_iadd (pc := 84) o dX4_citizen_84 ?_
        refine g_iald (pc := 85) o ((32 + j)) rfl (by omega) (nI_addE rfl rfl) (by omega) dX4_citizen_85 ?_
        exact g_iret (pc := 86) o f dX4_citizen_86 rfl (by rw [hT (32 + j) (by omega)]; unfold aCitizen; rw [tbv_in hj (by omega), tbv_in (by decide) (by decide)]; rfl) rfl
      | 4, _ =>
        refine g_tabI (pc := 11) o 87 dX4_citizen_11 (by decide) (by decide) rfl (by decide) ?_
        refine g_aload_n (pc := 87) o 0 dX4_citizen_87 rfl rfl ?_
        refine g_getR (pc := 88) o flRX4_19 rfl (by omega) y5 dX4_citizen_88 ?_
        refine g_bipush (pc := 91) (v := 9) o dX4_citizen_91 (by decide) ?_
        refine g_iload_n (pc := 93) o 1 dX4_citizen_93 rfl rfl ?_
        refine g_iadd (pc := 94) o dX4_citizen_94 ?_
        refine g_iald (pc := 95) o ((9 + j)) rfl (by omega) (nI_addE rfl rfl) (by omega) dX4_citizen_95 ?_
        exact g_iret (pc := 96) o f dX4_citizen_96 rfl (by rw [hS (9 + j) (by omega)]; unfold aCitizen; rw [tbv_in hj (by omega), tbv_in (by decide) (by decide)]; rfl) rfl
      | 5, _ =>
        refine g_tabI (pc := 11) o 97 dX4_citizen_11 (by decide) (by decide) rfl (by decide) ?_
        refine g_aload_n (pc := 97) o 0 dX4_citizen_97 rfl rfl ?_
        refine g_getR (pc := 98) o flRX4_19 rfl (by omega) y5 dX4_citizen_98 ?_
        refine g_bipush (pc := 101) (v := 15) o dX4_citizen_101 (by decide) ?_
        refine g_iload_n (pc := 103) o 1 dX4_citizen_103 rfl rfl ?_
        refine g_iadd (pc := 104) o dX4_citizen_104 ?_
        refine g_iald (pc := 105) o ((15 + j)) rfl (by omega) (nI_addE rfl rfl) (by omega) dX4_citizen_105 ?_
        exact g_iret (pc := 106) o f dX4_citizen_106 rfl (by rw [hS (15 + j) (by omega)]; unfold aCitizen; rw [tbv_in hj (by omega), tbv_in (by decide) (by decide)]; rfl) rfl
  · refine g_iconst (pc := 8) (v := -1) o dX4_citizen_8 (by decide) ?_
    exact g_iret (pc := 9) o f dX4_citizen_9 rfl (by unfold aCitizen; rw [tbv_out (bi_z.mp q5)]) rfl

set_option maxHeartbeats 2000000 in
set_option maxRecDepth 20000 in
theorem cX4noise {b : Nat} {T S : Nat → Nat} (mb : MB M Rf n T S b) {v w : Int32} : Ret Λ (d + 1) mX4_noise [.ref 96, .int v, .int w] (n, M, Rf, Lg) (some (.int (aNoise T v w))) (n, M, Rf, Lg) 0 0 := by
  refine Ret.of rfl rfl rfl (fun κ o f hin => ?_)
  obtain ⟨rm, hn, ht, hT, hS, os, hb9⟩ := id mb
  obtain ⟨y1, y3, y4, y5, y6, y8, y9, y10, y21, y22, y23, y24⟩ := id rm
  obtain ⟨⟨t0, t0b⟩, t1, t2, t3, tD, tC, tN⟩ := id ht
  obtain ⟨os0, os1, os2, osc⟩ := id os
  refine g_iload_n (pc := 0) o 1 dX4_noise_0 rfl rfl ?_
  refine g_iconst (pc := 1) (v := 0) o dX4_noise_1 (by decide) ?_
  refine g_aload_n (pc := 2) o 0 dX4_noise_2 rfl rfl ?_
  refine g_getR (pc := 3) o flRX4_13 rfl (by omega) y3 dX4_noise_3 ?_
  refine g_iconst (pc := 6) (v := 3) o dX4_noise_6 (by decide) ?_
  refine g_iald (pc := 7) o (3) rfl (by omega) rfl (by omega) dX4_noise_7 ?_
  refine g_iconst (pc := 8) (v := 1) o dX4_noise_8 (by decide) ?_
  refine g_isub (pc := 9) o dX4_noise_9 ?_
  refine g_S3i (pc := 10) o lkRX4_67 cmX4_in (cX4inN (T 3) (by omega) (by rw [hT 3 (by decide)])) rfl rfl ⟨Nat.le_refl _, Nat.le_refl _⟩ dX4_noise_10 ?_
  refine g_if_eq (pc := 13) o 42 dX4_noise_13 (by decide) (fun q13 => ?_) (fun q13 => ?_)
  · have g := bi_z.mp q13
    refine g_iconst (pc := 42) (v := -1) o dX4_noise_42 (by decide) ?_
    exact g_iret (pc := 43) o f dX4_noise_43 rfl (by first | exact (by rw [hT (38 + 6 * k + j) (by omega)]; unfold aNoise; rw [tbv_in hj (by omega), tbv_in hk (by omega)]; rfl) | exact (by unfold aNoise; rw [tbv_out g]) | exact (by unfold aNoise; rw [tbv_in hj (by omega), tbv_out g])) rfl
  · obtain ⟨j, hj, rfl⟩ := inn_of (bi_nz.mp q13) (by omega)
    refine g_iload_n (pc := 16) o 2 dX4_noise_16 rfl rfl ?_
    refine g_iconst (pc := 17) (v := 0) o dX4_noise_17 (by decide) ?_
    refine g_iconst (pc := 18) (v := 2) o dX4_noise_18 (by decide) ?_
    refine g_S3i (pc := 19) o lkRX4_67 cmX4_in (cX4inN 3 (by decide) rfl) rfl rfl ⟨Nat.le_refl _, Nat.le_refl _⟩ dX4_noise_19 ?_
    refine g_if_eq (pc := 22) o 42 dX4_noise_22 (by decide) (fun q22 => ?_) (fun q22 => ?_)
    · have g := bi_z.mp q22
      refine g_iconst (pc := 42) (v := -1) o dX4_noise_42 (by decide) ?_
      exact g_iret (pc := 43) o f dX4_noise_43 rfl (by first | exact (by rw [hT (38 + 6 * k + j) (by omega)]; unfold aNoise; rw [tbv_in hj (by omega), tbv_in hk (by omega)]; rfl) | exact (by unfold aNoise; rw [tbv_out g]) | exact (by unfold aNoise; rw [tbv_in hj (by omega), tbv_out g])) rfl
    · obtain ⟨k, hk, rfl⟩ := inn_of (bi_nz.mp q22) (by omega)
      refine g_aload_n (pc := 25) o 0 dX4_noise_25 rfl rfl ?_
      refine g_getR (pc := 26) o flRX4_13 rfl (by omega) y3 dX4_noise_26 ?_
      refine g_bipush (pc := 29) (v := 38) o dX4_noise_29 (by decide) ?_
      refine g_bipush (pc := 31) (v := 6) o dX4_noise_31 (by decide) ?_
      refine g_iload_n (pc := 33) o 2 dX4_noise_33 rfl rfl ?_
      refine g_imul (pc := 34) o dX4_noise_34 ?_
      refine g_iadd (pc := 35) o dX4_noise_35 ?_
      refine g_iload_n (pc := 36) o 1 dX4_noise_36 rfl rfl ?_
      refine g_iadd (pc := 37) o dX4_noise_37 ?_
      refine g_iald (pc := 38) o (((38 + (6 * k)) + j)) rfl (by omega) (nI_addE (nI_addE rfl (nI_mulE rfl rfl)) rfl) (by omega) dX4_noise_38 ?_
      refine g_goto (pc := 39) o 43 dX4_noise_39 (by decide) ?_
      exact g_iret (pc := 43) o f dX4_noise_43 rfl (by first | exact (by rw [hT (38 + 6 * k + j) (by omega)]; unfold aNoise; rw [tbv_in hj (by omega), tbv_in hk (by omega)]; rfl) | exact (by unfold aNoise; rw [tbv_out g]) | exact (by unfold aNoise; rw [tbv_in hj (by omega), tbv_out g])) rfl

theorem fCnt_lo {T : Nat → Nat} {cn tl k : Nat} (h : k < 4) : nI (T k) = fCnt T cn tl k := by
  match k, h with
  | 0, _ => rfl
  | 1, _ => rfl
  | 2, _ => rfl
  | 3, _ => rfl
set_option maxHeartbeats 2000000 in
set_option maxRecDepth 20000 in
theorem cX4count {b : Nat} {T S : Nat → Nat} (mb : MB M Rf n T S b) {cn tl : Nat} (hcn : M 96 11 = nI cn) (htl : M 96 2 = nI tl) {v : Int32} : Ret Λ (d + 1) mX4_count [.ref 96, .int v] (n, M, Rf, Lg) (some (.int (tbv v 6 (fCnt T cn tl) (-1)))) (n, M, Rf, Lg) 0 0 := by
  refine Ret.of rfl rfl rfl (fun κ o f hin => ?_)
  obtain ⟨rm, hn, ht, hT, hS, os, hb9⟩ := id mb
  obtain ⟨y1, y3, y4, y5, y6, y8, y9, y10, y21, y22, y23, y24⟩ := id rm
  obtain ⟨⟨t0, t0b⟩, t1, t2, t3, tD, tC, tN⟩ := id ht
  obtain ⟨os0, os1, os2, osc⟩ := id os
  refine g_iload_n (pc := 0) o 1 dX4_count_0 rfl rfl ?_
  refine g_iconst (pc := 1) (v := 0) o dX4_count_1 (by decide) ?_
  refine g_iconst (pc := 2) (v := 5) o dX4_count_2 (by decide) ?_
  refine g_S3i (pc := 3) o lkRX4_67 cmX4_in (cX4inN 6 (by decide) rfl) rfl rfl ⟨Nat.le_refl _, Nat.le_refl _⟩ dX4_count_3 ?_
  refine g_if_ne (pc := 6) o 11 dX4_count_6 (by decide) (fun q6 => ?_) (fun q6 => ?_)
  · obtain ⟨k, hk, rfl⟩ := inn_of (bi_nz.mp q6) (by omega)
    refine g_iload_n (pc := 11) o 1 dX4_count_11 rfl rfl ?_
    refine g_iconst (pc := 12) (v := 4) o dX4_count_12 (by decide) ?_
    refine g_icmp_ge (pc := 13) o 25 dX4_count_13 (by decide) (fun q13 => ?_) (fun q13 => ?_)
    · have g := (le_N (a := 4) (b := k) (by decide) (by omega) rfl rfl).mp q13
      refine g_iload_n (pc := 25) o 1 dX4_count_25 rfl rfl ?_
      refine g_iconst (pc := 26) (v := 4) o dX4_count_26 (by decide) ?_
      refine g_icmp_ne (pc := 27) o 37 dX4_count_27 (by decide) (fun q27 => ?_) (fun q27 => ?_)
      · have g2 := mt (eq_N (a := k) (b := 4) (by omega) (by decide) rfl rfl).mpr q27
        refine g_aload_n (pc := 37) o 0 dX4_count_37 rfl rfl ?_
        refine g_getI (pc := 38) o flRX4_71 rfl (by omega) dX4_count_38 ?_
        exact g_iret (pc := 41) o f dX4_count_41 rfl (by rw [tbv_in hk (by decide)]; first | exact (by rw [hT k (by omega)]; exact fCnt_lo (by omega)) | exact (by subst g2; exact hcn) | exact (by rw [show k = 5 by omega]; exact htl)) rfl
      · have g2 := (eq_N (a := k) (b := 4) (by omega) (by decide) rfl rfl).mp q27
        refine g_aload_n (pc := 30) o 0 dX4_count_30 rfl rfl ?_
        refine g_getI (pc := 31) o flRX4_130 rfl (by omega) dX4_count_31 ?_
        refine g_goto (pc := 34) o 41 dX4_count_34 (by decide) ?_
        exact g_iret (pc := 41) o f dX4_count_41 rfl (by rw [tbv_in hk (by decide)]; first | exact (by rw [hT k (by omega)]; exact fCnt_lo (by omega)) | exact (by subst g2; exact hcn) | exact (by rw [show k = 5 by omega]; exact htl)) rfl
    · have g := mt (le_N (a := 4) (b := k) (by decide) (by omega) rfl rfl).mpr q13
      refine g_aload_n (pc := 16) o 0 dX4_count_16 rfl rfl ?_
      refine g_getR (pc := 17) o flRX4_13 rfl (by omega) y3 dX4_count_17 ?_
      refine g_iload_n (pc := 20) o 1 dX4_count_20 rfl rfl ?_
      refine g_iald (pc := 21) o (k) rfl (by omega) rfl (by omega) dX4_count_21 ?_
      refine g_goto (pc := 22) o 41 dX4_count_22 (by decide) ?_
      exact g_iret (pc := 41) o f dX4_count_41 rfl (by rw [tbv_in hk (by decide)]; first | exact (by rw [hT k (by omega)]; exact fCnt_lo (by omega)) | exact (by subst g2; exact hcn) | exact (by rw [show k = 5 by omega]; exact htl)) rfl
  · refine g_iconst (pc := 9) (v := -1) o dX4_count_9 (by decide) ?_
    exact g_iret (pc := 10) o f dX4_count_10 rfl (by rw [tbv_out (bi_z.mp q6)]) rfl

set_option maxHeartbeats 2000000 in
set_option maxRecDepth 20000 in
theorem cX4trace (hn : 109 ≤ n) : Ret Λ (d) mX4_trace [.ref 96] (n, M, Rf, Lg) (some (.long (Lg 96 0))) (n, M, Rf, Lg) 0 0 := by
  refine Ret.of rfl rfl rfl (fun κ o f hin => ?_)
  refine g_aload_n (pc := 0) o 0 dX4_trace_0 rfl rfl ?_
  refine g_getJ (pc := 1) o flRX4_198 rfl (by omega) dX4_trace_1 ?_
  exact g_lret (pc := 4) o f dX4_trace_4 rfl rfl

def nCounted (M : HM) (cn : Nat) (v w : Int32) : HM := if (inn v 21 ∧ inn w 7) ∧ cn < 6 then st2 (st2 M 104 cn (8 * v + w)) 96 11 (nI (cn + 1)) else M
set_option maxHeartbeats 2000000 in
set_option maxRecDepth 20000 in
theorem cX4counted (rm : RM Rf) (hn : 109 ≤ n) {cn : Nat} (hcn : M 96 11 = nI cn) (hl : cn ≤ 6) {v w : Int32} : Ret Λ (d + 1) mX4_counted [.ref 96, .int v, .int w] (n, M, Rf, Lg) (some (.int (aCounted cn v w))) (n, nCounted M cn v w, Rf, Lg) 0 0 := by
  refine Ret.of rfl rfl rfl (fun κ o f hin => ?_)
  obtain ⟨y1, y3, y4, y5, y6, y8, y9, y10, y21, y22, y23, y24⟩ := id rm
  refine g_iload_n (pc := 0) o 1 dX4_counted_0 rfl rfl ?_
  refine g_iconst (pc := 1) (v := 0) o dX4_counted_1 (by decide) ?_
  refine g_bipush (pc := 2) (v := 20) o dX4_counted_2 (by decide) ?_
  refine g_S3i (pc := 4) o lkRX4_67 cmX4_in (cX4inN 21 (by decide) rfl) rfl rfl ⟨Nat.le_refl _, Nat.le_refl _⟩ dX4_counted_4 ?_
  refine g_if_eq (pc := 7) o 20 dX4_counted_7 (by decide) (fun q7 => ?_) (fun q7 => ?_)
  · have g := bi_z.mp q7
    refine g_iconst (pc := 20) (v := -1) o dX4_counted_20 (by decide) ?_
    exact g_iret (pc := 21) o f dX4_counted_21 rfl (by unfold aCounted; rw [if_neg (by intro hh; first | exact g hh.1 | exact g2 hh.2 | exact g hh.1.1 | exact g2 hh.1.2)]) (by unfold nCounted; rw [if_neg (by intro hh; first | exact g hh.1 | exact g2 hh.2 | exact g hh.1.1 | exact g2 hh.1.2)])
  · have g := bi_nz.mp q7
    refine g_iload_n (pc := 10) o 2 dX4_counted_10 rfl rfl ?_
    refine g_iconst (pc := 11) (v := 0) o dX4_counted_11 (by decide) ?_
    refine g_bipush (pc := 12) (v := 6) o dX4_counted_12 (by decide) ?_
    refine g_S3i (pc := 14) o lkRX4_67 cmX4_in (cX4inN 7 (by decide) rfl) rfl rfl ⟨Nat.le_refl _, Nat.le_refl _⟩ dX4_counted_14 ?_
    refine g_if_ne (pc := 17) o 22 dX4_counted_17 (by decide) (fun q17 => ?_) (fun q17 => ?_)
    · have g2 := bi_nz.mp q17
      refine g_aload_n (pc := 22) o 0 dX4_counted_22 rfl rfl ?_
      refine g_getI (pc := 23) o flRX4_130 rfl (by omega) dX4_counted_23 ?_
      refine g_bipush (pc := 26) (v := 6) o dX4_counted_26 (by decide) ?_
      refine g_icmp_ne (pc := 28) o 34 dX4_counted_28 (by decide) (fun q28 => ?_) (fun q28 => ?_)
      · have g3 := mt (eq_N (b := 6) (by omega) (by decide) hcn rfl).mpr q28
        refine g_aload_n (pc := 34) o 0 dX4_counted_34 rfl rfl ?_
        refine g_getR (pc := 35) o flRX4_32 rfl (by omega) y10 dX4_counted_35 ?_
        refine g_aload_n (pc := 38) o 0 dX4_counted_38 rfl rfl ?_
        refine g_getI (pc := 39) o flRX4_130 rfl (by omega) dX4_counted_39 ?_
        refine g_bipush (pc := 42) (v := 8) o dX4_counted_42 (by decide) ?_
        refine g_iload_n (pc := 44) o 1 dX4_counted_44 rfl rfl ?_
        refine g_imul (pc := 45) o dX4_counted_45 ?_
        refine g_iload_n (pc := 46) o 2 dX4_counted_46 rfl rfl ?_
        refine g_iadd (pc := 47) o dX4_counted_47 ?_
        refine g_iast (pc := 48) o (cn) rfl (by omega) hcn (by omega) dX4_counted_48 ?_
        refine g_aload_n (pc := 49) o 0 dX4_counted_49 rfl rfl ?_
        refine g_dup (pc := 50) o dX4_counted_50 rfl ?_
        refine g_getI (pc := 51) o flRX4_130 rfl (by omega) dX4_counted_51 ?_
        refine g_iconst (pc := 54) (v := 1) o dX4_counted_54 (by decide) ?_
        refine g_iadd (pc := 55) o dX4_counted_55 ?_
        refine g_putI (pc := 56) o flRX4_130 rfl rfl (by omega) rfl rfl dX4_counted_56 ?_
        refine g_aload_n (pc := 59) o 0 dX4_counted_59 rfl rfl ?_
        refine g_getI (pc := 60) o flRX4_130 rfl (by omega) dX4_counted_60 ?_
        exact g_iret (pc := 63) o f dX4_counted_63 rfl (by unfold aCounted; rw [if_pos ⟨g, g2⟩, if_pos (show cn < 6 by omega), nI_succ cn, ← hcn]; rfl) (by unfold nCounted; rw [if_pos ⟨⟨g, g2⟩, show cn < 6 by omega⟩, nI_succ cn, ← hcn]; rfl)
      · have g3 := (eq_N (b := 6) (by omega) (by decide) hcn rfl).mp q28
        refine g_bipush (pc := 31) (v := -3) o dX4_counted_31 (by decide) ?_
        exact g_iret (pc := 33) o f dX4_counted_33 rfl (by unfold aCounted; rw [if_pos ⟨g, g2⟩, if_neg (by omega)]) (by unfold nCounted; rw [if_neg (fun hh => absurd hh.2 (by omega))])
    · have g2 := bi_z.mp q17
      refine g_iconst (pc := 20) (v := -1) o dX4_counted_20 (by decide) ?_
      exact g_iret (pc := 21) o f dX4_counted_21 rfl (by unfold aCounted; rw [if_neg (by intro hh; first | exact g hh.1 | exact g2 hh.2 | exact g hh.1.1 | exact g2 hh.1.2)]) (by unfold nCounted; rw [if_neg (by intro hh; first | exact g hh.1 | exact g2 hh.2 | exact g hh.1.1 | exact g2 hh.1.2)])

end M17
