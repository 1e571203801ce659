section M5
variable {Λ : PL} {d n : Nat} {M : HM} {Rf : HR} {Lg : HL}

abbrev inn (v : Int32) (N : Nat) : Prop := 0 ≤ v.toInt ∧ v.toInt < (N : Int)
theorem inn_of {v : Int32} {N : Nat} (h : inn v N) (hN : N < 2147483648) : ∃ j, j < N ∧ v = nI j := vp_in_of (vp_in_iff.mpr h) hN
theorem inn_nI {j N : Nat} (h : j < N) (hN : N < 2147483648) : inn (nI j) N := vp_in_iff.mp (vp_in_nI h hN)
theorem sw_cases (v : Int32) (N : Nat) (hN : N < 2147483648) : (v.toInt < 0 ∨ (N : Int) - 1 < v.toInt) ∨ ∃ k, k < N ∧ v = nI k := by
  by_cases h : inn v N
  · exact Or.inr (inn_of h hN)
  · left
    unfold inn at h
    omega
theorem inn_neg {v : Int32} {N : Nat} (h : v.toInt < 0 ∨ (N : Int) - 1 < v.toInt) : ¬ inn v N := by unfold inn; omega
/-- a table of answers -/
def tbv (v : Int32) (N : Nat) (f : Nat → Int32) (z : Int32) : Int32 := if inn v N then f v.toNatClampNeg else z
theorem tbv_in {j N : Nat} {f : Nat → Int32} {z : Int32} (h : j < N) (hN : N < 2147483648) : tbv (nI j) N f z = f j := by
  unfold tbv; rw [if_pos (inn_nI h hN), nI_clamp (by omega)]
theorem tbv_out {v : Int32} {N : Nat} {f : Nat → Int32} {z : Int32} (h : ¬ inn v N) : tbv v N f z = z := if_neg h
theorem inn_lt {v : Int32} {N : Nat} (hN : N < 2147483648) {x : Int32} (hx : x = nI N) (h0 : ¬ v < 0) (h : v < x) : inn v N := by
  rw [hx, Int32.lt_iff_toInt_lt, nI_toInt hN] at h
  rw [Int32.lt_iff_toInt_lt] at h0
  exact ⟨by simpa using h0, h⟩
theorem inn_ge {v : Int32} {N : Nat} (hN : N < 2147483648) {x : Int32} (hx : x = nI N) (h : x ≤ v) : ¬ inn v N := by
  rw [hx, Int32.le_iff_toInt_le, nI_toInt hN] at h
  unfold inn; omega
theorem inn_lt0 {v : Int32} {N : Nat} (h : v < 0) : ¬ inn v N := by
  rw [Int32.lt_iff_toInt_lt] at h
  have : v.toInt < 0 := by simpa using h
  unfold inn; omega
theorem inn_le {v : Int32} {N : Nat} {x : Int32} (hN : N < 2147483647) (hx : x = nI N) (h0 : ¬ v < 0) (h : v ≤ x) : inn v (N + 1) := by
  rw [hx, Int32.le_iff_toInt_le, nI_toInt (by omega)] at h
  rw [Int32.lt_iff_toInt_lt] at h0
  exact ⟨by simpa using h0, by omega⟩
theorem inn_gt {v : Int32} {N : Nat} {x : Int32} (hN : N < 2147483647) (hx : x = nI N) (h : x < v) : ¬ inn v (N + 1) := by
  rw [hx, Int32.lt_iff_toInt_lt, nI_toInt (by omega)] at h
  unfold inn; omega
def RX (Rf : HR) (t : Nat) : Prop := Rf 0 0 = some 1 ∧ Rf 0 1 = some t ∧ Rf 0 3 = some 28 ∧ Rf 0 4 = some 32 ∧ Rf 0 5 = some 36 ∧ Rf 0 8 = some 37 ∧ Rf 0 9 = some 38 ∧ Rf 0 10 = some 39 ∧ Rf 0 11 = some 40 ∧ Rf 0 13 = some 41 ∧ Rf 0 14 = some 42 ∧ Rf 0 15 = some 47 ∧ (∀ a ∈ nows, RNi Rf a) ∧ RCi Rf 4 ∧ RCi Rf 16 ∧ (∀ i, i < 10 → Rf 36 i = some (48 + 4 * i)) ∧ (∀ i, i < 2 → Rf 37 i = some (88 + 4 * i)) ∧ (∀ i, i < 4 → Rf 42 i = some (43 + i)) ∧ Rf 1 0 = some 2 ∧ Rf 1 6 = some 3
/-- the class's own, as far as the answers go: city, present -/
def XB (M : HM) (Rf : HR) (n t : Nat) (T S : Nat → Nat) (b : Nat) : Prop := RX Rf t ∧ (t = 4 ∨ t = 16) ∧ 96 ≤ n ∧ okT T ∧ cyT M t T ∧ cyR M t T ∧ nwS M 28 S (T 2) ∧ okS S (T 2) b ∧ b ≤ 1000
theorem RX.city {Rf : HR} {t : Nat} (h : RX Rf t) (ht : t = 4 ∨ t = 16) : RCi Rf t := by
  rcases ht with rfl | rfl
  · exact h.2.2.2.2.2.2.2.2.2.2.2.2.2.1
  · exact h.2.2.2.2.2.2.2.2.2.2.2.2.2.2.1
theorem RX.now {Rf : HR} {t : Nat} (h : RX Rf t) {a : Nat} (ha : a ∈ nows) : RNi Rf a := h.2.2.2.2.2.2.2.2.2.2.2.2.1 a ha
theorem in28 : 28 ∈ nows := by decide
theorem in32 : 32 ∈ nows := by decide

set_option maxHeartbeats 2000000 in
set_option maxRecDepth 20000 in
theorem cX3isCitizen {t b : Nat} {T S : Nat → Nat} (xb : XB M Rf n t T S b) {v : Int32} : Ret Λ (d) mX3_isCitizen [.ref 0, .int v] (n, M, Rf, Lg) (some (.int (bi (inn v (T 2))))) (n, M, Rf, Lg) 0 0 := by
  refine Ret.of rfl rfl rfl (fun κ o f hin => ?_)
  obtain ⟨hx, hc, hn, ht, hm, hr, hs, os, hb9⟩ := id xb
  have rc := hx.city hc
  obtain ⟨x0, x1, x3, x4, x5, x8, x9, x10, x11, x13, x14, x15, xN, xC4, xC16, xP, xI, xT, xL, xNm⟩ := id hx
  obtain ⟨r3, r4, r6, r7, r8, r9, r11, r12, r13, r14, r15⟩ := id rc
  obtain ⟨z0, z1, z2, z3, z4, z5, z6, z7, z8, z9, z10, z11⟩ := city_shp hc
  obtain ⟨⟨t0, t0b⟩, t1, t2, t3, tD, tC, tN⟩ := id ht
  obtain ⟨m0, m1, m5, m10, mb, mj, mc, mn, ml⟩ := id hm
  have ra := xN 28 in28
  have rt := xN 32 in32
  obtain ⟨u3, u4, u5⟩ := id ra
  obtain ⟨v3, v4, v5⟩ := id rt
  obtain ⟨s0, s1, s2, sc⟩ := id hs
  obtain ⟨os0, os1, os2, osc⟩ := id os
  refine g_iload_n (pc := 0) o 1 dX3_isCitizen_0 rfl rfl ?_
  refine g_if_lt (pc := 1) o 19 dX3_isCitizen_1 (by decide) (fun q1 => ?_) (fun q1 => ?_)
  · refine g_iconst (pc := 19) (v := 0) o dX3_isCitizen_19 (by decide) ?_
    exact g_iret (pc := 20) o f dX3_isCitizen_20 rfl (by first | exact (bi_t (inn_lt (by omega) m5 q1 (Int32.not_le.mp q12))).symm | exact (bi_f (inn_ge (by omega) m5 q12)).symm | exact (bi_f (inn_lt0 q1)).symm) rfl
  · refine g_iload_n (pc := 4) o 1 dX3_isCitizen_4 rfl rfl ?_
    refine g_aload_n (pc := 5) o 0 dX3_isCitizen_5 rfl rfl ?_
    refine g_getR (pc := 6) o flRX3_19 (by first | assumption | rfl) (by first | assumption | omega) (by assumption) dX3_isCitizen_6 ?_
    refine g_getI (pc := 9) o flRX3_146 (by first | assumption | rfl) (by first | assumption | omega) dX3_isCitizen_9 ?_
    refine g_icmp_ge (pc := 12) o 19 dX3_isCitizen_12 (by decide) (fun q12 => ?_) (fun q12 => ?_)
    · refine g_iconst (pc := 19) (v := 0) o dX3_isCitizen_19 (by decide) ?_
      exact g_iret (pc := 20) o f dX3_isCitizen_20 rfl (by first | exact (bi_t (inn_lt (by omega) m5 q1 (Int32.not_le.mp q12))).symm | exact (bi_f (inn_ge (by omega) m5 q12)).symm | exact (bi_f (inn_lt0 q1)).symm) rfl
    · refine g_iconst (pc := 15) (v := 1) o dX3_isCitizen_15 (by decide) ?_
      refine g_goto (pc := 16) o 20 dX3_isCitizen_16 (by decide) ?_
      exact g_iret (pc := 20) o f dX3_isCitizen_20 rfl (by first | exact (bi_t (inn_lt (by omega) m5 q1 (Int32.not_le.mp q12))).symm | exact (bi_f (inn_ge (by omega) m5 q12)).symm | exact (bi_f (inn_lt0 q1)).symm) rfl

set_option maxHeartbeats 2000000 in
set_option maxRecDepth 20000 in
theorem cX3isDistrict {t b : Nat} {T S : Nat → Nat} (xb : XB M Rf n t T S b) {v : Int32} : Ret Λ (d) mX3_isDistrict [.ref 0, .int v] (n, M, Rf, Lg) (some (.int (bi (inn v (T 0))))) (n, M, Rf, Lg) 0 0 := by
  refine Ret.of rfl rfl rfl (fun κ o f hin => ?_)
  obtain ⟨hx, hc, hn, ht, hm, hr, hs, os, hb9⟩ := id xb
  have rc := hx.city hc
  obtain ⟨x0, x1, x3, x4, x5, x8, x9, x10, x11, x13, x14, x15, xN, xC4, xC16, xP, xI, xT, xL, xNm⟩ := id hx
  obtain ⟨r3, r4, r6, r7, r8, r9, r11, r12, r13, r14, r15⟩ := id rc
  obtain ⟨z0, z1, z2, z3, z4, z5, z6, z7, z8, z9, z10, z11⟩ := city_shp hc
  obtain ⟨⟨t0, t0b⟩, t1, t2, t3, tD, tC, tN⟩ := id ht
  obtain ⟨m0, m1, m5, m10, mb, mj, mc, mn, ml⟩ := id hm
  have ra := xN 28 in28
  have rt := xN 32 in32
  obtain ⟨u3, u4, u5⟩ := id ra
  obtain ⟨v3, v4, v5⟩ := id rt
  obtain ⟨s0, s1, s2, sc⟩ := id hs
  obtain ⟨os0, os1, os2, osc⟩ := id os
  refine g_iload_n (pc := 0) o 1 dX3_isDistrict_0 rfl rfl ?_
  refine g_if_lt (pc := 1) o 19 dX3_isDistrict_1 (by decide) (fun q1 => ?_) (fun q1 => ?_)
  · refine g_iconst (pc := 19) (v := 0) o dX3_isDistrict_19 (by decide) ?_
    exact g_iret (pc := 20) o f dX3_isDistrict_20 rfl (by first | exact (bi_t (inn_lt (by omega) m0 q1 (Int32.not_le.mp q12))).symm | exact (bi_f (inn_ge (by omega) m0 q12)).symm | exact (bi_f (inn_lt0 q1)).symm) rfl
  · refine g_iload_n (pc := 4) o 1 dX3_isDistrict_4 rfl rfl ?_
    refine g_aload_n (pc := 5) o 0 dX3_isDistrict_5 rfl rfl ?_
    refine g_getR (pc := 6) o flRX3_19 (by first | assumption | rfl) (by first | assumption | omega) (by assumption) dX3_isDistrict_6 ?_
    refine g_getI (pc := 9) o flRX3_149 (by first | assumption | rfl) (by first | assumption | omega) dX3_isDistrict_9 ?_
    refine g_icmp_ge (pc := 12) o 19 dX3_isDistrict_12 (by decide) (fun q12 => ?_) (fun q12 => ?_)
    · refine g_iconst (pc := 19) (v := 0) o dX3_isDistrict_19 (by decide) ?_
      exact g_iret (pc := 20) o f dX3_isDistrict_20 rfl (by first | exact (bi_t (inn_lt (by omega) m0 q1 (Int32.not_le.mp q12))).symm | exact (bi_f (inn_ge (by omega) m0 q12)).symm | exact (bi_f (inn_lt0 q1)).symm) rfl
    · refine g_iconst (pc := 15) (v := 1) o dX3_isDistrict_15 (by decide) ?_
      refine g_goto (pc := 16) o 20 dX3_isDistrict_16 (by decide) ?_
      exact g_iret (pc := 20) o f dX3_isDistrict_20 rfl (by first | exact (bi_t (inn_lt (by omega) m0 q1 (Int32.not_le.mp q12))).symm | exact (bi_f (inn_ge (by omega) m0 q12)).symm | exact (bi_f (inn_lt0 q1)).symm) rfl

def aDistrict (T : Nat → Nat) (v w : Int32) : Int32 := tbv v (T 0) (fun j => if w = 0 then nI (T (10 + j)) else if w = 1 then nI (T (6 + j)) else -1) (-1)
set_option maxHeartbeats 2000000 in
set_option maxRecDepth 20000 in
theorem cX3district {t b : Nat} {T S : Nat → Nat} (xb : XB M Rf n t T S b) {v w : Int32} : Ret Λ (d + 1) mX3_district [.ref 0, .int v, .int w] (n, M, Rf, Lg) (some (.int (aDistrict T v w))) (n, M, Rf, Lg) 0 0 := by
  refine Ret.of rfl rfl rfl (fun κ o f hin => ?_)
  obtain ⟨hx, hc, hn, ht, hm, hr, hs, os, hb9⟩ := id xb
  have rc := hx.city hc
  obtain ⟨x0, x1, x3, x4, x5, x8, x9, x10, x11, x13, x14, x15, xN, xC4, xC16, xP, xI, xT, xL, xNm⟩ := id hx
  obtain ⟨r3, r4, r6, r7, r8, r9, r11, r12, r13, r14, r15⟩ := id rc
  obtain ⟨z0, z1, z2, z3, z4, z5, z6, z7, z8, z9, z10, z11⟩ := city_shp hc
  obtain ⟨⟨t0, t0b⟩, t1, t2, t3, tD, tC, tN⟩ := id ht
  obtain ⟨m0, m1, m5, m10, mb, mj, mc, mn, ml⟩ := id hm
  have ra := xN 28 in28
  have rt := xN 32 in32
  obtain ⟨u3, u4, u5⟩ := id ra
  obtain ⟨v3, v4, v5⟩ := id rt
  obtain ⟨s0, s1, s2, sc⟩ := id hs
  obtain ⟨os0, os1, os2, osc⟩ := id os
  refine g_aload_n (pc := 0) o 0 dX3_district_0 rfl rfl ?_
  refine g_iload_n (pc := 1) o 1 dX3_district_1 rfl rfl ?_
  refine g_V1i (pc := 2) o lkRX3_87 cmX3_isDistrict (cX3isDistrict xb) (by first | assumption | rfl) (by first | assumption | omega) rfl rfl ⟨Nat.le_refl _, Nat.le_refl _⟩ dX3_district_2 ?_
  refine g_if_ne (pc := 5) o 10 dX3_district_5 (by decide) (fun q5 => ?_) (fun q5 => ?_)
  · obtain ⟨j, hj, rfl⟩ := inn_of (bi_nz.mp q5) (by omega)
    refine g_iload_n (pc := 10) o 2 dX3_district_10 rfl rfl ?_
    by_cases e0 : w = 0
    · subst e0
      refine g_look (pc := 11) o 36 dX3_district_11 (by decide) rfl (by decide) ?_
      refine g_aload_n (pc := 36) o 0 dX3_district_36 rfl rfl ?_
      refine g_getR (pc := 37) o flRX3_19 (by first | assumption | rfl) (by first | assumption | omega) (by assumption) dX3_district_37 ?_
      refine g_getR (pc := 40) o flRX3_91 (by first | assumption | rfl) (by first | assumption | omega) (by assumption) dX3_district_40 ?_
      refine g_iload_n (pc := 43) o 1 dX3_district_43 rfl rfl ?_
      refine g_iald (pc := 44) o (j) (by first | assumption | rfl) (by first | assumption | omega) rfl (by omega) dX3_district_44 ?_
      exact g_iret (pc := 45) o f dX3_district_45 rfl (by rw [mb j (by omega)]; unfold aDistrict; rw [tbv_in hj (by omega)]; rfl) rfl
    · by_cases e1 : w = 1
      · subst e1
        refine g_look (pc := 11) o 46 dX3_district_11 (by decide) rfl (by decide) ?_
        refine g_aload_n (pc := 46) o 0 dX3_district_46 rfl rfl ?_
        refine g_getR (pc := 47) o flRX3_19 (by first | assumption | rfl) (by first | assumption | omega) (by assumption) dX3_district_47 ?_
        refine g_getR (pc := 50) o flRX3_94 (by first | assumption | rfl) (by first | assumption | omega) (by assumption) dX3_district_50 ?_
        refine g_iload_n (pc := 53) o 1 dX3_district_53 rfl rfl ?_
        refine g_iald (pc := 54) o (j) (by first | assumption | rfl) (by first | assumption | omega) rfl (by omega) dX3_district_54 ?_
        exact g_iret (pc := 55) o f dX3_district_55 rfl (by rw [mj j (by omega)]; unfold aDistrict; rw [tbv_in hj (by omega)]; rfl) rfl
      · refine g_look (pc := 11) (off := 45) o 56 dX3_district_11 (by decide) (by rw [show (#[((0 : Int), (25 : Int)), (1, 35)] : Array (Int × Int)).toList = [(0, 25), (1, 35)] from rfl, lv_osw (a := 0) e0 (by decide), lv_osw (a := 1) e1 (by decide)]; rfl) (by decide) ?_
        refine g_iconst (pc := 56) (v := -1) o dX3_district_56 (by decide) ?_
        exact g_iret (pc := 57) o f dX3_district_57 rfl (by unfold aDistrict; rw [tbv_in hj (by omega), if_neg e0, if_neg e1]) rfl
  · refine g_iconst (pc := 8) (v := -1) o dX3_district_8 (by decide) ?_
    exact g_iret (pc := 9) o f dX3_district_9 rfl (by unfold aDistrict; rw [tbv_out (bi_z.mp q5)]) rfl

def fCit (T S : Nat → Nat) (j k : Nat) : Int32 := match k with
  | 0 => nI (T (14 + j))
  | 1 => nI (S (3 + j))
  | 2 => nI (T (26 + j))
  | 3 => nI (T (32 + j))
  | 4 => nI (S (9 + j))
  | _ => nI (S (15 + j))
def aCitizen (T S : Nat → Nat) (v w : Int32) : Int32 := tbv v (T 2) (fun j => tbv w 6 (fCit T S j) (-1)) (-1)
set_option maxHeartbeats 2000000 in
set_option maxRecDepth 20000 in
theorem cX3citizen {t b : Nat} {T S : Nat → Nat} (xb : XB M Rf n t T S b) {v w : Int32} : Ret Λ (d + 1) mX3_citizen [.ref 0, .int v, .int w] (n, M, Rf, Lg) (some (.int (aCitizen T S v w))) (n, M, Rf, Lg) 0 0 := by
  refine Ret.of rfl rfl rfl (fun κ o f hin => ?_)
  obtain ⟨hx, hc, hn, ht, hm, hr, hs, os, hb9⟩ := id xb
  have rc := hx.city hc
  obtain ⟨x0, x1, x3, x4, x5, x8, x9, x10, x11, x13, x14, x15, xN, xC4, xC16, xP, xI, xT, xL, xNm⟩ := id hx
  obtain ⟨r3, r4, r6, r7, r8, r9, r11, r12, r13, r14, r15⟩ := id rc
  obtain ⟨z0, z1, z2, z3, z4, z5, z6, z7, z8, z9, z10, z11⟩ := city_shp hc
  obtain ⟨⟨t0, t0b⟩, t1, t2, t3, tD, tC, tN⟩ := id ht
  obtain ⟨m0, m1, m5, m10, mb, mj, mc, mn, ml⟩ := id hm
  have ra := xN 28 in28
  have rt := xN 32 in32
  obtain ⟨u3, u4, u5⟩ := id ra
  obtain ⟨v3, v4, v5⟩ := id rt
  obtain ⟨s0, s1, s2, sc⟩ := id hs
  obtain ⟨os0, os1, os2, osc⟩ := id os
  refine g_aload_n (pc := 0) o 0 dX3_citizen_0 rfl rfl ?_
  refine g_iload_n (pc := 1) o 1 dX3_citizen_1 rfl rfl ?_
  refine g_V1i (pc := 2) o lkRX3_97 cmX3_isCitizen (cX3isCitizen xb) (by first | assumption | rfl) (by first | assumption | omega) rfl rfl ⟨Nat.le_refl _, Nat.le_refl _⟩ dX3_citizen_2 ?_
  refine g_if_ne (pc := 5) o 10 dX3_citizen_5 (by decide) (fun q5 => ?_) (fun q5 => ?_)
  · obtain ⟨j, hj, rfl⟩ := inn_of (bi_nz.mp q5) (by omega)
    refine g_iload_n (pc := 10) o 2 dX3_citizen_10 rfl rfl ?_
    rcases sw_cases w 6 (by decide) with hsw | ⟨kk, hkk, rfl⟩
    · refine g_tabO (pc := 11) o 108 dX3_citizen_11 (by first | exact hsw | omega) (by decide) ?_
      refine g_iconst (pc := 108) (v := -1) o dX3_citizen_108 (by decide) ?_
      exact g_iret (pc := 109) o f dX3_citizen_109 rfl (by unfold aCitizen; rw [tbv_in hj (by omega), tbv_out (inn_neg hsw)]) rfl
    · match kk, hkk with
      | 0, _ =>
        refine g_tabI (pc := 11) o 48 dX3_citizen_11 (by decide) (by decide) rfl (by decide) ?_
        refine g_aload_n (pc := 48) o 0 dX3_citizen_48 rfl rfl ?_
        refine g_getR (pc := 49) o flRX3_19 (by first | assumption | rfl) (by first | assumption | omega) (by assumption) dX3_citizen_49 ?_
        refine g_getR (pc := 52) o flRX3_100 (by first | assumption | rfl) (by first | assumption | omega) (by assumption) dX3_citizen_52 ?_
        refine g_iload_n (pc := 55) o 1 dX3_citizen_55 rfl rfl ?_
        refine g_iald (pc := 56) o (j) (by first | assumption | rfl) (by first | assumption | omega) rfl (by omega) dX3_citizen_56 ?_
        exact g_iret (pc := 57) o f dX3_citizen_57 rfl (by rw [(mc j hj).1]; unfold aCitizen; rw [tbv_in hj (by omega), tbv_in (by decide) (by decide)]; rfl) rfl
      | 1, _ =>
        refine g_tabI (pc := 11) o 58 dX3_citizen_11 (by decide) (by decide) rfl (by decide) ?_
        refine g_aload_n (pc := 58) o 0 dX3_citizen_58 rfl rfl ?_
        refine g_getR (pc := 59) o flRX3_29 (by first | assumption | rfl) (by first | assumption | omega) (by assumption) dX3_citizen_59 ?_
        refine g_getR (pc := 62) o flRX3_103 (by first | assumption | rfl) (by first | assumption | omega) (by assumption) dX3_citizen_62 ?_
        refine g_iload_n (pc := 65) o 1 dX3_citizen_65 rfl rfl ?_
        refine g_iald (pc := 66) o (j) (by first | assumption | rfl) (by first | assumption | omega) rfl (by omega) dX3_citizen_66 ?_
        exact g_iret (pc := 67) o f dX3_citizen_67 rfl (by rw [(sc j hj).1]; unfold aCitizen; rw [tbv_in hj (by omega), tbv_in (by decide) (by decide)]; rfl) rfl
      | 2, _ =>
        refine g_tabI (pc := 11) o 68 dX3_citizen_11 (by decide) (by decide) rfl (by decide) ?_
        refine g_aload_n (pc := 68) o 0 dX3_citizen_68 rfl rfl ?_
        refine g_getR (pc := 69) o flRX3_19 (by first | assumption | rfl) (by first | assumption | omega) (by assumption) dX3_citizen_69 ?_
        refine g_getR (pc := 72) o flRX3_106 (by first | assumption | rfl) (by first | assumption | omega) (by assumption) dX3_citizen_72 ?_
        refine g_iload_n (pc := 75) o 1 dX3_citizen_75 rfl rfl ?_
        refine g_iald (pc := 76) o (j) (by first | assumption | rfl) (by first | assumption | omega) rfl (by omega) dX3_citizen_76 ?_
        exact g_iret (pc := 77) o f dX3_citizen_77 rfl (by rw [(mc j hj).2.2.1]; unfold aCitizen; rw [tbv_in hj (by omega), tbv_in (by decide) (by decide)]; rfl) rfl
      | 3, _ =>
        refine g_tabI (pc := 11) o 78 dX3_citizen_11 (by decide) (by decide) rfl (by decide) ?_
        refine g_aload_n (pc := 78) o 0 dX3_citizen_78 rfl rfl ?_
        refine g_getR (pc := 79) o flRX3_19 (by first | assumption | rfl) (by first | assumption | omega) (by assumption) dX3_citizen_79 ?_
        refine g_getR (pc := 82) o flRX3_109 (by first | assumption | rfl) (by first | assumption | omega) (by assumption) dX3_citizen_82 ?_
        refine g_iload_n (pc := 85) o 1 dX3_citizen_85 rfl rfl ?_
        refine g_iald (pc := 86) o (j) (by first | assumption | rfl) (by first | assumption | omega) rfl (by omega) dX3_citizen_86 ?_
        exact g_iret (pc := 87) o f dX3_citizen_87 rfl (by rw [(mc j hj).2.2.2]; unfold aCitizen; rw [tbv_in hj (by omega), tbv_in (by decide) (by decide)]; rfl) rfl
      | 4, _ =>
        refine g_tabI (pc := 11) o 88 dX3_citizen_11 (by decide) (by decide) rfl (by decide) ?_
        refine g_aload_n (pc := 88) o 0 dX3_citizen_88 rfl rfl ?_
        refine g_getR (pc := 89) o flRX3_29 (by first | assumption | rfl) (by first | assumption | omega) (by assumption) dX3_citizen_89 ?_
        refine g_getR (pc := 92) o flRX3_112 (by first | assumption | rfl) (by first | assumption | omega) (by assumption) dX3_citizen_92 ?_
        refine g_iload_n (pc := 95) o 1 dX3_citizen_95 rfl rfl ?_
        refine g_iald (pc := 96) o (j) (by first | assumption | rfl) (by first | assumption | omega) rfl (by omega) dX3_citizen_96 ?_
        exact g_iret (pc := 97) o f dX3_citizen_97 rfl (by rw [(sc j hj).2.1]; unfold aCitizen; rw [tbv_in hj (by omega), tbv_in (by decide) (by decide)]; rfl) rfl
      | 5, _ =>
        refine g_tabI (pc := 11) o 98 dX3_citizen_11 (by decide) (by decide) rfl (by decide) ?_
        refine g_aload_n (pc := 98) o 0 dX3_citizen_98 rfl rfl ?_
        refine g_getR (pc := 99) o flRX3_29 (by first | assumption | rfl) (by first | assumption | omega) (by assumption) dX3_citizen_99 ?_
        refine g_getR (pc := 102) o flRX3_115 (by first | assumption | rfl) (by first | assumption | omega) (by assumption) dX3_citizen_102 ?_
        refine g_iload_n (pc := 105) o 1 dX3_citizen_105 rfl rfl ?_
        refine g_iald (pc := 106) o (j) (by first | assumption | rfl) (by first | assumption | omega) rfl (by omega) dX3_citizen_106 ?_
        exact g_iret (pc := 107) o f dX3_citizen_107 rfl (by rw [(sc j hj).2.2]; unfold aCitizen; rw [tbv_in hj (by omega), tbv_in (by decide) (by decide)]; rfl) rfl
  · refine g_iconst (pc := 8) (v := -1) o dX3_citizen_8 (by decide) ?_
    exact g_iret (pc := 9) o f dX3_citizen_9 rfl (by unfold aCitizen; rw [tbv_out (bi_z.mp q5)]) rfl

def fNoi (T : Nat → Nat) (j k : Nat) : Int32 := nI (T (38 + 6 * k + j))
def aNoise (T : Nat → Nat) (v w : Int32) : Int32 := tbv v (T 3) (fun j => tbv w 3 (fNoi T j) (-1)) (-1)
set_option maxHeartbeats 2000000 in
set_option maxRecDepth 20000 in
theorem cX3noise {t b : Nat} {T S : Nat → Nat} (xb : XB M Rf n t T S b) {v w : Int32} : Ret Λ (d) mX3_noise [.ref 0, .int v, .int w] (n, M, Rf, Lg) (some (.int (aNoise T v w))) (n, M, Rf, Lg) 0 0 := by
  refine Ret.of rfl rfl rfl (fun κ o f hin => ?_)
  obtain ⟨hx, hc, hn, ht, hm, hr, hs, os, hb9⟩ := id xb
  have rc := hx.city hc
  obtain ⟨x0, x1, x3, x4, x5, x8, x9, x10, x11, x13, x14, x15, xN, xC4, xC16, xP, xI, xT, xL, xNm⟩ := id hx
  obtain ⟨r3, r4, r6, r7, r8, r9, r11, r12, r13, r14, r15⟩ := id rc
  obtain ⟨z0, z1, z2, z3, z4, z5, z6, z7, z8, z9, z10, z11⟩ := city_shp hc
  obtain ⟨⟨t0, t0b⟩, t1, t2, t3, tD, tC, tN⟩ := id ht
  obtain ⟨m0, m1, m5, m10, mb, mj, mc, mn, ml⟩ := id hm
  have ra := xN 28 in28
  have rt := xN 32 in32
  obtain ⟨u3, u4, u5⟩ := id ra
  obtain ⟨v3, v4, v5⟩ := id rt
  obtain ⟨s0, s1, s2, sc⟩ := id hs
  obtain ⟨os0, os1, os2, osc⟩ := id os
  refine g_iload_n (pc := 0) o 1 dX3_noise_0 rfl rfl ?_
  refine g_if_lt (pc := 1) o 15 dX3_noise_1 (by decide) (fun q1 => ?_) (fun q1 => ?_)
  · refine g_iconst (pc := 15) (v := -1) o dX3_noise_15 (by decide) ?_
    exact g_iret (pc := 16) o f dX3_noise_16 rfl (by unfold aNoise; first | rw [tbv_out (inn_lt0 q1)] | rw [tbv_out (inn_ge (by omega) m10 (Int32.not_lt.mp q12))]) rfl
  · refine g_iload_n (pc := 4) o 1 dX3_noise_4 rfl rfl ?_
    refine g_aload_n (pc := 5) o 0 dX3_noise_5 rfl rfl ?_
    refine g_getR (pc := 6) o flRX3_19 (by first | assumption | rfl) (by first | assumption | omega) (by assumption) dX3_noise_6 ?_
    refine g_getI (pc := 9) o flRX3_118 (by first | assumption | rfl) (by first | assumption | omega) dX3_noise_9 ?_
    refine g_icmp_lt (pc := 12) o 17 dX3_noise_12 (by decide) (fun q12 => ?_) (fun q12 => ?_)
    · obtain ⟨j, hj, rfl⟩ := inn_of (inn_lt (by omega) m10 q1 q12) (by omega)
      refine g_iload_n (pc := 17) o 2 dX3_noise_17 rfl rfl ?_
      rcases sw_cases w 3 (by decide) with hsw | ⟨kk, hkk, rfl⟩
      · refine g_tabO (pc := 18) o 74 dX3_noise_18 (by first | exact hsw | omega) (by decide) ?_
        refine g_iconst (pc := 74) (v := -1) o dX3_noise_74 (by decide) ?_
        exact g_iret (pc := 75) o f dX3_noise_75 rfl (by unfold aNoise; rw [tbv_in hj (by omega), tbv_out (inn_neg hsw)]) rfl
      · match kk, hkk with
        | 0, _ =>
          refine g_tabI (pc := 18) o 44 dX3_noise_18 (by decide) (by decide) rfl (by decide) ?_
          refine g_aload_n (pc := 44) o 0 dX3_noise_44 rfl rfl ?_
          refine g_getR (pc := 45) o flRX3_19 (by first | assumption | rfl) (by first | assumption | omega) (by assumption) dX3_noise_45 ?_
          refine g_getR (pc := 48) o flRX3_121 (by first | assumption | rfl) (by first | assumption | omega) (by assumption) dX3_noise_48 ?_
          refine g_iload_n (pc := 51) o 1 dX3_noise_51 rfl rfl ?_
          refine g_iald (pc := 52) o (j) (by first | assumption | rfl) (by first | assumption | omega) rfl (by omega) dX3_noise_52 ?_
          exact g_iret (pc := 53) o f dX3_noise_53 rfl (by rw [(mn j hj).1]; unfold aNoise; rw [tbv_in hj (by omega), tbv_in (by decide) (by decide)]; rfl) rfl
        | 1, _ =>
          refine g_tabI (pc := 18) o 54 dX3_noise_18 (by decide) (by decide) rfl (by decide) ?_
          refine g_aload_n (pc := 54) o 0 dX3_noise_54 rfl rfl ?_
          refine g_getR (pc := 55) o flRX3_19 (by first | assumption | rfl) (by first | assumption | omega) (by assumption) dX3_noise_55 ?_
          refine g_getR (pc := 58) o flRX3_124 (by first | assumption | rfl) (by first | assumption | omega) (by assumption) dX3_noise_58 ?_
          refine g_iload_n (pc := 61) o 1 dX3_noise_61 rfl rfl ?_
          refine g_iald (pc := 62) o (j) (by first | assumption | rfl) (by first | assumption | omega) rfl (by omega) dX3_noise_62 ?_
          exact g_iret (pc := 63) o f dX3_noise_63 rfl (by rw [(mn j hj).2.1]; unfold aNoise; rw [tbv_in hj (by omega), tbv_in (by decide) (by decide)]; rfl) rfl
        | 2, _ =>
          refine g_tabI (pc := 18) o 64 dX3_noise_18 (by decide) (by decide) rfl (by decide) ?_
          refine g_aload_n (pc := 64) o 0 dX3_noise_64 rfl rfl ?_
          refine g_getR (pc := 65) o flRX3_19 (by first | assumption | rfl) (by first | assumption | omega) (by assumption) dX3_noise_65 ?_
          refine g_getR (pc := 68) o flRX3_127 (by first | assumption | rfl) (by first | assumption | omega) (by assumption) dX3_noise_68 ?_
          refine g_iload_n (pc := 71) o 1 dX3_noise_71 rfl rfl ?_
          refine g_iald (pc := 72) o (j) (by first | assumption | rfl) (by first | assumption | omega) rfl (by omega) dX3_noise_72 ?_
          exact g_iret (pc := 73) o f dX3_noise_73 rfl (by rw [(mn j hj).2.2]; unfold aNoise; rw [tbv_in hj (by omega), tbv_in (by decide) (by decide)]; rfl) rfl
    · refine g_iconst (pc := 15) (v := -1) o dX3_noise_15 (by decide) ?_
      exact g_iret (pc := 16) o f dX3_noise_16 rfl (by unfold aNoise; first | rw [tbv_out (inn_lt0 q1)] | rw [tbv_out (inn_ge (by omega) m10 (Int32.not_lt.mp q12))]) rfl

/-- the first of those that slept most, least, of the first k -/
def mst (lt : Nat → Nat → Bool) (S : Nat → Nat) : Nat → Option Nat
  | 0 => none
  | k + 1 => match mst lt S k with
    | none => some k
    | some b => if lt (S (15 + b)) (S (15 + k)) then some k else some b
def opI (o : Option Nat) : Int32 := match o with
  | none => -9
  | some b => nI b
theorem mst_lt (lt : Nat → Nat → Bool) (S : Nat → Nat) : ∀ k b, mst lt S k = some b → b < k := by
  intro k
  induction k with
  | zero => intro b h; cases h
  | succ k ih =>
    intro b h
    simp only [mst] at h
    cases e : mst lt S k with
    | none => rw [e] at h; cases h; omega
    | some b0 =>
      rw [e] at h
      have := ih b0 e
      dsimp only at h
      split at h <;> cases h <;> omega
def ltB (a b : Nat) : Bool := decide (a < b)
def gtB (a b : Nat) : Bool := decide (b < a)
theorem opI_ne {b : Nat} (h : b < 1000) : ¬ opI (some b) = -9 := by
  intro q
  have h2 : (nI b).toInt = (-9 : Int32).toInt := congrArg Int32.toInt q
  rw [nI_toInt (by omega)] at h2
  have : (-9 : Int32).toInt = -9 := by decide
  omega
set_option maxHeartbeats 2000000 in
set_option maxRecDepth 20000 in
theorem cX3sleptMost {t b : Nat} {T S : Nat → Nat} (xb : XB M Rf n t T S b) : Ret Λ (d) mX3_sleptMost [.ref 0] (n, M, Rf, Lg) (some (.int (opI (mst ltB S (T 2))))) (n, M, Rf, Lg) 0 0 := by
  refine Ret.of rfl rfl rfl (fun κ o f hin => ?_)
  obtain ⟨hx, hc, hn, ht, hm, hr, hs, os, hb9⟩ := id xb
  have rc := hx.city hc
  obtain ⟨x0, x1, x3, x4, x5, x8, x9, x10, x11, x13, x14, x15, xN, xC4, xC16, xP, xI, xT, xL, xNm⟩ := id hx
  obtain ⟨r3, r4, r6, r7, r8, r9, r11, r12, r13, r14, r15⟩ := id rc
  obtain ⟨z0, z1, z2, z3, z4, z5, z6, z7, z8, z9, z10, z11⟩ := city_shp hc
  obtain ⟨⟨t0, t0b⟩, t1, t2, t3, tD, tC, tN⟩ := id ht
  obtain ⟨m0, m1, m5, m10, mb, mj, mc, mn, ml⟩ := id hm
  have ra := xN 28 in28
  have rt := xN 32 in32
  obtain ⟨u3, u4, u5⟩ := id ra
  obtain ⟨v3, v4, v5⟩ := id rt
  obtain ⟨s0, s1, s2, sc⟩ := id hs
  obtain ⟨os0, os1, os2, osc⟩ := id os
  have loop : ∀ k c : Nat, c ≤ T 2 → T 2 < c + k → G (Λ, κ) 5 [some (.ref 0), some (.int (opI (mst ltB S c))), some (.int (nI c))] [] (n, M, Rf, Lg) 0 0 := by
    intro k
    induction k with
    | zero => intro c h1 h2; exact absurd h2 (by omega)
    | succ k ih =>
      intro c h1 h2
      refine g_iload_n (pc := 5) o 2 dX3_sleptMost_5 rfl rfl ?_
      refine g_aload_n (pc := 6) o 0 dX3_sleptMost_6 rfl rfl ?_
      refine g_getR (pc := 7) o flRX3_19 (by first | assumption | rfl) (by first | assumption | omega) (by assumption) dX3_sleptMost_7 ?_
      refine g_getI (pc := 10) o flRX3_146 (by first | assumption | rfl) (by first | assumption | omega) dX3_sleptMost_10 ?_
      refine g_icmp_ge (pc := 13) o 51 dX3_sleptMost_13 (by decide) (fun q13 => ?_) (fun q13 => ?_)
      · have ec : c = T 2 := by have := (le_N (a := T 2) (b := c) (by omega) (by omega) m5 rfl).mp q13; omega
        refine g_iload_n (pc := 51) o 1 dX3_sleptMost_51 rfl rfl ?_
        exact g_iret (pc := 52) o f dX3_sleptMost_52 rfl (by rw [ec]) rfl
      · have hc1 : c < T 2 := by have := mt (le_N (a := T 2) (b := c) (by omega) (by omega) m5 rfl).mpr q13; omega
        refine g_iload_n (pc := 16) o 1 dX3_sleptMost_16 rfl rfl ?_
        refine g_bipush (pc := 17) (v := -9) o dX3_sleptMost_17 (by decide) ?_
        refine g_icmp_eq (pc := 19) o 43 dX3_sleptMost_19 (by decide) (fun q19 => ?_) (fun q19 => ?_)
        · have e1 : mst ltB S (c + 1) = some c := by
            simp only [mst]; cases e : mst ltB S c with
            | none => rfl
            | some b0 => rw [e] at q19; have hb0 := mst_lt _ _ _ _ e; exact absurd q19 (opI_ne (by omega))
          refine g_iload_n (pc := 43) o 2 dX3_sleptMost_43 rfl rfl ?_
          refine g_istore_n (pc := 44) o 1 dX3_sleptMost_44 rfl rfl ?_
          refine g_incN (pc := 45) o (c) dX3_sleptMost_45 rfl rfl ?_
          refine g_goto (pc := 48) o 5 dX3_sleptMost_48 (by decide) ?_
          refine g_eq rfl ?_ rfl rfl (ih (c + 1) (by omega) (by omega))
          rw [e1]; rfl
        · obtain ⟨b0, e0⟩ : ∃ b0, mst ltB S c = some b0 := by
            cases e : mst ltB S c with
            | none => rw [e] at q19; exact absurd rfl q19
            | some b0 => exact ⟨b0, rfl⟩
          have hb0 := mst_lt _ _ _ _ e0
          have g1 := osc c hc1
          have g2 := osc b0 (by omega)
          rw [show opI (mst ltB S c) = nI b0 from by rw [e0]; rfl]
          refine g_aload_n (pc := 22) o 0 dX3_sleptMost_22 rfl rfl ?_
          refine g_getR (pc := 23) o flRX3_29 (by first | assumption | rfl) (by first | assumption | omega) (by assumption) dX3_sleptMost_23 ?_
          refine g_getR (pc := 26) o flRX3_115 (by first | assumption | rfl) (by first | assumption | omega) (by assumption) dX3_sleptMost_26 ?_
          refine g_iload_n (pc := 29) o 2 dX3_sleptMost_29 rfl rfl ?_
          refine g_iald (pc := 30) o (c) (by first | assumption | rfl) (by first | assumption | omega) rfl (by omega) dX3_sleptMost_30 ?_
          rw [(sc c hc1).2.2]
          refine g_aload_n (pc := 31) o 0 dX3_sleptMost_31 rfl rfl ?_
          refine g_getR (pc := 32) o flRX3_29 (by first | assumption | rfl) (by first | assumption | omega) (by assumption) dX3_sleptMost_32 ?_
          refine g_getR (pc := 35) o flRX3_115 (by first | assumption | rfl) (by first | assumption | omega) (by assumption) dX3_sleptMost_35 ?_
          refine g_iload_n (pc := 38) o 1 dX3_sleptMost_38 rfl rfl ?_
          refine g_iald (pc := 39) o (b0) (by first | assumption | rfl) (by first | assumption | omega) rfl (by omega) dX3_sleptMost_39 ?_
          rw [(sc b0 (by omega)).2.2]
          refine g_icmp_le (pc := 40) o 45 dX3_sleptMost_40 (by decide) (fun q40 => ?_) (fun q40 => ?_)
          · have e1 : mst ltB S (c + 1) = some b0 := by simp only [mst, e0]; rw [if_neg]; have := (le_N (by omega) (by omega) rfl rfl).mp q40; simp [ltB]; omega
            refine g_incN (pc := 45) o (c) dX3_sleptMost_45 rfl rfl ?_
            refine g_goto (pc := 48) o 5 dX3_sleptMost_48 (by decide) ?_
            refine g_eq rfl ?_ rfl rfl (ih (c + 1) (by omega) (by omega))
            rw [e1]; rfl
          · have e1 : mst ltB S (c + 1) = some c := by simp only [mst, e0]; rw [if_pos]; have := mt (le_N (by omega) (by omega) rfl rfl).mpr q40; simp [ltB]; omega
            refine g_iload_n (pc := 43) o 2 dX3_sleptMost_43 rfl rfl ?_
            refine g_istore_n (pc := 44) o 1 dX3_sleptMost_44 rfl rfl ?_
            refine g_incN (pc := 45) o (c) dX3_sleptMost_45 rfl rfl ?_
            refine g_goto (pc := 48) o 5 dX3_sleptMost_48 (by decide) ?_
            refine g_eq rfl ?_ rfl rfl (ih (c + 1) (by omega) (by omega))
            rw [e1]; rfl
  refine g_bipush (pc := 0) (v := -9) o dX3_sleptMost_0 (by decide) ?_
  refine g_istore_n (pc := 2) o 1 dX3_sleptMost_2 rfl rfl ?_
  refine g_iconst (pc := 3) (v := 0) o dX3_sleptMost_3 (by decide) ?_
  refine g_istore_n (pc := 4) o 2 dX3_sleptMost_4 rfl rfl ?_
  exact loop (T 2 + 1) 0 (by omega) (by omega)

set_option maxHeartbeats 2000000 in
set_option maxRecDepth 20000 in
theorem cX3sleptLeast {t b : Nat} {T S : Nat → Nat} (xb : XB M Rf n t T S b) : Ret Λ (d) mX3_sleptLeast [.ref 0] (n, M, Rf, Lg) (some (.int (opI (mst gtB S (T 2))))) (n, M, Rf, Lg) 0 0 := by
  refine Ret.of rfl rfl rfl (fun κ o f hin => ?_)
  obtain ⟨hx, hc, hn, ht, hm, hr, hs, os, hb9⟩ := id xb
  have rc := hx.city hc
  obtain ⟨x0, x1, x3, x4, x5, x8, x9, x10, x11, x13, x14, x15, xN, xC4, xC16, xP, xI, xT, xL, xNm⟩ := id hx
  obtain ⟨r3, r4, r6, r7, r8, r9, r11, r12, r13, r14, r15⟩ := id rc
  obtain ⟨z0, z1, z2, z3, z4, z5, z6, z7, z8, z9, z10, z11⟩ := city_shp hc
  obtain ⟨⟨t0, t0b⟩, t1, t2, t3, tD, tC, tN⟩ := id ht
  obtain ⟨m0, m1, m5, m10, mb, mj, mc, mn, ml⟩ := id hm
  have ra := xN 28 in28
  have rt := xN 32 in32
  obtain ⟨u3, u4, u5⟩ := id ra
  obtain ⟨v3, v4, v5⟩ := id rt
  obtain ⟨s0, s1, s2, sc⟩ := id hs
  obtain ⟨os0, os1, os2, osc⟩ := id os
  have loop : ∀ k c : Nat, c ≤ T 2 → T 2 < c + k → G (Λ, κ) 5 [some (.ref 0), some (.int (opI (mst gtB S c))), some (.int (nI c))] [] (n, M, Rf, Lg) 0 0 := by
    intro k
    induction k with
    | zero => intro c h1 h2; exact absurd h2 (by omega)
    | succ k ih =>
      intro c h1 h2
      refine g_iload_n (pc := 5) o 2 dX3_sleptLeast_5 rfl rfl ?_
      refine g_aload_n (pc := 6) o 0 dX3_sleptLeast_6 rfl rfl ?_
      refine g_getR (pc := 7) o flRX3_19 (by first | assumption | rfl) (by first | assumption | omega) (by assumption) dX3_sleptLeast_7 ?_
      refine g_getI (pc := 10) o flRX3_146 (by first | assumption | rfl) (by first | assumption | omega) dX3_sleptLeast_10 ?_
      refine g_icmp_ge (pc := 13) o 51 dX3_sleptLeast_13 (by decide) (fun q13 => ?_) (fun q13 => ?_)
      · have ec : c = T 2 := by have := (le_N (a := T 2) (b := c) (by omega) (by omega) m5 rfl).mp q13; omega
        refine g_iload_n (pc := 51) o 1 dX3_sleptLeast_51 rfl rfl ?_
        exact g_iret (pc := 52) o f dX3_sleptLeast_52 rfl (by rw [ec]) rfl
      · have hc1 : c < T 2 := by have := mt (le_N (a := T 2) (b := c) (by omega) (by omega) m5 rfl).mpr q13; omega
        refine g_iload_n (pc := 16) o 1 dX3_sleptLeast_16 rfl rfl ?_
        refine g_bipush (pc := 17) (v := -9) o dX3_sleptLeast_17 (by decide) ?_
        refine g_icmp_eq (pc := 19) o 43 dX3_sleptLeast_19 (by decide) (fun q19 => ?_) (fun q19 => ?_)
        · have e1 : mst gtB S (c + 1) = some c := by
            simp only [mst]; cases e : mst gtB S c with
            | none => rfl
            | some b0 => rw [e] at q19; have hb0 := mst_lt _ _ _ _ e; exact absurd q19 (opI_ne (by omega))
          refine g_iload_n (pc := 43) o 2 dX3_sleptLeast_43 rfl rfl ?_
          refine g_istore_n (pc := 44) o 1 dX3_sleptLeast_44 rfl rfl ?_
          refine g_incN (pc := 45) o (c) dX3_sleptLeast_45 rfl rfl ?_
          refine g_goto (pc := 48) o 5 dX3_sleptLeast_48 (by decide) ?_
          refine g_eq rfl ?_ rfl rfl (ih (c + 1) (by omega) (by omega))
          rw [e1]; rfl
        · obtain ⟨b0, e0⟩ : ∃ b0, mst gtB S c = some b0 := by
            cases e : mst gtB S c with
            | none => rw [e] at q19; exact absurd rfl q19
            | some b0 => exact ⟨b0, rfl⟩
          have hb0 := mst_lt _ _ _ _ e0
          have g1 := osc c hc1
          have g2 := osc b0 (by omega)
          rw [show opI (mst gtB S c) = nI b0 from by rw [e0]; rfl]
          refine g_aload_n (pc := 22) o 0 dX3_sleptLeast_22 rfl rfl ?_
          refine g_getR (pc := 23) o flRX3_29 (by first | assumption | rfl) (by first | assumption | omega) (by assumption) dX3_sleptLeast_23 ?_
          refine g_getR (pc := 26) o flRX3_115 (by first | assumption | rfl) (by first | assumption | omega) (by assumption) dX3_sleptLeast_26 ?_
          refine g_iload_n (pc := 29) o 2 dX3_sleptLeast_29 rfl rfl ?_
          refine g_iald (pc := 30) o (c) (by first | assumption | rfl) (by first | assumption | omega) rfl (by omega) dX3_sleptLeast_30 ?_
          rw [(sc c hc1).2.2]
          refine g_aload_n (pc := 31) o 0 dX3_sleptLeast_31 rfl rfl ?_
          refine g_getR (pc := 32) o flRX3_29 (by first | assumption | rfl) (by first | assumption | omega) (by assumption) dX3_sleptLeast_32 ?_
          refine g_getR (pc := 35) o flRX3_115 (by first | assumption | rfl) (by first | assumption | omega) (by assumption) dX3_sleptLeast_35 ?_
          refine g_iload_n (pc := 38) o 1 dX3_sleptLeast_38 rfl rfl ?_
          refine g_iald (pc := 39) o (b0) (by first | assumption | rfl) (by first | assumption | omega) rfl (by omega) dX3_sleptLeast_39 ?_
          rw [(sc b0 (by omega)).2.2]
          refine g_icmp_ge (pc := 40) o 45 dX3_sleptLeast_40 (by decide) (fun q40 => ?_) (fun q40 => ?_)
          · have e1 : mst gtB S (c + 1) = some b0 := by simp only [mst, e0]; rw [if_neg]; have := (le_N (by omega) (by omega) rfl rfl).mp q40; simp [gtB]; omega
            refine g_incN (pc := 45) o (c) dX3_sleptLeast_45 rfl rfl ?_
            refine g_goto (pc := 48) o 5 dX3_sleptLeast_48 (by decide) ?_
            refine g_eq rfl ?_ rfl rfl (ih (c + 1) (by omega) (by omega))
            rw [e1]; rfl
          · have e1 : mst gtB S (c + 1) = some c := by simp only [mst, e0]; rw [if_pos]; have := mt (le_N (by omega) (by omega) rfl rfl).mpr q40; simp [gtB]; omega
            refine g_iload_n (pc := 43) o 2 dX3_sleptLeast_43 rfl rfl ?_
            refine g_istore_n (pc := 44) o 1 dX3_sleptLeast_44 rfl rfl ?_
            refine g_incN (pc := 45) o (c) dX3_sleptLeast_45 rfl rfl ?_
            refine g_goto (pc := 48) o 5 dX3_sleptLeast_48 (by decide) ?_
            refine g_eq rfl ?_ rfl rfl (ih (c + 1) (by omega) (by omega))
            rw [e1]; rfl
  refine g_bipush (pc := 0) (v := -9) o dX3_sleptLeast_0 (by decide) ?_
  refine g_istore_n (pc := 2) o 1 dX3_sleptLeast_2 rfl rfl ?_
  refine g_iconst (pc := 3) (v := 0) o dX3_sleptLeast_3 (by decide) ?_
  refine g_istore_n (pc := 4) o 2 dX3_sleptLeast_4 rfl rfl ?_
  exact loop (T 2 + 1) 0 (by omega) (by omega)

end M5
