section M6
variable {Λ : PL} {d n : Nat} {M : HM} {Rf : HR} {Lg : HL}

theorem past_in : ∀ i, i < 10 → 48 + 4 * i ∈ nows := by decide
theorem img_in : ∀ i, i < 2 → 88 + 4 * i ∈ nows := by decide
theorem cyT.kept {M M' : HM} {c : Nat} {T : Nat → Nat} (h : cyT M c T) (e : ∀ z, c ≤ z → z < c + 12 → M' z = M z) : cyT M' c T := by
  obtain ⟨m0, m1, m5, m10, mb, mj, mc, mn, ml⟩ := h
  refine ⟨?_, ?_, ?_, ?_, fun d hd => ?_, fun d hd => ?_, fun i hi => ⟨?_, ?_, ?_, ?_⟩, fun i hi => ⟨?_, ?_, ?_⟩, fun d hd => ?_⟩
  · rw [e c (by omega) (by omega)]; exact m0
  · rw [e c (by omega) (by omega)]; exact m1
  · rw [e c (by omega) (by omega)]; exact m5
  · rw [e c (by omega) (by omega)]; exact m10
  · rw [e _ (by omega) (by omega)]; exact mb d hd
  · rw [e _ (by omega) (by omega)]; exact mj d hd
  · rw [e _ (by omega) (by omega)]; exact (mc i hi).1
  · rw [e _ (by omega) (by omega)]; exact (mc i hi).2.1
  · rw [e _ (by omega) (by omega)]; exact (mc i hi).2.2.1
  · rw [e _ (by omega) (by omega)]; exact (mc i hi).2.2.2
  · rw [e _ (by omega) (by omega)]; exact (mn i hi).1
  · rw [e _ (by omega) (by omega)]; exact (mn i hi).2.1
  · rw [e _ (by omega) (by omega)]; exact (mn i hi).2.2
  · rw [e _ (by omega) (by omega)]; exact ml d hd
theorem nwS.kept {M M' : HM} {a : Nat} {S : Nat → Nat} {C : Nat} (h : nwS M a S C) (e : ∀ z, a ≤ z → z < a + 4 → M' z = M z) : nwS M' a S C := by
  obtain ⟨s0, s1, s2, sc⟩ := h
  refine ⟨?_, ?_, ?_, fun i hi => ⟨?_, ?_, ?_⟩⟩
  · rw [e _ (by omega) (by omega)]; exact s0
  · rw [e _ (by omega) (by omega)]; exact s1
  · rw [e _ (by omega) (by omega)]; exact s2
  · rw [e _ (by omega) (by omega)]; exact (sc i hi).1
  · rw [e _ (by omega) (by omega)]; exact (sc i hi).2.1
  · rw [e _ (by omega) (by omega)]; exact (sc i hi).2.2
theorem XB.kept {M M' : HM} {Rf : HR} {n t b : Nat} {T S : Nat → Nat} (h : XB M Rf n t T S b) (e : ∀ z, 4 ≤ z → z < 32 → M' z = M z) : XB M' Rf n t T S b := by
  obtain ⟨hx, hc, hn, ht, hm, hr, hs, os, hb⟩ := h
  exact ⟨hx, hc, hn, ht, hm.kept (fun z h1 h2 => e z (by omega) (by omega)), fun k hk => by rw [e _ (by omega) (by omega)]; exact hr k hk, hs.kept (fun z h1 h2 => e z (by omega) (by omega)), os, hb⟩
def fNow (T S : Nat → Nat) (pk k : Nat) : Int32 := match k with
  | 0 => nI (S 0)
  | 1 => nI (S 1)
  | 2 => nI (S 2)
  | 3 => opI (mst ltB S (T 2))
  | 4 => opI (mst gtB S (T 2))
  | _ => nI pk
def fCnt (T : Nat → Nat) (cn tl k : Nat) : Int32 := match k with
  | 0 => nI (T 0)
  | 1 => nI (T 1)
  | 2 => nI (T 2)
  | 3 => nI (T 3)
  | 4 => nI cn
  | _ => nI tl
set_option maxHeartbeats 2000000 in
set_option maxRecDepth 20000 in
theorem cX3now {t b : Nat} {T S : Nat → Nat} (xb : XB M Rf n t T S b) {pk : Nat} (hp : M 0 7 = nI pk) {v : Int32} : Ret Λ (d + 1) mX3_now [.ref 0, .int v] (n, M, Rf, Lg) (some (.int (tbv v 6 (fNow T S pk) (-1)))) (n, M, Rf, Lg) 0 0 := by
  refine Ret.of rfl rfl rfl (fun κ o f hin => ?_)
  obtain ⟨hx, hc, hn, ht, hm, hr, hs, os, hb9⟩ := id xb
  have rc := hx.city hc
  obtain ⟨x0, x1, x3, x4, x5, x8, x9, x10, x11, x13, x14, x15, xN, xC4, xC16, xP, xI, xT, xL, xNm⟩ := id hx
  obtain ⟨r3, r4, r6, r7, r8, r9, r11, r12, r13, r14, r15⟩ := id rc
  obtain ⟨z0, z1, z2, z3, z4, z5, z6, z7, z8, z9, z10, z11⟩ := city_shp hc
  obtain ⟨⟨t0, t0b⟩, t1, t2, t3, tD, tC, tN⟩ := id ht
  obtain ⟨m0, m1, m5, m10, mb, mj, mc, mn, ml⟩ := id hm
  have ra := xN 28 in28
  have rt := xN 32 in32
  obtain ⟨u3, u4, u5⟩ := id ra
  obtain ⟨v3, v4, v5⟩ := id rt
  obtain ⟨s0, s1, s2, sc⟩ := id hs
  obtain ⟨os0, os1, os2, osc⟩ := id os
  refine g_iload_n (pc := 0) o 1 dX3_now_0 rfl rfl ?_
  rcases sw_cases v 6 (by decide) with hsw | ⟨kk, hkk, rfl⟩
  · refine g_tabO (pc := 1) o 79 dX3_now_1 (by first | exact hsw | omega) (by decide) ?_
    refine g_iconst (pc := 79) (v := -1) o dX3_now_79 (by decide) ?_
    exact g_iret (pc := 80) o f dX3_now_80 rfl (by rw [tbv_out (inn_neg hsw)]) rfl
  · match kk, hkk with
    | 0, _ =>
      refine g_tabI (pc := 1) o 40 dX3_now_1 (by decide) (by decide) rfl (by decide) ?_
      refine g_aload_n (pc := 40) o 0 dX3_now_40 rfl rfl ?_
      refine g_getR (pc := 41) o flRX3_29 (by first | assumption | rfl) (by first | assumption | omega) (by assumption) dX3_now_41 ?_
      refine g_getI (pc := 44) o flRX3_130 (by first | assumption | rfl) (by first | assumption | omega) dX3_now_44 ?_
      exact g_iret (pc := 47) o f dX3_now_47 rfl (by rw [s0]; rw [tbv_in (by decide) (by decide)]; rfl) rfl
    | 1, _ =>
      refine g_tabI (pc := 1) o 48 dX3_now_1 (by decide) (by decide) rfl (by decide) ?_
      refine g_aload_n (pc := 48) o 0 dX3_now_48 rfl rfl ?_
      refine g_getR (pc := 49) o flRX3_29 (by first | assumption | rfl) (by first | assumption | omega) (by assumption) dX3_now_49 ?_
      refine g_getI (pc := 52) o flRX3_133 (by first | assumption | rfl) (by first | assumption | omega) dX3_now_52 ?_
      exact g_iret (pc := 55) o f dX3_now_55 rfl (by rw [s1]; rw [tbv_in (by decide) (by decide)]; rfl) rfl
    | 2, _ =>
      refine g_tabI (pc := 1) o 56 dX3_now_1 (by decide) (by decide) rfl (by decide) ?_
      refine g_aload_n (pc := 56) o 0 dX3_now_56 rfl rfl ?_
      refine g_getR (pc := 57) o flRX3_29 (by first | assumption | rfl) (by first | assumption | omega) (by assumption) dX3_now_57 ?_
      refine g_getI (pc := 60) o flRX3_136 (by first | assumption | rfl) (by first | assumption | omega) dX3_now_60 ?_
      exact g_iret (pc := 63) o f dX3_now_63 rfl (by rw [s2]; rw [tbv_in (by decide) (by decide)]; rfl) rfl
    | 3, _ =>
      refine g_tabI (pc := 1) o 64 dX3_now_1 (by decide) (by decide) rfl (by decide) ?_
      refine g_aload_n (pc := 64) o 0 dX3_now_64 rfl rfl ?_
      refine g_V0i (pc := 65) o lkRX3_139 cmX3_sleptMost (cX3sleptMost xb) (by first | assumption | rfl) (by first | assumption | omega) rfl rfl ⟨Nat.le_refl _, Nat.le_refl _⟩ dX3_now_65 ?_
      exact g_iret (pc := 68) o f dX3_now_68 rfl (by skip; rw [tbv_in (by decide) (by decide)]; rfl) rfl
    | 4, _ =>
      refine g_tabI (pc := 1) o 69 dX3_now_1 (by decide) (by decide) rfl (by decide) ?_
      refine g_aload_n (pc := 69) o 0 dX3_now_69 rfl rfl ?_
      refine g_V0i (pc := 70) o lkRX3_143 cmX3_sleptLeast (cX3sleptLeast xb) (by first | assumption | rfl) (by first | assumption | omega) rfl rfl ⟨Nat.le_refl _, Nat.le_refl _⟩ dX3_now_70 ?_
      exact g_iret (pc := 73) o f dX3_now_73 rfl (by skip; rw [tbv_in (by decide) (by decide)]; rfl) rfl
    | 5, _ =>
      refine g_tabI (pc := 1) o 74 dX3_now_1 (by decide) (by decide) rfl (by decide) ?_
      refine g_aload_n (pc := 74) o 0 dX3_now_74 rfl rfl ?_
      refine g_getI (pc := 75) o flRX3_81 (by first | assumption | rfl) (by first | assumption | omega) dX3_now_75 ?_
      exact g_iret (pc := 78) o f dX3_now_78 rfl (by rw [hp]; rw [tbv_in (by decide) (by decide)]; rfl) rfl

set_option maxHeartbeats 2000000 in
set_option maxRecDepth 20000 in
theorem cX3count {t b : Nat} {T S : Nat → Nat} (xb : XB M Rf n t T S b) {cn tl : Nat} (hcn : M 0 12 = nI cn) (htl : M 1 1 = nI tl) {v : Int32} : Ret Λ (d) mX3_count [.ref 0, .int v] (n, M, Rf, Lg) (some (.int (tbv v 6 (fCnt T cn tl) (-1)))) (n, M, Rf, Lg) 0 0 := by
  refine Ret.of rfl rfl rfl (fun κ o f hin => ?_)
  obtain ⟨hx, hc, hn, ht, hm, hr, hs, os, hb9⟩ := id xb
  have rc := hx.city hc
  obtain ⟨x0, x1, x3, x4, x5, x8, x9, x10, x11, x13, x14, x15, xN, xC4, xC16, xP, xI, xT, xL, xNm⟩ := id hx
  obtain ⟨r3, r4, r6, r7, r8, r9, r11, r12, r13, r14, r15⟩ := id rc
  obtain ⟨z0, z1, z2, z3, z4, z5, z6, z7, z8, z9, z10, z11⟩ := city_shp hc
  obtain ⟨⟨t0, t0b⟩, t1, t2, t3, tD, tC, tN⟩ := id ht
  obtain ⟨m0, m1, m5, m10, mb, mj, mc, mn, ml⟩ := id hm
  have ra := xN 28 in28
  have rt := xN 32 in32
  obtain ⟨u3, u4, u5⟩ := id ra
  obtain ⟨v3, v4, v5⟩ := id rt
  obtain ⟨s0, s1, s2, sc⟩ := id hs
  obtain ⟨os0, os1, os2, osc⟩ := id os
  refine g_iload_n (pc := 0) o 1 dX3_count_0 rfl rfl ?_
  rcases sw_cases v 6 (by decide) with hsw | ⟨kk, hkk, rfl⟩
  · refine g_tabO (pc := 1) o 85 dX3_count_1 (by first | exact hsw | omega) (by decide) ?_
    refine g_iconst (pc := 85) (v := -1) o dX3_count_85 (by decide) ?_
    exact g_iret (pc := 86) o f dX3_count_86 rfl (by rw [tbv_out (inn_neg hsw)]) rfl
  · match kk, hkk with
    | 0, _ =>
      refine g_tabI (pc := 1) o 40 dX3_count_1 (by decide) (by decide) rfl (by decide) ?_
      refine g_aload_n (pc := 40) o 0 dX3_count_40 rfl rfl ?_
      refine g_getR (pc := 41) o flRX3_19 (by first | assumption | rfl) (by first | assumption | omega) (by assumption) dX3_count_41 ?_
      refine g_getI (pc := 44) o flRX3_149 (by first | assumption | rfl) (by first | assumption | omega) dX3_count_44 ?_
      exact g_iret (pc := 47) o f dX3_count_47 rfl (by rw [m0]; rw [tbv_in (by decide) (by decide)]; rfl) rfl
    | 1, _ =>
      refine g_tabI (pc := 1) o 48 dX3_count_1 (by decide) (by decide) rfl (by decide) ?_
      refine g_aload_n (pc := 48) o 0 dX3_count_48 rfl rfl ?_
      refine g_getR (pc := 49) o flRX3_19 (by first | assumption | rfl) (by first | assumption | omega) (by assumption) dX3_count_49 ?_
      refine g_getI (pc := 52) o flRX3_185 (by first | assumption | rfl) (by first | assumption | omega) dX3_count_52 ?_
      exact g_iret (pc := 55) o f dX3_count_55 rfl (by rw [m1]; rw [tbv_in (by decide) (by decide)]; rfl) rfl
    | 2, _ =>
      refine g_tabI (pc := 1) o 56 dX3_count_1 (by decide) (by decide) rfl (by decide) ?_
      refine g_aload_n (pc := 56) o 0 dX3_count_56 rfl rfl ?_
      refine g_getR (pc := 57) o flRX3_19 (by first | assumption | rfl) (by first | assumption | omega) (by assumption) dX3_count_57 ?_
      refine g_getI (pc := 60) o flRX3_146 (by first | assumption | rfl) (by first | assumption | omega) dX3_count_60 ?_
      exact g_iret (pc := 63) o f dX3_count_63 rfl (by rw [m5]; rw [tbv_in (by decide) (by decide)]; rfl) rfl
    | 3, _ =>
      refine g_tabI (pc := 1) o 64 dX3_count_1 (by decide) (by decide) rfl (by decide) ?_
      refine g_aload_n (pc := 64) o 0 dX3_count_64 rfl rfl ?_
      refine g_getR (pc := 65) o flRX3_19 (by first | assumption | rfl) (by first | assumption | omega) (by assumption) dX3_count_65 ?_
      refine g_getI (pc := 68) o flRX3_118 (by first | assumption | rfl) (by first | assumption | omega) dX3_count_68 ?_
      exact g_iret (pc := 71) o f dX3_count_71 rfl (by rw [m10]; rw [tbv_in (by decide) (by decide)]; rfl) rfl
    | 4, _ =>
      refine g_tabI (pc := 1) o 72 dX3_count_1 (by decide) (by decide) rfl (by decide) ?_
      refine g_aload_n (pc := 72) o 0 dX3_count_72 rfl rfl ?_
      refine g_getI (pc := 73) o flRX3_84 (by first | assumption | rfl) (by first | assumption | omega) dX3_count_73 ?_
      exact g_iret (pc := 76) o f dX3_count_76 rfl (by rw [hcn]; rw [tbv_in (by decide) (by decide)]; rfl) rfl
    | 5, _ =>
      refine g_tabI (pc := 1) o 77 dX3_count_1 (by decide) (by decide) rfl (by decide) ?_
      refine g_aload_n (pc := 77) o 0 dX3_count_77 rfl rfl ?_
      refine g_getR (pc := 78) o flRX3_12 (by first | assumption | rfl) (by first | assumption | omega) (by assumption) dX3_count_78 ?_
      refine g_getI (pc := 81) o flRX3_73 (by first | assumption | rfl) (by first | assumption | omega) dX3_count_81 ?_
      exact g_iret (pc := 84) o f dX3_count_84 rfl (by rw [htl]; rw [tbv_in (by decide) (by decide)]; rfl) rfl

def aType (tl : Nat) (v : Int32) : Int32 := if inn v 256 then (if tl < 200 then nI (tl + 1) else -3) else -1
def mType (M : HM) (tl : Nat) (v : Int32) : HM := if inn v 256 ∧ tl < 200 then st2 (st2 M 2 tl v) 1 1 (nI (tl + 1)) else M
theorem i2c_N {j : Nat} (h : j < 256) : ((nI j).toUInt32 % 65536).toInt32 = nI j := by
  rw [pk_char, pk_tn (by omega), Nat.mod_eq_of_lt (by omega)]
set_option maxHeartbeats 2000000 in
set_option maxRecDepth 20000 in
theorem cX3type  (hn : 96 ≤ n) (x0 : Rf 0 0 = some 1) (xL : Rf 1 0 = some 2) {tl : Nat} (htl : M 1 1 = nI tl) (hl : tl ≤ 200) {v : Int32} : Ret Λ (d) mX3_type [.ref 0, .int v] (n, M, Rf, Lg) (some (.int (aType tl v))) (n, mType M tl v, Rf, Lg) 0 0 := by
  refine Ret.of rfl rfl rfl (fun κ o f hin => ?_)
  refine g_iload_n (pc := 0) o 1 dX3_type_0 rfl rfl ?_
  refine g_if_lt (pc := 1) o 11 dX3_type_1 (by decide) (fun q1 => ?_) (fun q1 => ?_)
  · refine g_iconst (pc := 11) (v := -1) o dX3_type_11 (by decide) ?_
    exact g_iret (pc := 12) o f dX3_type_12 rfl (by unfold aType; first | rw [if_neg hv] | rw [if_neg (inn_lt0 q1)]) (hp_M (by unfold mType; first | rw [if_neg (fun q => hv q.1)] | rw [if_neg (fun q => inn_lt0 q1 q.1)]))
  · refine g_iload_n (pc := 4) o 1 dX3_type_4 rfl rfl ?_
    refine g_sipush (pc := 5) (v := 255) o dX3_type_5 (by decide) ?_
    refine g_icmp_le (pc := 8) o 13 dX3_type_8 (by decide) (fun q8 => ?_) (fun q8 => ?_)
    · have hv := inn_le (N := 255) (by decide) rfl q1 q8
      obtain ⟨j, hj, rfl⟩ := inn_of hv (by decide)
      refine g_aload_n (pc := 13) o 0 dX3_type_13 rfl rfl ?_
      refine g_getR (pc := 14) o flRX3_12 (by first | assumption | rfl) (by first | assumption | omega) (by assumption) dX3_type_14 ?_
      refine g_getI (pc := 17) o flRX3_73 (by first | assumption | rfl) (by first | assumption | omega) dX3_type_17 ?_
      refine g_sipush (pc := 20) (v := 200) o dX3_type_20 (by decide) ?_
      refine g_icmp_lt (pc := 23) o 29 dX3_type_23 (by decide) (fun q23 => ?_) (fun q23 => ?_)
      · have hl2 : tl < 200 := (lt_N (b := 200) (by omega) (by decide) htl rfl).mp q23
        refine g_aload_n (pc := 29) o 0 dX3_type_29 rfl rfl ?_
        refine g_getR (pc := 30) o flRX3_12 (by first | assumption | rfl) (by first | assumption | omega) (by assumption) dX3_type_30 ?_
        refine g_getR (pc := 33) o flRX3_77 (by first | assumption | rfl) (by first | assumption | omega) (by assumption) dX3_type_33 ?_
        refine g_aload_n (pc := 36) o 0 dX3_type_36 rfl rfl ?_
        refine g_getR (pc := 37) o flRX3_12 (by first | assumption | rfl) (by first | assumption | omega) (by assumption) dX3_type_37 ?_
        refine g_getI (pc := 40) o flRX3_73 (by first | assumption | rfl) (by first | assumption | omega) dX3_type_40 ?_
        refine g_iload_n (pc := 43) o 1 dX3_type_43 rfl rfl ?_
        refine g_i2c (pc := 44) o dX3_type_44 ?_
        rw [i2c_N hj]
        refine g_cast (pc := 45) o (tl) (by first | assumption | rfl) (by first | assumption | omega) htl (by omega) (pk_charN (by omega)).1 dX3_type_45 ?_
        refine g_aload_n (pc := 46) o 0 dX3_type_46 rfl rfl ?_
        refine g_getR (pc := 47) o flRX3_12 (by first | assumption | rfl) (by first | assumption | omega) (by assumption) dX3_type_47 ?_
        refine g_dup (pc := 50) o dX3_type_50 rfl ?_
        refine g_getI (pc := 51) o flRX3_73 (by first | assumption | rfl) (by first | assumption | omega) dX3_type_51 ?_
        refine g_iconst (pc := 54) (v := 1) o dX3_type_54 (by decide) ?_
        refine g_iadd (pc := 55) o dX3_type_55 ?_
        refine g_putI (pc := 56) o flRX3_73 rfl (by first | assumption | rfl) (by first | assumption | omega) rfl rfl dX3_type_56 ?_
        refine g_aload_n (pc := 59) o 0 dX3_type_59 rfl rfl ?_
        refine g_getR (pc := 60) o flRX3_12 (by first | assumption | rfl) (by first | assumption | omega) (by assumption) dX3_type_60 ?_
        refine g_getI (pc := 63) o flRX3_73 (by first | assumption | rfl) (by first | assumption | omega) dX3_type_63 ?_
        exact g_iret (pc := 66) o f dX3_type_66 rfl (by unfold aType; rw [if_pos hv, if_pos hl2]; simp only [st2]; simp; rw [htl]; exact nI_1 _) (hp_M (by unfold mType; rw [if_pos ⟨hv, hl2⟩]; simp only [st2]; simp; rw [htl, nI_1]))
      · have hl2 : ¬ tl < 200 := mt (lt_N (b := 200) (by omega) (by decide) htl rfl).mpr q23
        refine g_bipush (pc := 26) (v := -3) o dX3_type_26 (by decide) ?_
        exact g_iret (pc := 28) o f dX3_type_28 rfl (by unfold aType; rw [if_pos hv, if_neg hl2]) (hp_M (by unfold mType; rw [if_neg (fun q => hl2 q.2)]))
    · have hv := inn_gt (v := v) (N := 255) (by decide) rfl (Int32.not_le.mp q8)
      refine g_iconst (pc := 11) (v := -1) o dX3_type_11 (by decide) ?_
      exact g_iret (pc := 12) o f dX3_type_12 rfl (by unfold aType; first | rw [if_neg hv] | rw [if_neg (inn_lt0 q1)]) (hp_M (by unfold mType; first | rw [if_neg (fun q => hv q.1)] | rw [if_neg (fun q => inn_lt0 q1 q.1)]))

set_option maxHeartbeats 2000000 in
set_option maxRecDepth 20000 in
theorem cX3clear  (hn : 96 ≤ n) (x0 : Rf 0 0 = some 1) {tl : Nat} (htl : M 1 1 = nI tl) : Ret Λ (d) mX3_clear [.ref 0] (n, M, Rf, Lg) (some (.int (nI tl))) (n, st2 M 1 1 0, Rf, Lg) 0 0 := by
  refine Ret.of rfl rfl rfl (fun κ o f hin => ?_)
  refine g_aload_n (pc := 0) o 0 dX3_clear_0 rfl rfl ?_
  refine g_getR (pc := 1) o flRX3_12 (by first | assumption | rfl) (by first | assumption | omega) (by assumption) dX3_clear_1 ?_
  refine g_getI (pc := 4) o flRX3_73 (by first | assumption | rfl) (by first | assumption | omega) dX3_clear_4 ?_
  refine g_istore_n (pc := 7) o 1 dX3_clear_7 rfl rfl ?_
  refine g_aload_n (pc := 8) o 0 dX3_clear_8 rfl rfl ?_
  refine g_getR (pc := 9) o flRX3_12 (by first | assumption | rfl) (by first | assumption | omega) (by assumption) dX3_clear_9 ?_
  refine g_iconst (pc := 12) (v := 0) o dX3_clear_12 (by decide) ?_
  refine g_putI (pc := 13) o flRX3_73 rfl (by first | assumption | rfl) (by first | assumption | omega) rfl rfl dX3_clear_13 ?_
  refine g_iload_n (pc := 16) o 1 dX3_clear_16 rfl rfl ?_
  exact g_iret (pc := 17) o f dX3_clear_17 rfl htl rfl

def aCounted (cn : Nat) (v w : Int32) : Int32 := if inn v 21 ∧ inn w 7 then (if cn < 6 then nI (cn + 1) else -3) else -1
def mCounted (M : HM) (cn : Nat) (v w : Int32) : HM := if (inn v 21 ∧ inn w 7) ∧ cn < 6 then st2 (st2 (st2 M 39 cn v) 40 cn w) 0 12 (nI (cn + 1)) else M
set_option maxHeartbeats 2000000 in
set_option maxRecDepth 20000 in
theorem cX3counted  (hn : 96 ≤ n) (x10 : Rf 0 10 = some 39) (x11 : Rf 0 11 = some 40) {cn : Nat} (hcn : M 0 12 = nI cn) (hl : cn ≤ 6) {v w : Int32} : Ret Λ (d) mX3_counted [.ref 0, .int v, .int w] (n, M, Rf, Lg) (some (.int (aCounted cn v w))) (n, mCounted M cn v w, Rf, Lg) 0 0 := by
  refine Ret.of rfl rfl rfl (fun κ o f hin => ?_)
  refine g_iload_n (pc := 0) o 1 dX3_counted_0 rfl rfl ?_
  refine g_if_lt (pc := 1) o 20 dX3_counted_1 (by decide) (fun q1 => ?_) (fun q1 => ?_)
  · have hv : ¬ (inn v 21 ∧ inn w 7) := fun q => inn_lt0 q1 q.1
    refine g_iconst (pc := 20) (v := -1) o dX3_counted_20 (by decide) ?_
    exact g_iret (pc := 21) o f dX3_counted_21 rfl (by unfold aCounted; rw [if_neg hv]) (hp_M (by unfold mCounted; rw [if_neg (fun q => hv q.1)]))
  · refine g_iload_n (pc := 4) o 1 dX3_counted_4 rfl rfl ?_
    refine g_bipush (pc := 5) (v := 20) o dX3_counted_5 (by decide) ?_
    refine g_icmp_gt (pc := 7) o 20 dX3_counted_7 (by decide) (fun q7 => ?_) (fun q7 => ?_)
    · have hv : ¬ (inn v 21 ∧ inn w 7) := fun q => inn_gt (N := 20) (by decide) rfl q7 q.1
      refine g_iconst (pc := 20) (v := -1) o dX3_counted_20 (by decide) ?_
      exact g_iret (pc := 21) o f dX3_counted_21 rfl (by unfold aCounted; rw [if_neg hv]) (hp_M (by unfold mCounted; rw [if_neg (fun q => hv q.1)]))
    · have hv1 := inn_le (N := 20) (by decide) rfl q1 (Int32.not_lt.mp q7)
      refine g_iload_n (pc := 10) o 2 dX3_counted_10 rfl rfl ?_
      refine g_if_lt (pc := 11) o 20 dX3_counted_11 (by decide) (fun q11 => ?_) (fun q11 => ?_)
      · have hv : ¬ (inn v 21 ∧ inn w 7) := fun q => inn_lt0 q11 q.2
        refine g_iconst (pc := 20) (v := -1) o dX3_counted_20 (by decide) ?_
        exact g_iret (pc := 21) o f dX3_counted_21 rfl (by unfold aCounted; rw [if_neg hv]) (hp_M (by unfold mCounted; rw [if_neg (fun q => hv q.1)]))
      · refine g_iload_n (pc := 14) o 2 dX3_counted_14 rfl rfl ?_
        refine g_bipush (pc := 15) (v := 6) o dX3_counted_15 (by decide) ?_
        refine g_icmp_le (pc := 17) o 22 dX3_counted_17 (by decide) (fun q17 => ?_) (fun q17 => ?_)
        · have hv : inn v 21 ∧ inn w 7 := ⟨hv1, inn_le (N := 6) (by decide) rfl q11 q17⟩
          refine g_aload_n (pc := 22) o 0 dX3_counted_22 rfl rfl ?_
          refine g_getI (pc := 23) o flRX3_84 (by first | assumption | rfl) (by first | assumption | omega) dX3_counted_23 ?_
          refine g_bipush (pc := 26) (v := 6) o dX3_counted_26 (by decide) ?_
          refine g_icmp_lt (pc := 28) o 34 dX3_counted_28 (by decide) (fun q28 => ?_) (fun q28 => ?_)
          · have hl2 : cn < 6 := (lt_N (b := 6) (by omega) (by decide) hcn rfl).mp q28
            refine g_aload_n (pc := 34) o 0 dX3_counted_34 rfl rfl ?_
            refine g_getR (pc := 35) o flRX3_47 (by first | assumption | rfl) (by first | assumption | omega) (by assumption) dX3_counted_35 ?_
            refine g_aload_n (pc := 38) o 0 dX3_counted_38 rfl rfl ?_
            refine g_getI (pc := 39) o flRX3_84 (by first | assumption | rfl) (by first | assumption | omega) dX3_counted_39 ?_
            refine g_iload_n (pc := 42) o 1 dX3_counted_42 rfl rfl ?_
            refine g_iast (pc := 43) o (cn) (by first | assumption | rfl) (by first | assumption | omega) hcn (by omega) dX3_counted_43 ?_
            refine g_aload_n (pc := 44) o 0 dX3_counted_44 rfl rfl ?_
            refine g_getR (pc := 45) o flRX3_51 (by first | assumption | rfl) (by first | assumption | omega) (by assumption) dX3_counted_45 ?_
            refine g_aload_n (pc := 48) o 0 dX3_counted_48 rfl rfl ?_
            refine g_getI (pc := 49) o flRX3_84 (by first | assumption | rfl) (by first | assumption | omega) dX3_counted_49 ?_
            refine g_iload_n (pc := 52) o 2 dX3_counted_52 rfl rfl ?_
            refine g_iast (pc := 53) o (cn) (by first | assumption | rfl) (by first | assumption | omega) (by simp only [st2]; simp; exact hcn) (by omega) dX3_counted_53 ?_
            refine g_aload_n (pc := 54) o 0 dX3_counted_54 rfl rfl ?_
            refine g_dup (pc := 55) o dX3_counted_55 rfl ?_
            refine g_getI (pc := 56) o flRX3_84 (by first | assumption | rfl) (by first | assumption | omega) dX3_counted_56 ?_
            refine g_iconst (pc := 59) (v := 1) o dX3_counted_59 (by decide) ?_
            refine g_iadd (pc := 60) o dX3_counted_60 ?_
            refine g_putI (pc := 61) o flRX3_84 rfl (by first | assumption | rfl) (by first | assumption | omega) rfl rfl dX3_counted_61 ?_
            refine g_aload_n (pc := 64) o 0 dX3_counted_64 rfl rfl ?_
            refine g_getI (pc := 65) o flRX3_84 (by first | assumption | rfl) (by first | assumption | omega) dX3_counted_65 ?_
            exact g_iret (pc := 68) o f dX3_counted_68 rfl (by unfold aCounted; rw [if_pos hv, if_pos hl2]; simp only [st2]; simp; rw [hcn]; exact nI_1 _) (hp_M (by unfold mCounted; rw [if_pos ⟨hv, hl2⟩]; simp only [st2]; simp; rw [hcn, nI_1]))
          · have hl2 : ¬ cn < 6 := mt (lt_N (b := 6) (by omega) (by decide) hcn rfl).mpr q28
            refine g_bipush (pc := 31) (v := -3) o dX3_counted_31 (by decide) ?_
            exact g_iret (pc := 33) o f dX3_counted_33 rfl (by unfold aCounted; rw [if_pos hv, if_neg hl2]) (hp_M (by unfold mCounted; rw [if_neg (fun q => hl2 q.2)]))
        · have hv : ¬ (inn v 21 ∧ inn w 7) := fun q => inn_gt (N := 6) (by decide) rfl (Int32.not_le.mp q17) q.2
          refine g_iconst (pc := 20) (v := -1) o dX3_counted_20 (by decide) ?_
          exact g_iret (pc := 21) o f dX3_counted_21 rfl (by unfold aCounted; rw [if_neg hv]) (hp_M (by unfold mCounted; rw [if_neg (fun q => hv q.1)]))

set_option maxHeartbeats 2000000 in
set_option maxRecDepth 20000 in
theorem cX3forget  (hn : 96 ≤ n) {cn : Nat} (hcn : M 0 12 = nI cn) : Ret Λ (d) mX3_forget [.ref 0] (n, M, Rf, Lg) (some (.int (nI cn))) (n, st2 M 0 12 0, Rf, Lg) 0 0 := by
  refine Ret.of rfl rfl rfl (fun κ o f hin => ?_)
  refine g_aload_n (pc := 0) o 0 dX3_forget_0 rfl rfl ?_
  refine g_getI (pc := 1) o flRX3_84 (by first | assumption | rfl) (by first | assumption | omega) dX3_forget_1 ?_
  refine g_istore_n (pc := 4) o 1 dX3_forget_4 rfl rfl ?_
  refine g_aload_n (pc := 5) o 0 dX3_forget_5 rfl rfl ?_
  refine g_iconst (pc := 6) (v := 0) o dX3_forget_6 (by decide) ?_
  refine g_putI (pc := 7) o flRX3_84 rfl (by first | assumption | rfl) (by first | assumption | omega) rfl rfl dX3_forget_7 ?_
  refine g_iload_n (pc := 10) o 1 dX3_forget_10 rfl rfl ?_
  exact g_iret (pc := 11) o f dX3_forget_11 rfl hcn rfl

set_option maxHeartbeats 2000000 in
set_option maxRecDepth 20000 in
theorem cX3trace  (hn : 96 ≤ n) : Ret Λ (d) mX3_trace [.ref 0] (n, M, Rf, Lg) (some (.long (Lg 0 16))) (n, M, Rf, Lg) 0 0 := by
  refine Ret.of rfl rfl rfl (fun κ o f hin => ?_)
  refine g_aload_n (pc := 0) o 0 dX3_trace_0 rfl rfl ?_
  refine g_getJ (pc := 1) o flRX3_290 (by first | assumption | rfl) (by first | assumption | omega) dX3_trace_1 ?_
  exact g_lret (pc := 4) o f dX3_trace_4 rfl rfl

def trc (Lg : HL) (k : Int64) : HL := st2 Lg 0 16 (Lg 0 16 + k)
theorem trc_trc (Lg : HL) (a b : Int64) : trc (trc Lg a) b = trc Lg (a + b) := by
  funext z j
  simp only [trc, st2]
  by_cases h : z = 0 ∧ j = 16
  · simp [h, Int64.add_assoc]
  · simp [h]
theorem hp_L {n : Nat} {M : HM} {Rf : HR} {Lg Lg' : HL} (h : Lg = Lg') : ((n, M, Rf, Lg) : HP) = (n, M, Rf, Lg') := by rw [h]
set_option maxHeartbeats 2000000 in
set_option maxRecDepth 20000 in
theorem cX3asCitizen {t b : Nat} {T S : Nat → Nat} (xb : XB M Rf n t T S b) {j : Nat} (hj : j < T 2) : Ret Λ (d) mX3_asCitizen [.ref 0, .int (nI j)] (n, M, Rf, Lg) (some (.int (nI (S (3 + j))))) (n, M, Rf, trc Lg 1) 0 0 := by
  refine Ret.of rfl rfl rfl (fun κ o f hin => ?_)
  obtain ⟨hx, hc, hn, ht, hm, hr, hs, os, hb9⟩ := id xb
  have rc := hx.city hc
  obtain ⟨x0, x1, x3, x4, x5, x8, x9, x10, x11, x13, x14, x15, xN, xC4, xC16, xP, xI, xT, xL, xNm⟩ := id hx
  obtain ⟨r3, r4, r6, r7, r8, r9, r11, r12, r13, r14, r15⟩ := id rc
  obtain ⟨z0, z1, z2, z3, z4, z5, z6, z7, z8, z9, z10, z11⟩ := city_shp hc
  obtain ⟨⟨t0, t0b⟩, t1, t2, t3, tD, tC, tN⟩ := id ht
  obtain ⟨m0, m1, m5, m10, mb, mj, mc, mn, ml⟩ := id hm
  have ra := xN 28 in28
  have rt := xN 32 in32
  obtain ⟨u3, u4, u5⟩ := id ra
  obtain ⟨v3, v4, v5⟩ := id rt
  obtain ⟨s0, s1, s2, sc⟩ := id hs
  obtain ⟨os0, os1, os2, osc⟩ := id os
  refine g_aload_n (pc := 0) o 0 dX3_asCitizen_0 rfl rfl ?_
  refine g_dup (pc := 1) o dX3_asCitizen_1 rfl ?_
  refine g_getJ (pc := 2) o flRX3_290 (by first | assumption | rfl) (by first | assumption | omega) dX3_asCitizen_2 ?_
  refine g_lconst (pc := 5) (v := 1) o dX3_asCitizen_5 (by decide) ?_
  refine g_ladd (pc := 6) o dX3_asCitizen_6 ?_
  refine g_putJ (pc := 7) o flRX3_290 rfl (by first | assumption | rfl) (by first | assumption | omega) dX3_asCitizen_7 ?_
  refine g_aload_n (pc := 10) o 0 dX3_asCitizen_10 rfl rfl ?_
  refine g_getR (pc := 11) o flRX3_29 (by first | assumption | rfl) (by first | assumption | omega) (by assumption) dX3_asCitizen_11 ?_
  refine g_getR (pc := 14) o flRX3_103 (by first | assumption | rfl) (by first | assumption | omega) (by assumption) dX3_asCitizen_14 ?_
  refine g_iload_n (pc := 17) o 1 dX3_asCitizen_17 rfl rfl ?_
  refine g_iald (pc := 18) o (j) (by first | assumption | rfl) (by first | assumption | omega) rfl (by omega) dX3_asCitizen_18 ?_
  exact g_iret (pc := 19) o f dX3_asCitizen_19 rfl (by rw [(sc j hj).1]) rfl

set_option maxHeartbeats 2000000 in
set_option maxRecDepth 20000 in
theorem cX3asBaker {t b : Nat} {T S : Nat → Nat} (xb : XB M Rf n t T S b) {j : Nat} (hj : j < T 2) : Ret Λ (d + 1) mX3_asBaker [.ref 0, .int (nI j)] (n, M, Rf, Lg) (some (.int (nI (S (3 + j) + pop (T (26 + j)))))) (n, M, Rf, trc Lg 11) 0 0 := by
  refine Ret.of rfl rfl rfl (fun κ o f hin => ?_)
  obtain ⟨hx, hc, hn, ht, hm, hr, hs, os, hb9⟩ := id xb
  have rc := hx.city hc
  obtain ⟨x0, x1, x3, x4, x5, x8, x9, x10, x11, x13, x14, x15, xN, xC4, xC16, xP, xI, xT, xL, xNm⟩ := id hx
  obtain ⟨r3, r4, r6, r7, r8, r9, r11, r12, r13, r14, r15⟩ := id rc
  obtain ⟨z0, z1, z2, z3, z4, z5, z6, z7, z8, z9, z10, z11⟩ := city_shp hc
  obtain ⟨⟨t0, t0b⟩, t1, t2, t3, tD, tC, tN⟩ := id ht
  obtain ⟨m0, m1, m5, m10, mb, mj, mc, mn, ml⟩ := id hm
  have ra := xN 28 in28
  have rt := xN 32 in32
  obtain ⟨u3, u4, u5⟩ := id ra
  obtain ⟨v3, v4, v5⟩ := id rt
  obtain ⟨s0, s1, s2, sc⟩ := id hs
  obtain ⟨os0, os1, os2, osc⟩ := id os
  refine g_aload_n (pc := 0) o 0 dX3_asBaker_0 rfl rfl ?_
  refine g_dup (pc := 1) o dX3_asBaker_1 rfl ?_
  refine g_getJ (pc := 2) o flRX3_290 (by first | assumption | rfl) (by first | assumption | omega) dX3_asBaker_2 ?_
  refine g_ldc2 (pc := 5) o ctRX3_294 dX3_asBaker_5 ?_
  refine g_ladd (pc := 8) o dX3_asBaker_8 ?_
  refine g_putJ (pc := 9) o flRX3_290 rfl (by first | assumption | rfl) (by first | assumption | omega) dX3_asBaker_9 ?_
  refine g_aload_n (pc := 12) o 0 dX3_asBaker_12 rfl rfl ?_
  refine g_iload_n (pc := 13) o 1 dX3_asBaker_13 rfl rfl ?_
  refine g_V1i (pc := 14) o lkRX3_272 cmX3_asCitizen (cX3asCitizen (Lg := trc Lg 10) xb hj) (by first | assumption | rfl) (by first | assumption | omega) rfl rfl ⟨Nat.le_refl _, Nat.le_refl _⟩ dX3_asBaker_14 ?_
  refine g_aload_n (pc := 17) o 0 dX3_asBaker_17 rfl rfl ?_
  refine g_getR (pc := 18) o flRX3_19 (by first | assumption | rfl) (by first | assumption | omega) (by assumption) dX3_asBaker_18 ?_
  refine g_getR (pc := 21) o flRX3_106 (by first | assumption | rfl) (by first | assumption | omega) (by assumption) dX3_asBaker_21 ?_
  refine g_iload_n (pc := 24) o 1 dX3_asBaker_24 rfl rfl ?_
  refine g_iald (pc := 25) o (j) (by first | assumption | rfl) (by first | assumption | omega) rfl (by omega) dX3_asBaker_25 ?_
  rw [(mc j hj).2.2.1]
  refine g_S1i (pc := 26) o lkRX3_179 cmJ6_bitCount_0f7a4 (cbc (by have := tC j hj; omega)) rfl rfl ⟨Nat.le_refl _, Nat.le_refl _⟩ dX3_asBaker_26 ?_
  refine g_iadd (pc := 29) o dX3_asBaker_29 ?_
  exact g_iret (pc := 30) o f dX3_asBaker_30 rfl (nI_add _ _) (hp_L (trc_trc Lg 10 1))

set_option maxHeartbeats 2000000 in
set_option maxRecDepth 20000 in
theorem cX3asDeputy {t b : Nat} {T S : Nat → Nat} (xb : XB M Rf n t T S b) {j : Nat} (hj : j < T 2) : Ret Λ (d + 1) mX3_asDeputy [.ref 0, .int (nI j)] (n, M, Rf, Lg) (some (.int (nI (S (3 + j)) - nI (T (32 + j))))) (n, M, Rf, trc Lg 101) 0 0 := by
  refine Ret.of rfl rfl rfl (fun κ o f hin => ?_)
  obtain ⟨hx, hc, hn, ht, hm, hr, hs, os, hb9⟩ := id xb
  have rc := hx.city hc
  obtain ⟨x0, x1, x3, x4, x5, x8, x9, x10, x11, x13, x14, x15, xN, xC4, xC16, xP, xI, xT, xL, xNm⟩ := id hx
  obtain ⟨r3, r4, r6, r7, r8, r9, r11, r12, r13, r14, r15⟩ := id rc
  obtain ⟨z0, z1, z2, z3, z4, z5, z6, z7, z8, z9, z10, z11⟩ := city_shp hc
  obtain ⟨⟨t0, t0b⟩, t1, t2, t3, tD, tC, tN⟩ := id ht
  obtain ⟨m0, m1, m5, m10, mb, mj, mc, mn, ml⟩ := id hm
  have ra := xN 28 in28
  have rt := xN 32 in32
  obtain ⟨u3, u4, u5⟩ := id ra
  obtain ⟨v3, v4, v5⟩ := id rt
  obtain ⟨s0, s1, s2, sc⟩ := id hs
  obtain ⟨os0, os1, os2, osc⟩ := id os
  refine g_aload_n (pc := 0) o 0 dX3_asDeputy_0 rfl rfl ?_
  refine g_dup (pc := 1) o dX3_asDeputy_1 rfl ?_
  refine g_getJ (pc := 2) o flRX3_290 (by first | assumption | rfl) (by first | assumption | omega) dX3_asDeputy_2 ?_
  refine g_ldc2 (pc := 5) o ctRX3_296 dX3_asDeputy_5 ?_
  refine g_ladd (pc := 8) o dX3_asDeputy_8 ?_
  refine g_putJ (pc := 9) o flRX3_290 rfl (by first | assumption | rfl) (by first | assumption | omega) dX3_asDeputy_9 ?_
  refine g_aload_n (pc := 12) o 0 dX3_asDeputy_12 rfl rfl ?_
  refine g_iload_n (pc := 13) o 1 dX3_asDeputy_13 rfl rfl ?_
  refine g_V1i (pc := 14) o lkRX3_272 cmX3_asCitizen (cX3asCitizen (Lg := trc Lg 100) xb hj) (by first | assumption | rfl) (by first | assumption | omega) rfl rfl ⟨Nat.le_refl _, Nat.le_refl _⟩ dX3_asDeputy_14 ?_
  refine g_aload_n (pc := 17) o 0 dX3_asDeputy_17 rfl rfl ?_
  refine g_getR (pc := 18) o flRX3_19 (by first | assumption | rfl) (by first | assumption | omega) (by assumption) dX3_asDeputy_18 ?_
  refine g_getR (pc := 21) o flRX3_109 (by first | assumption | rfl) (by first | assumption | omega) (by assumption) dX3_asDeputy_21 ?_
  refine g_iload_n (pc := 24) o 1 dX3_asDeputy_24 rfl rfl ?_
  refine g_iald (pc := 25) o (j) (by first | assumption | rfl) (by first | assumption | omega) rfl (by omega) dX3_asDeputy_25 ?_
  rw [(mc j hj).2.2.2]
  refine g_isub (pc := 26) o dX3_asDeputy_26 ?_
  exact g_iret (pc := 27) o f dX3_asDeputy_27 rfl rfl (hp_L (trc_trc Lg 100 1))

set_option maxHeartbeats 2000000 in
set_option maxRecDepth 20000 in
theorem cX3asGuard {t b : Nat} {T S : Nat → Nat} (xb : XB M Rf n t T S b) {j : Nat} (hj : j < T 2) : Ret Λ (d + 2) mX3_asGuard [.ref 0, .int (nI j)] (n, M, Rf, Lg) (some (.int (2 * nI (S (3 + j) + pop (T (26 + j)))))) (n, M, Rf, trc Lg 1011) 0 0 := by
  refine Ret.of rfl rfl rfl (fun κ o f hin => ?_)
  obtain ⟨hx, hc, hn, ht, hm, hr, hs, os, hb9⟩ := id xb
  have rc := hx.city hc
  obtain ⟨x0, x1, x3, x4, x5, x8, x9, x10, x11, x13, x14, x15, xN, xC4, xC16, xP, xI, xT, xL, xNm⟩ := id hx
  obtain ⟨r3, r4, r6, r7, r8, r9, r11, r12, r13, r14, r15⟩ := id rc
  obtain ⟨z0, z1, z2, z3, z4, z5, z6, z7, z8, z9, z10, z11⟩ := city_shp hc
  obtain ⟨⟨t0, t0b⟩, t1, t2, t3, tD, tC, tN⟩ := id ht
  obtain ⟨m0, m1, m5, m10, mb, mj, mc, mn, ml⟩ := id hm
  have ra := xN 28 in28
  have rt := xN 32 in32
  obtain ⟨u3, u4, u5⟩ := id ra
  obtain ⟨v3, v4, v5⟩ := id rt
  obtain ⟨s0, s1, s2, sc⟩ := id hs
  obtain ⟨os0, os1, os2, osc⟩ := id os
  refine g_aload_n (pc := 0) o 0 dX3_asGuard_0 rfl rfl ?_
  refine g_dup (pc := 1) o dX3_asGuard_1 rfl ?_
  refine g_getJ (pc := 2) o flRX3_290 (by first | assumption | rfl) (by first | assumption | omega) dX3_asGuard_2 ?_
  refine g_ldc2 (pc := 5) o ctRX3_298 dX3_asGuard_5 ?_
  refine g_ladd (pc := 8) o dX3_asGuard_8 ?_
  refine g_putJ (pc := 9) o flRX3_290 rfl (by first | assumption | rfl) (by first | assumption | omega) dX3_asGuard_9 ?_
  refine g_iconst (pc := 12) (v := 2) o dX3_asGuard_12 (by decide) ?_
  refine g_aload_n (pc := 13) o 0 dX3_asGuard_13 rfl rfl ?_
  refine g_iload_n (pc := 14) o 1 dX3_asGuard_14 rfl rfl ?_
  refine g_V1i (pc := 15) o lkRX3_275 cmX3_asBaker (cX3asBaker (Lg := trc Lg 1000) xb hj) (by first | assumption | rfl) (by first | assumption | omega) rfl rfl ⟨Nat.le_refl _, Nat.le_refl _⟩ dX3_asGuard_15 ?_
  refine g_imul (pc := 18) o dX3_asGuard_18 ?_
  exact g_iret (pc := 19) o f dX3_asGuard_19 rfl rfl (hp_L (trc_trc Lg 1000 11))

set_option maxHeartbeats 2000000 in
set_option maxRecDepth 20000 in
theorem cX3asTwin {t b : Nat} {T S : Nat → Nat} (xb : XB M Rf n t T S b) {j : Nat} (hj : j < T 2) : Ret Λ (d + 2) mX3_asTwin [.ref 0, .int (nI j)] (n, M, Rf, Lg) (some (.int (nI (S (3 + j)) - nI (T (32 + j)) + nI j))) (n, M, Rf, trc Lg 10101) 0 0 := by
  refine Ret.of rfl rfl rfl (fun κ o f hin => ?_)
  obtain ⟨hx, hc, hn, ht, hm, hr, hs, os, hb9⟩ := id xb
  have rc := hx.city hc
  obtain ⟨x0, x1, x3, x4, x5, x8, x9, x10, x11, x13, x14, x15, xN, xC4, xC16, xP, xI, xT, xL, xNm⟩ := id hx
  obtain ⟨r3, r4, r6, r7, r8, r9, r11, r12, r13, r14, r15⟩ := id rc
  obtain ⟨z0, z1, z2, z3, z4, z5, z6, z7, z8, z9, z10, z11⟩ := city_shp hc
  obtain ⟨⟨t0, t0b⟩, t1, t2, t3, tD, tC, tN⟩ := id ht
  obtain ⟨m0, m1, m5, m10, mb, mj, mc, mn, ml⟩ := id hm
  have ra := xN 28 in28
  have rt := xN 32 in32
  obtain ⟨u3, u4, u5⟩ := id ra
  obtain ⟨v3, v4, v5⟩ := id rt
  obtain ⟨s0, s1, s2, sc⟩ := id hs
  obtain ⟨os0, os1, os2, osc⟩ := id os
  refine g_aload_n (pc := 0) o 0 dX3_asTwin_0 rfl rfl ?_
  refine g_dup (pc := 1) o dX3_asTwin_1 rfl ?_
  refine g_getJ (pc := 2) o flRX3_290 (by first | assumption | rfl) (by first | assumption | omega) dX3_asTwin_2 ?_
  refine g_ldc2 (pc := 5) o ctRX3_300 dX3_asTwin_5 ?_
  refine g_ladd (pc := 8) o dX3_asTwin_8 ?_
  refine g_putJ (pc := 9) o flRX3_290 rfl (by first | assumption | rfl) (by first | assumption | omega) dX3_asTwin_9 ?_
  refine g_aload_n (pc := 12) o 0 dX3_asTwin_12 rfl rfl ?_
  refine g_iload_n (pc := 13) o 1 dX3_asTwin_13 rfl rfl ?_
  refine g_V1i (pc := 14) o lkRX3_278 cmX3_asDeputy (cX3asDeputy (Lg := trc Lg 10000) xb hj) (by first | assumption | rfl) (by first | assumption | omega) rfl rfl ⟨Nat.le_refl _, Nat.le_refl _⟩ dX3_asTwin_14 ?_
  refine g_iload_n (pc := 17) o 1 dX3_asTwin_17 rfl rfl ?_
  refine g_iadd (pc := 18) o dX3_asTwin_18 ?_
  exact g_iret (pc := 19) o f dX3_asTwin_19 rfl rfl (hp_L (trc_trc Lg 10000 101))

set_option maxHeartbeats 2000000 in
set_option maxRecDepth 20000 in
theorem cX3asVeteran {t b : Nat} {T S : Nat → Nat} (xb : XB M Rf n t T S b) {j : Nat} (hj : j < T 2) : Ret Λ (d + 1) mX3_asVeteran [.ref 0, .int (nI j)] (n, M, Rf, Lg) (some (.int (nI (S (3 + j) + S (15 + j))))) (n, M, Rf, trc Lg 100001) 0 0 := by
  refine Ret.of rfl rfl rfl (fun κ o f hin => ?_)
  obtain ⟨hx, hc, hn, ht, hm, hr, hs, os, hb9⟩ := id xb
  have rc := hx.city hc
  obtain ⟨x0, x1, x3, x4, x5, x8, x9, x10, x11, x13, x14, x15, xN, xC4, xC16, xP, xI, xT, xL, xNm⟩ := id hx
  obtain ⟨r3, r4, r6, r7, r8, r9, r11, r12, r13, r14, r15⟩ := id rc
  obtain ⟨z0, z1, z2, z3, z4, z5, z6, z7, z8, z9, z10, z11⟩ := city_shp hc
  obtain ⟨⟨t0, t0b⟩, t1, t2, t3, tD, tC, tN⟩ := id ht
  obtain ⟨m0, m1, m5, m10, mb, mj, mc, mn, ml⟩ := id hm
  have ra := xN 28 in28
  have rt := xN 32 in32
  obtain ⟨u3, u4, u5⟩ := id ra
  obtain ⟨v3, v4, v5⟩ := id rt
  obtain ⟨s0, s1, s2, sc⟩ := id hs
  obtain ⟨os0, os1, os2, osc⟩ := id os
  refine g_aload_n (pc := 0) o 0 dX3_asVeteran_0 rfl rfl ?_
  refine g_dup (pc := 1) o dX3_asVeteran_1 rfl ?_
  refine g_getJ (pc := 2) o flRX3_290 (by first | assumption | rfl) (by first | assumption | omega) dX3_asVeteran_2 ?_
  refine g_ldc2 (pc := 5) o ctRX3_302 dX3_asVeteran_5 ?_
  refine g_ladd (pc := 8) o dX3_asVeteran_8 ?_
  refine g_putJ (pc := 9) o flRX3_290 rfl (by first | assumption | rfl) (by first | assumption | omega) dX3_asVeteran_9 ?_
  refine g_aload_n (pc := 12) o 0 dX3_asVeteran_12 rfl rfl ?_
  refine g_iload_n (pc := 13) o 1 dX3_asVeteran_13 rfl rfl ?_
  refine g_V1i (pc := 14) o lkRX3_272 cmX3_asCitizen (cX3asCitizen (Lg := trc Lg 100000) xb hj) (by first | assumption | rfl) (by first | assumption | omega) rfl rfl ⟨Nat.le_refl _, Nat.le_refl _⟩ dX3_asVeteran_14 ?_
  refine g_aload_n (pc := 17) o 0 dX3_asVeteran_17 rfl rfl ?_
  refine g_getR (pc := 18) o flRX3_29 (by first | assumption | rfl) (by first | assumption | omega) (by assumption) dX3_asVeteran_18 ?_
  refine g_getR (pc := 21) o flRX3_115 (by first | assumption | rfl) (by first | assumption | omega) (by assumption) dX3_asVeteran_21 ?_
  refine g_iload_n (pc := 24) o 1 dX3_asVeteran_24 rfl rfl ?_
  refine g_iald (pc := 25) o (j) (by first | assumption | rfl) (by first | assumption | omega) rfl (by omega) dX3_asVeteran_25 ?_
  rw [(sc j hj).2.2]
  refine g_iadd (pc := 26) o dX3_asVeteran_26 ?_
  exact g_iret (pc := 27) o f dX3_asVeteran_27 rfl (nI_add _ _) (hp_L (trc_trc Lg 100000 1))

def fRate (T S : Nat → Nat) (j k : Nat) : Int32 := match k with
  | 0 => nI (S (3 + j))
  | 1 => nI (S (3 + j) + pop (T (26 + j)))
  | 2 => nI (S (3 + j)) - nI (T (32 + j))
  | 3 => 2 * nI (S (3 + j) + pop (T (26 + j)))
  | 4 => nI (S (3 + j)) - nI (T (32 + j)) + nI j
  | _ => nI (S (3 + j) + S (15 + j))
def kRate (k : Nat) : Int64 := match k with
  | 0 => 1
  | 1 => 11
  | 2 => 101
  | 3 => 1011
  | 4 => 10101
  | _ => 100001
/-- rate: the answer, and what THE TRACE grows by -/
def aRate (T S : Nat → Nat) (v w : Int32) : Int32 := tbv w (T 2) (fun j => tbv v 6 (fRate T S j) (-1000000)) (-1000000)
def gRate (T : Nat → Nat) (v w : Int32) (x : Int64) : Int64 := if inn w (T 2) ∧ inn v 6 then x + kRate v.toNatClampNeg else x
theorem gRate_no {T : Nat → Nat} {v w : Int32} (Lg : HL) (h : ¬ (inn w (T 2) ∧ inn v 6)) : Lg = st2 Lg 0 16 (gRate T v w (Lg 0 16)) := by
  unfold gRate; rw [if_neg h]; funext z j; simp only [st2]; split
  · rename_i q; rw [q.1, q.2]
  · rfl
theorem gRate_yes {T : Nat → Nat} {j k : Nat} (Lg : HL) (hj : j < T 2) (h2 : T 2 ≤ 6) (hk : k < 6) : trc Lg (kRate k) = st2 Lg 0 16 (gRate T (nI k) (nI j) (Lg 0 16)) := by
  unfold gRate trc; rw [if_pos ⟨inn_nI hj (by omega), inn_nI hk (by decide)⟩, nI_clamp (by omega)]
set_option maxHeartbeats 2000000 in
set_option maxRecDepth 20000 in
theorem cX3rate {t b : Nat} {T S : Nat → Nat} (xb : XB M Rf n t T S b) {v w : Int32} : Ret Λ (d + 3) mX3_rate [.ref 0, .int v, .int w] (n, M, Rf, Lg) (some (.int (aRate T S v w))) (n, M, Rf, st2 Lg 0 16 (gRate T v w (Lg 0 16))) 0 0 := by
  refine Ret.of rfl rfl rfl (fun κ o f hin => ?_)
  obtain ⟨hx, hc, hn, ht, hm, hr, hs, os, hb9⟩ := id xb
  have rc := hx.city hc
  obtain ⟨x0, x1, x3, x4, x5, x8, x9, x10, x11, x13, x14, x15, xN, xC4, xC16, xP, xI, xT, xL, xNm⟩ := id hx
  obtain ⟨r3, r4, r6, r7, r8, r9, r11, r12, r13, r14, r15⟩ := id rc
  obtain ⟨z0, z1, z2, z3, z4, z5, z6, z7, z8, z9, z10, z11⟩ := city_shp hc
  obtain ⟨⟨t0, t0b⟩, t1, t2, t3, tD, tC, tN⟩ := id ht
  obtain ⟨m0, m1, m5, m10, mb, mj, mc, mn, ml⟩ := id hm
  have ra := xN 28 in28
  have rt := xN 32 in32
  obtain ⟨u3, u4, u5⟩ := id ra
  obtain ⟨v3, v4, v5⟩ := id rt
  obtain ⟨s0, s1, s2, sc⟩ := id hs
  obtain ⟨os0, os1, os2, osc⟩ := id os
  refine g_aload_n (pc := 0) o 0 dX3_rate_0 rfl rfl ?_
  refine g_iload_n (pc := 1) o 2 dX3_rate_1 rfl rfl ?_
  refine g_V1i (pc := 2) o lkRX3_97 cmX3_isCitizen (cX3isCitizen xb) (by first | assumption | rfl) (by first | assumption | omega) rfl rfl ⟨Nat.le_refl _, Nat.le_refl _⟩ dX3_rate_2 ?_
  refine g_if_ne (pc := 5) o 12 dX3_rate_5 (by decide) (fun q5 => ?_) (fun q5 => ?_)
  · obtain ⟨j, hj, rfl⟩ := inn_of (bi_nz.mp q5) (by omega)
    refine g_iload_n (pc := 12) o 1 dX3_rate_12 rfl rfl ?_
    rcases sw_cases v 6 (by decide) with hsw | ⟨kk, hkk, rfl⟩
    · refine g_tabO (pc := 13) o 88 dX3_rate_13 (by first | exact hsw | omega) (by decide) ?_
      refine g_ldcw (pc := 88) o ctRX3_271 dX3_rate_88 ?_
      exact g_iret (pc := 91) o f dX3_rate_91 rfl (by unfold aRate; rw [tbv_in hj (by omega), tbv_out (inn_neg hsw)]) (hp_L (gRate_no Lg (fun q => inn_neg hsw q.2)))
    · match kk, hkk with
      | 0, _ =>
        refine g_tabI (pc := 13) o 52 dX3_rate_13 (by decide) (by decide) rfl (by decide) ?_
        refine g_aload_n (pc := 52) o 0 dX3_rate_52 rfl rfl ?_
        refine g_iload_n (pc := 53) o 2 dX3_rate_53 rfl rfl ?_
        refine g_V1i (pc := 54) o lkRX3_272 cmX3_asCitizen (cX3asCitizen xb hj) (by first | assumption | rfl) (by first | assumption | omega) rfl rfl ⟨Nat.le_refl _, Nat.le_refl _⟩ dX3_rate_54 ?_
        exact g_iret (pc := 57) o f dX3_rate_57 rfl (by unfold aRate; rw [tbv_in hj (by omega), tbv_in (by decide) (by decide)]; rfl) (hp_L (gRate_yes (k := 0) Lg hj t2 (by decide)))
      | 1, _ =>
        refine g_tabI (pc := 13) o 58 dX3_rate_13 (by decide) (by decide) rfl (by decide) ?_
        refine g_aload_n (pc := 58) o 0 dX3_rate_58 rfl rfl ?_
        refine g_iload_n (pc := 59) o 2 dX3_rate_59 rfl rfl ?_
        refine g_V1i (pc := 60) o lkRX3_275 cmX3_asBaker (cX3asBaker xb hj) (by first | assumption | rfl) (by first | assumption | omega) rfl rfl ⟨Nat.le_refl _, Nat.le_refl _⟩ dX3_rate_60 ?_
        exact g_iret (pc := 63) o f dX3_rate_63 rfl (by unfold aRate; rw [tbv_in hj (by omega), tbv_in (by decide) (by decide)]; rfl) (hp_L (gRate_yes (k := 1) Lg hj t2 (by decide)))
      | 2, _ =>
        refine g_tabI (pc := 13) o 64 dX3_rate_13 (by decide) (by decide) rfl (by decide) ?_
        refine g_aload_n (pc := 64) o 0 dX3_rate_64 rfl rfl ?_
        refine g_iload_n (pc := 65) o 2 dX3_rate_65 rfl rfl ?_
        refine g_V1i (pc := 66) o lkRX3_278 cmX3_asDeputy (cX3asDeputy xb hj) (by first | assumption | rfl) (by first | assumption | omega) rfl rfl ⟨Nat.le_refl _, Nat.le_refl _⟩ dX3_rate_66 ?_
        exact g_iret (pc := 69) o f dX3_rate_69 rfl (by unfold aRate; rw [tbv_in hj (by omega), tbv_in (by decide) (by decide)]; rfl) (hp_L (gRate_yes (k := 2) Lg hj t2 (by decide)))
      | 3, _ =>
        refine g_tabI (pc := 13) o 70 dX3_rate_13 (by decide) (by decide) rfl (by decide) ?_
        refine g_aload_n (pc := 70) o 0 dX3_rate_70 rfl rfl ?_
        refine g_iload_n (pc := 71) o 2 dX3_rate_71 rfl rfl ?_
        refine g_V1i (pc := 72) o lkRX3_281 cmX3_asGuard (cX3asGuard xb hj) (by first | assumption | rfl) (by first | assumption | omega) rfl rfl ⟨Nat.le_refl _, Nat.le_refl _⟩ dX3_rate_72 ?_
        exact g_iret (pc := 75) o f dX3_rate_75 rfl (by unfold aRate; rw [tbv_in hj (by omega), tbv_in (by decide) (by decide)]; rfl) (hp_L (gRate_yes (k := 3) Lg hj t2 (by decide)))
      | 4, _ =>
        refine g_tabI (pc := 13) o 76 dX3_rate_13 (by decide) (by decide) rfl (by decide) ?_
        refine g_aload_n (pc := 76) o 0 dX3_rate_76 rfl rfl ?_
        refine g_iload_n (pc := 77) o 2 dX3_rate_77 rfl rfl ?_
        refine g_V1i (pc := 78) o lkRX3_284 cmX3_asTwin (cX3asTwin xb hj) (by first | assumption | rfl) (by first | assumption | omega) rfl rfl ⟨Nat.le_refl _, Nat.le_refl _⟩ dX3_rate_78 ?_
        exact g_iret (pc := 81) o f dX3_rate_81 rfl (by unfold aRate; rw [tbv_in hj (by omega), tbv_in (by decide) (by decide)]; rfl) (hp_L (gRate_yes (k := 4) Lg hj t2 (by decide)))
      | 5, _ =>
        refine g_tabI (pc := 13) o 82 dX3_rate_13 (by decide) (by decide) rfl (by decide) ?_
        refine g_aload_n (pc := 82) o 0 dX3_rate_82 rfl rfl ?_
        refine g_iload_n (pc := 83) o 2 dX3_rate_83 rfl rfl ?_
        refine g_V1i (pc := 84) o lkRX3_287 cmX3_asVeteran (cX3asVeteran xb hj) (by first | assumption | rfl) (by first | assumption | omega) rfl rfl ⟨Nat.le_refl _, Nat.le_refl _⟩ dX3_rate_84 ?_
        exact g_iret (pc := 87) o f dX3_rate_87 rfl (by unfold aRate; rw [tbv_in hj (by omega), tbv_in (by decide) (by decide)]; rfl) (hp_L (gRate_yes (k := 5) Lg hj t2 (by decide)))
  · refine g_ldcw (pc := 8) o ctRX3_271 dX3_rate_8 ?_
    exact g_iret (pc := 11) o f dX3_rate_11 rfl (by unfold aRate; rw [tbv_out (bi_z.mp q5)]) (hp_L (gRate_no Lg (fun q => bi_z.mp q5 q.1)))

set_option maxHeartbeats 2000000 in
set_option maxRecDepth 20000 in
theorem cX3wants {t b : Nat} {T S : Nat → Nat} (xb : XB M Rf n t T S b) {v : Int32} : Ret Λ (d + 2) mX3_wants [.ref 0, .int v] (n, M, Rf, Lg) (some (.int (tbv v (T 0) (fun j => nI (pop (mk (cou T S) (T 2) &&& liv T j))) (-1)))) (n, M, Rf, Lg) 0 0 := by
  refine Ret.of rfl rfl rfl (fun κ o f hin => ?_)
  obtain ⟨hx, hc, hn, ht, hm, hr, hs, os, hb9⟩ := id xb
  have rc := hx.city hc
  obtain ⟨x0, x1, x3, x4, x5, x8, x9, x10, x11, x13, x14, x15, xN, xC4, xC16, xP, xI, xT, xL, xNm⟩ := id hx
  obtain ⟨r3, r4, r6, r7, r8, r9, r11, r12, r13, r14, r15⟩ := id rc
  obtain ⟨z0, z1, z2, z3, z4, z5, z6, z7, z8, z9, z10, z11⟩ := city_shp hc
  obtain ⟨⟨t0, t0b⟩, t1, t2, t3, tD, tC, tN⟩ := id ht
  obtain ⟨m0, m1, m5, m10, mb, mj, mc, mn, ml⟩ := id hm
  have ra := xN 28 in28
  have rt := xN 32 in32
  obtain ⟨u3, u4, u5⟩ := id ra
  obtain ⟨v3, v4, v5⟩ := id rt
  obtain ⟨s0, s1, s2, sc⟩ := id hs
  obtain ⟨os0, os1, os2, osc⟩ := id os
  refine g_aload_n (pc := 0) o 0 dX3_wants_0 rfl rfl ?_
  refine g_iload_n (pc := 1) o 1 dX3_wants_1 rfl rfl ?_
  refine g_V1i (pc := 2) o lkRX3_87 cmX3_isDistrict (cX3isDistrict xb) (by first | assumption | rfl) (by first | assumption | omega) rfl rfl ⟨Nat.le_refl _, Nat.le_refl _⟩ dX3_wants_2 ?_
  refine g_if_ne (pc := 5) o 10 dX3_wants_5 (by decide) (fun q5 => ?_) (fun q5 => ?_)
  · obtain ⟨j, hj, rfl⟩ := inn_of (bi_nz.mp q5) (by omega)
    refine g_aload_n (pc := 10) o 0 dX3_wants_10 rfl rfl ?_
    refine g_getR (pc := 11) o flRX3_19 (by first | assumption | rfl) (by first | assumption | omega) (by assumption) dX3_wants_11 ?_
    refine g_aload_n (pc := 14) o 0 dX3_wants_14 rfl rfl ?_
    refine g_getR (pc := 15) o flRX3_29 (by first | assumption | rfl) (by first | assumption | omega) (by assumption) dX3_wants_15 ?_
    refine g_V1i (pc := 18) o lkRX3_240 cmX0_couldLieDown (cX0could hc hn rc ht hm in28 ra hs os) (by first | assumption | rfl) (by first | assumption | omega) rfl rfl ⟨Nat.le_refl _, Nat.le_refl _⟩ dX3_wants_18 ?_
    refine g_aload_n (pc := 21) o 0 dX3_wants_21 rfl rfl ?_
    refine g_getR (pc := 22) o flRX3_19 (by first | assumption | rfl) (by first | assumption | omega) (by assumption) dX3_wants_22 ?_
    refine g_getR (pc := 25) o flRX3_244 (by first | assumption | rfl) (by first | assumption | omega) (by assumption) dX3_wants_25 ?_
    refine g_iload_n (pc := 28) o 1 dX3_wants_28 rfl rfl ?_
    refine g_iald (pc := 29) o (j) (by first | assumption | rfl) (by first | assumption | omega) rfl (by omega) dX3_wants_29 ?_
    rw [ml j (by omega)]
    refine g_iand (pc := 30) o dX3_wants_30 ?_
    rw [n_and]
    refine g_S1i (pc := 31) o lkRX3_179 cmJ6_bitCount_0f7a4 (cbc (Nat.lt_trans (and6 (liv6 t2 _)) (by decide))) rfl rfl ⟨Nat.le_refl _, Nat.le_refl _⟩ dX3_wants_31 ?_
    exact g_iret (pc := 34) o f dX3_wants_34 rfl (by rw [tbv_in hj (by omega)]) rfl
  · refine g_iconst (pc := 8) (v := -1) o dX3_wants_8 (by decide) ?_
    exact g_iret (pc := 9) o f dX3_wants_9 rfl (by rw [tbv_out (bi_z.mp q5)]) rfl

set_option maxHeartbeats 2000000 in
set_option maxRecDepth 20000 in
theorem cX3lapses {t b : Nat} {T S : Nat → Nat} (xb : XB M Rf n t T S b) {w : Nat} (hw : w < 256) : Ret Λ (d + 1) mX3_lapses [.ref 0, .int (nI w)] (n, M, Rf, Lg) (some (.int (bi (pop w < T 1)))) (n, M, Rf, Lg) 0 0 := by
  refine Ret.of rfl rfl rfl (fun κ o f hin => ?_)
  obtain ⟨hx, hc, hn, ht, hm, hr, hs, os, hb9⟩ := id xb
  have rc := hx.city hc
  obtain ⟨x0, x1, x3, x4, x5, x8, x9, x10, x11, x13, x14, x15, xN, xC4, xC16, xP, xI, xT, xL, xNm⟩ := id hx
  obtain ⟨r3, r4, r6, r7, r8, r9, r11, r12, r13, r14, r15⟩ := id rc
  obtain ⟨z0, z1, z2, z3, z4, z5, z6, z7, z8, z9, z10, z11⟩ := city_shp hc
  obtain ⟨⟨t0, t0b⟩, t1, t2, t3, tD, tC, tN⟩ := id ht
  obtain ⟨m0, m1, m5, m10, mb, mj, mc, mn, ml⟩ := id hm
  have ra := xN 28 in28
  have rt := xN 32 in32
  obtain ⟨u3, u4, u5⟩ := id ra
  obtain ⟨v3, v4, v5⟩ := id rt
  obtain ⟨s0, s1, s2, sc⟩ := id hs
  obtain ⟨os0, os1, os2, osc⟩ := id os
  refine g_iload_n (pc := 0) o 1 dX3_lapses_0 rfl rfl ?_
  refine g_S1i (pc := 1) o lkRX3_179 cmJ6_bitCount_0f7a4 (cbc hw) rfl rfl ⟨Nat.le_refl _, Nat.le_refl _⟩ dX3_lapses_1 ?_
  refine g_aload_n (pc := 4) o 0 dX3_lapses_4 rfl rfl ?_
  refine g_getR (pc := 5) o flRX3_19 (by first | assumption | rfl) (by first | assumption | omega) (by assumption) dX3_lapses_5 ?_
  refine g_getI (pc := 8) o flRX3_185 (by first | assumption | rfl) (by first | assumption | omega) dX3_lapses_8 ?_
  refine g_icmp_ge (pc := 11) o 18 dX3_lapses_11 (by decide) (fun q11 => ?_) (fun q11 => ?_)
  · refine g_iconst (pc := 18) (v := 0) o dX3_lapses_18 (by decide) ?_
    exact g_iret (pc := 19) o f dX3_lapses_19 rfl (by have hp := pop_le w; first | exact (bi_f (by have := (le_N (by omega) (by omega) m1 rfl).mp q11; omega)).symm | exact (bi_t (by have := mt (le_N (by omega) (by omega) m1 rfl).mpr q11; omega)).symm) rfl
  · refine g_iconst (pc := 14) (v := 1) o dX3_lapses_14 (by decide) ?_
    refine g_goto (pc := 15) o 19 dX3_lapses_15 (by decide) ?_
    exact g_iret (pc := 19) o f dX3_lapses_19 rfl (by have hp := pop_le w; first | exact (bi_f (by have := (le_N (by omega) (by omega) m1 rfl).mp q11; omega)).symm | exact (bi_t (by have := mt (le_N (by omega) (by omega) m1 rfl).mpr q11; omega)).symm) rfl

/-- who could lie down, but one -/
def cdA (T S : Nat → Nat) (ab : Int32) (i : Nat) : Bool := cou T S i && !decide (nI i = ab)
def wA (T S : Nat → Nat) (ab : Int32) : Nat := slp T S (cdA T S ab)
theorem wA6 {T S : Nat → Nat} {ab : Int32} (h : T 2 ≤ 6) : wA T S ab < 64 := slp6 h
set_option maxHeartbeats 2000000 in
set_option maxRecDepth 20000 in
theorem cX3goBy {t b : Nat} {T S : Nat → Nat} (xb : XB M Rf n t T S b) {a b2 : Nat} {S2 : Nat → Nat} (ha : a ∈ nows) (hs2 : nwS M a S2 (T 2)) (os2 : okS S2 (T 2) b2) {ab : Int32} : Ret Λ (d + 4) mX3_goBy [.ref 0, .ref a, .int ab] (n, M, Rf, Lg) (some (.int (nI (wA T S2 ab)))) (n, passM M a (wA T S2 ab) (T 2) (T 1), Rf, Lg) 0 0 := by
  refine Ret.of rfl rfl rfl (fun κ o f hin => ?_)
  obtain ⟨hx, hc, hn, ht, hm, hr, hs, os, hb9⟩ := id xb
  have rc := hx.city hc
  obtain ⟨x0, x1, x3, x4, x5, x8, x9, x10, x11, x13, x14, x15, xN, xC4, xC16, xP, xI, xT, xL, xNm⟩ := id hx
  obtain ⟨r3, r4, r6, r7, r8, r9, r11, r12, r13, r14, r15⟩ := id rc
  obtain ⟨z0, z1, z2, z3, z4, z5, z6, z7, z8, z9, z10, z11⟩ := city_shp hc
  obtain ⟨⟨t0, t0b⟩, t1, t2, t3, tD, tC, tN⟩ := id ht
  obtain ⟨m0, m1, m5, m10, mb, mj, mc, mn, ml⟩ := id hm
  have ra := xN 28 in28
  have rt := xN 32 in32
  obtain ⟨u3, u4, u5⟩ := id ra
  obtain ⟨v3, v4, v5⟩ := id rt
  obtain ⟨s0, s1, s2, sc⟩ := id hs
  obtain ⟨os0, os1, os2_, osc⟩ := id os
  obtain ⟨y0, y1, y2, y3, ylt⟩ := now_shp ha
  refine g_aload_n (pc := 0) o 0 dX3_goBy_0 rfl rfl ?_
  refine g_getR (pc := 1) o flRX3_19 (by first | assumption | rfl) (by first | assumption | omega) (by assumption) dX3_goBy_1 ?_
  refine g_aload_n (pc := 4) o 1 dX3_goBy_4 rfl rfl ?_
  refine g_iload_n (pc := 5) o 2 dX3_goBy_5 rfl rfl ?_
  refine g_V2i (pc := 6) o lkRX3_172 cmX0_asleep (cX0asleep hc hn rc ht hm ha (hx.now ha) hs2 os2 hr) (by first | assumption | rfl) (by first | assumption | omega) rfl rfl ⟨Nat.le_refl _, Nat.le_refl _⟩ dX3_goBy_6 ?_
  refine g_istore_n (pc := 9) o 3 dX3_goBy_9 rfl rfl ?_
  refine g_aload_n (pc := 10) o 1 dX3_goBy_10 rfl rfl ?_
  refine g_aload_n (pc := 11) o 0 dX3_goBy_11 rfl rfl ?_
  refine g_getR (pc := 12) o flRX3_19 (by first | assumption | rfl) (by first | assumption | omega) (by assumption) dX3_goBy_12 ?_
  refine g_iload_n (pc := 15) o 3 dX3_goBy_15 rfl rfl ?_
  refine g_V2v (pc := 16) o lkRX3_175 cmX1_pass (cX1pass ha (hx.now ha) hc hn t1 t2 m1 m5 (Nat.lt_trans (slp6 t2) (by decide))) (by first | assumption | rfl) (by first | assumption | omega) rfl rfl ⟨Nat.le_refl _, Nat.le_refl _⟩ dX3_goBy_16 ?_
  refine g_iload_n (pc := 19) o 3 dX3_goBy_19 rfl rfl ?_
  exact g_iret (pc := 20) o f dX3_goBy_20 rfl rfl rfl

set_option maxHeartbeats 2000000 in
set_option maxRecDepth 20000 in
theorem cX3hourAhead {t b : Nat} {T S : Nat → Nat} (xb : XB M Rf n t T S b) {k : Nat} (hk : k < 1000) : Ret Λ (d) mX3_hourAhead [.ref 0, .int (nI k)] (n, M, Rf, Lg) (some (.int (nI ((S 1 + k) % 8)))) (n, M, Rf, Lg) 0 0 := by
  refine Ret.of rfl rfl rfl (fun κ o f hin => ?_)
  obtain ⟨hx, hc, hn, ht, hm, hr, hs, os, hb9⟩ := id xb
  have rc := hx.city hc
  obtain ⟨x0, x1, x3, x4, x5, x8, x9, x10, x11, x13, x14, x15, xN, xC4, xC16, xP, xI, xT, xL, xNm⟩ := id hx
  obtain ⟨r3, r4, r6, r7, r8, r9, r11, r12, r13, r14, r15⟩ := id rc
  obtain ⟨z0, z1, z2, z3, z4, z5, z6, z7, z8, z9, z10, z11⟩ := city_shp hc
  obtain ⟨⟨t0, t0b⟩, t1, t2, t3, tD, tC, tN⟩ := id ht
  obtain ⟨m0, m1, m5, m10, mb, mj, mc, mn, ml⟩ := id hm
  have ra := xN 28 in28
  have rt := xN 32 in32
  obtain ⟨u3, u4, u5⟩ := id ra
  obtain ⟨v3, v4, v5⟩ := id rt
  obtain ⟨s0, s1, s2, sc⟩ := id hs
  obtain ⟨os0, os1, os2, osc⟩ := id os
  refine g_aload_n (pc := 0) o 0 dX3_hourAhead_0 rfl rfl ?_
  refine g_getR (pc := 1) o flRX3_29 (by first | assumption | rfl) (by first | assumption | omega) (by assumption) dX3_hourAhead_1 ?_
  refine g_getI (pc := 4) o flRX3_133 (by first | assumption | rfl) (by first | assumption | omega) dX3_hourAhead_4 ?_
  refine g_iload_n (pc := 7) o 1 dX3_hourAhead_7 rfl rfl ?_
  refine g_iadd (pc := 8) o dX3_hourAhead_8 ?_
  refine g_bipush (pc := 9) (v := 8) o dX3_hourAhead_9 (by decide) ?_
  refine g_irem (pc := 11) o dX3_hourAhead_11 (by decide) ?_
  exact g_iret (pc := 12) o f dX3_hourAhead_12 rfl (by rw [s1, nI_add]; exact pk_rem (a := S 1 + k) (d := 8) (by omega) (by decide) (by decide)) rfl

end M6
