section M7
variable {Λ : PL} {d n : Nat} {M : HM} {Rf : HR} {Lg : HL}

theorem st2_same {α : Type} (M : Nat → Nat → α) (k j : Nat) (v : α) : st2 M k j v k j = v := by simp [st2]
theorem st2_ne2 {α : Type} (M : Nat → Nat → α) {k j : Nat} (v : α) {x y : Nat} (h : ¬ (x = k ∧ y = j)) : st2 M k j v x y = M x y := by simp [st2, h]
/-- the present is remembered -/
def rmbM (M : HM) (lat pk : Nat) : HM := st2 (bcmM (st2 M 0 6 (nI ((lat + 1) % 10))) (48 + 4 * ((lat + 1) % 10)) 28) 0 7 (nI (min (pk + 1) 10))
theorem rmbM_ne (M : HM) (lat pk : Nat) {z : Nat} (h1 : z ≠ 0) (h : z < 48 ∨ 88 ≤ z) : rmbM M lat pk z = M z := by
  have hl : (lat + 1) % 10 < 10 := Nat.mod_lt _ (by decide)
  unfold rmbM
  rw [st2_ne _ _ _ h1, bcmM_ne _ _ _ (by omega), st2_ne _ _ _ h1]
set_option maxHeartbeats 2000000 in
set_option maxRecDepth 20000 in
theorem cX3remember {t b : Nat} {T S : Nat → Nat} (xb : XB M Rf n t T S b) {lat pk : Nat} (hlat : M 0 6 = nI lat) (hl10 : lat < 10) (hpk : M 0 7 = nI pk) (hp10 : pk ≤ 10) : Ret Λ (d + 3) mX3_remember [.ref 0] (n, M, Rf, Lg) none (n, rmbM M lat pk, Rf, Lg) 0 0 := by
  refine Ret.of rfl rfl rfl (fun κ o f hin => ?_)
  obtain ⟨hx, hc, hn, ht, hm, hr, hs, os, hb9⟩ := id xb
  have rc := hx.city hc
  obtain ⟨x0, x1, x3, x4, x5, x8, x9, x10, x11, x13, x14, x15, xN, xC4, xC16, xP, xI, xT, xL, xNm⟩ := id hx
  obtain ⟨r3, r4, r6, r7, r8, r9, r11, r12, r13, r14, r15⟩ := id rc
  obtain ⟨z0, z1, z2, z3, z4, z5, z6, z7, z8, z9, z10, z11⟩ := city_shp hc
  obtain ⟨⟨t0, t0b⟩, t1, t2, t3, tD, tC, tN⟩ := id ht
  obtain ⟨m0, m1, m5, m10, mb, mj, mc, mn, ml⟩ := id hm
  have ra := xN 28 in28
  have rt := xN 32 in32
  obtain ⟨u3, u4, u5⟩ := id ra
  obtain ⟨v3, v4, v5⟩ := id rt
  obtain ⟨s0, s1, s2, sc⟩ := id hs
  obtain ⟨os0, os1, os2, osc⟩ := id os
  obtain ⟨l1, hl1⟩ : ∃ l1, l1 = (lat + 1) % 10 := ⟨_, rfl⟩
  have hl1b : l1 < 10 := by omega
  obtain ⟨y0, y1, y2, y3, ylt⟩ := now_shp (past_in l1 hl1b)
  refine g_aload_n (pc := 0) o 0 dX3_remember_0 rfl rfl ?_
  refine g_aload_n (pc := 1) o 0 dX3_remember_1 rfl rfl ?_
  refine g_getI (pc := 2) o flRX3_159 (by first | assumption | rfl) (by first | assumption | omega) dX3_remember_2 ?_
  refine g_iconst (pc := 5) (v := 1) o dX3_remember_5 (by decide) ?_
  refine g_iadd (pc := 6) o dX3_remember_6 ?_
  refine g_bipush (pc := 7) (v := 10) o dX3_remember_7 (by decide) ?_
  refine g_irem (pc := 9) o dX3_remember_9 (by decide) ?_
  rw [hlat, nI_1, show nI (lat + 1) - nI (lat + 1) / 10 * 10 = nI ((lat + 1) % 10) from pk_rem (by omega) (by decide) (by decide), ← hl1]
  refine g_putI (pc := 10) o flRX3_159 rfl (by first | assumption | rfl) (by first | assumption | omega) rfl rfl dX3_remember_10 ?_
  refine g_aload_n (pc := 13) o 0 dX3_remember_13 rfl rfl ?_
  refine g_getR (pc := 14) o flRX3_36 (by first | assumption | rfl) (by first | assumption | omega) (by assumption) dX3_remember_14 ?_
  refine g_aload_n (pc := 17) o 0 dX3_remember_17 rfl rfl ?_
  refine g_getI (pc := 18) o flRX3_159 (by first | assumption | rfl) (by first | assumption | omega) dX3_remember_18 ?_
  rw [st2_same]
  refine g_aald (pc := 21) o (l1) (by first | assumption | rfl) (by first | exact Or.inl rfl | exact Or.inr rfl) (by first | assumption | omega) rfl (by omega) (xP l1 hl1b) dX3_remember_21 ?_
  refine g_aload_n (pc := 22) o 0 dX3_remember_22 rfl rfl ?_
  refine g_getR (pc := 23) o flRX3_29 (by first | assumption | rfl) (by first | assumption | omega) (by assumption) dX3_remember_23 ?_
  refine g_V1v (pc := 26) o lkRX3_162 cmX1_become (cX1become (past_in l1 hl1b) (xN _ (past_in l1 hl1b)) in28 ra hn) (by first | assumption | rfl) (by first | assumption | omega) rfl rfl ⟨Nat.le_refl _, Nat.le_refl _⟩ dX3_remember_26 ?_
  refine g_aload_n (pc := 29) o 0 dX3_remember_29 rfl rfl ?_
  refine g_aload_n (pc := 30) o 0 dX3_remember_30 rfl rfl ?_
  refine g_getI (pc := 31) o flRX3_81 (by first | assumption | rfl) (by first | assumption | omega) dX3_remember_31 ?_
  rw [show bcmM (st2 M 0 6 (nI l1)) (48 + 4 * l1) 28 0 7 = nI pk from by rw [bcmM_ne _ _ _ (by omega), st2_ne2 _ _ (by omega)]; exact hpk]
  refine g_iconst (pc := 34) (v := 1) o dX3_remember_34 (by decide) ?_
  refine g_iadd (pc := 35) o dX3_remember_35 ?_
  rw [nI_1]
  refine g_bipush (pc := 36) (v := 10) o dX3_remember_36 (by decide) ?_
  refine g_min (pc := 38) o lkRX3_166 rfl rfl ⟨Nat.le_refl _, Nat.le_refl _⟩ dX3_remember_38 ?_ st_min ini_math co_min
  rw [show (if (10 : Int32) < nI (pk + 1) then 10 else nI (pk + 1)) = nI (min (pk + 1) 10) from n_min (a := pk + 1) (b := 10) (by omega) (by decide)]
  refine g_putI (pc := 41) o flRX3_81 rfl (by first | assumption | rfl) (by first | assumption | omega) rfl rfl dX3_remember_41 ?_
  exact g_vret (pc := 44) o f dX3_remember_44 (hp_M (by unfold rmbM; rw [← hl1]))

def mUndo (M : HM) (lat pk : Nat) : HM := if pk = 0 then M else st2 (st2 (bcmM M 28 (48 + 4 * lat)) 0 6 (nI ((lat + 9) % 10))) 0 7 (nI (pk - 1))
def aUndo (pk : Nat) : Int32 := if pk = 0 then -2 else nI (pk - 1)
theorem n_sub1 {a : Nat} (h : 1 ≤ a) : nI a - 1 = nI (a - 1) := by
  obtain ⟨k, rfl⟩ : ∃ k, a = k + 1 := ⟨a - 1, by omega⟩
  exact nI_pred k
set_option maxHeartbeats 2000000 in
set_option maxRecDepth 20000 in
theorem cX3undo {t b : Nat} {T S : Nat → Nat} (xb : XB M Rf n t T S b) {lat pk : Nat} (hlat : M 0 6 = nI lat) (hl10 : lat < 10) (hpk : M 0 7 = nI pk) (hp10 : pk ≤ 10) : Ret Λ (d + 3) mX3_undo [.ref 0] (n, M, Rf, Lg) (some (.int (aUndo pk))) (n, mUndo M lat pk, Rf, Lg) 0 0 := by
  refine Ret.of rfl rfl rfl (fun κ o f hin => ?_)
  obtain ⟨hx, hc, hn, ht, hm, hr, hs, os, hb9⟩ := id xb
  have rc := hx.city hc
  obtain ⟨x0, x1, x3, x4, x5, x8, x9, x10, x11, x13, x14, x15, xN, xC4, xC16, xP, xI, xT, xL, xNm⟩ := id hx
  obtain ⟨r3, r4, r6, r7, r8, r9, r11, r12, r13, r14, r15⟩ := id rc
  obtain ⟨z0, z1, z2, z3, z4, z5, z6, z7, z8, z9, z10, z11⟩ := city_shp hc
  obtain ⟨⟨t0, t0b⟩, t1, t2, t3, tD, tC, tN⟩ := id ht
  obtain ⟨m0, m1, m5, m10, mb, mj, mc, mn, ml⟩ := id hm
  have ra := xN 28 in28
  have rt := xN 32 in32
  obtain ⟨u3, u4, u5⟩ := id ra
  obtain ⟨v3, v4, v5⟩ := id rt
  obtain ⟨s0, s1, s2, sc⟩ := id hs
  obtain ⟨os0, os1, os2, osc⟩ := id os
  refine g_aload_n (pc := 0) o 0 dX3_undo_0 rfl rfl ?_
  refine g_getI (pc := 1) o flRX3_81 (by first | assumption | rfl) (by first | assumption | omega) dX3_undo_1 ?_
  refine g_iconst (pc := 4) (v := 1) o dX3_undo_4 (by decide) ?_
  refine g_icmp_ge (pc := 5) o 11 dX3_undo_5 (by decide) (fun q5 => ?_) (fun q5 => ?_)
  · have hp1 : 1 ≤ pk := (le_N (a := 1) (by decide) (by omega) rfl hpk).mp q5
    refine g_aload_n (pc := 11) o 0 dX3_undo_11 rfl rfl ?_
    refine g_getR (pc := 12) o flRX3_29 (by first | assumption | rfl) (by first | assumption | omega) (by assumption) dX3_undo_12 ?_
    refine g_aload_n (pc := 15) o 0 dX3_undo_15 rfl rfl ?_
    refine g_getR (pc := 16) o flRX3_36 (by first | assumption | rfl) (by first | assumption | omega) (by assumption) dX3_undo_16 ?_
    refine g_aload_n (pc := 19) o 0 dX3_undo_19 rfl rfl ?_
    refine g_getI (pc := 20) o flRX3_159 (by first | assumption | rfl) (by first | assumption | omega) dX3_undo_20 ?_
    refine g_aald (pc := 23) o (lat) (by first | assumption | rfl) (by first | exact Or.inl rfl | exact Or.inr rfl) (by first | assumption | omega) hlat (by omega) (xP lat hl10) dX3_undo_23 ?_
    refine g_V1v (pc := 24) o lkRX3_162 cmX1_become (cX1become in28 ra (past_in lat hl10) (xN _ (past_in lat hl10)) hn) (by first | assumption | rfl) (by first | assumption | omega) rfl rfl ⟨Nat.le_refl _, Nat.le_refl _⟩ dX3_undo_24 ?_
    refine g_aload_n (pc := 27) o 0 dX3_undo_27 rfl rfl ?_
    refine g_aload_n (pc := 28) o 0 dX3_undo_28 rfl rfl ?_
    refine g_getI (pc := 29) o flRX3_159 (by first | assumption | rfl) (by first | assumption | omega) dX3_undo_29 ?_
    rw [show bcmM M 28 (48 + 4 * lat) 0 6 = nI lat from by rw [bcmM_ne _ _ _ (by omega)]; exact hlat]
    refine g_bipush (pc := 32) (v := 10) o dX3_undo_32 (by decide) ?_
    refine g_iadd (pc := 34) o dX3_undo_34 ?_
    refine g_iconst (pc := 35) (v := 1) o dX3_undo_35 (by decide) ?_
    refine g_isub (pc := 36) o dX3_undo_36 ?_
    refine g_bipush (pc := 37) (v := 10) o dX3_undo_37 (by decide) ?_
    refine g_irem (pc := 39) o dX3_undo_39 (by decide) ?_
    rw [show nI lat + 10 - 1 = nI (lat + 9) from by rw [show (10 : Int32) = nI 10 from rfl, nI_add, n_sub1 (by omega)]; rfl, show nI (lat + 9) - nI (lat + 9) / 10 * 10 = nI ((lat + 9) % 10) from pk_rem (by omega) (by decide) (by decide)]
    refine g_putI (pc := 40) o flRX3_159 rfl (by first | assumption | rfl) (by first | assumption | omega) rfl rfl dX3_undo_40 ?_
    refine g_aload_n (pc := 43) o 0 dX3_undo_43 rfl rfl ?_
    refine g_dup (pc := 44) o dX3_undo_44 rfl ?_
    refine g_getI (pc := 45) o flRX3_81 (by first | assumption | rfl) (by first | assumption | omega) dX3_undo_45 ?_
    rw [show st2 (bcmM M 28 (48 + 4 * lat)) 0 6 (nI ((lat + 9) % 10)) 0 7 = nI pk from by rw [st2_ne2 _ _ (by omega), bcmM_ne _ _ _ (by omega)]; exact hpk]
    refine g_iconst (pc := 48) (v := 1) o dX3_undo_48 (by decide) ?_
    refine g_isub (pc := 49) o dX3_undo_49 ?_
    rw [n_sub1 hp1]
    refine g_putI (pc := 50) o flRX3_81 rfl (by first | assumption | rfl) (by first | assumption | omega) rfl rfl dX3_undo_50 ?_
    refine g_aload_n (pc := 53) o 0 dX3_undo_53 rfl rfl ?_
    refine g_getI (pc := 54) o flRX3_81 (by first | assumption | rfl) (by first | assumption | omega) dX3_undo_54 ?_
    exact g_iret (pc := 57) o f dX3_undo_57 rfl (by rw [st2_same]; unfold aUndo; rw [if_neg (by omega)]) (hp_M (by unfold mUndo; rw [if_neg (by omega)]))
  · have hp0 : pk = 0 := by have := mt (le_N (a := 1) (by decide) (by omega) rfl hpk).mpr q5; omega
    refine g_bipush (pc := 8) (v := -2) o dX3_undo_8 (by decide) ?_
    exact g_iret (pc := 10) o f dX3_undo_10 rfl (by unfold aUndo; rw [if_pos hp0]) (hp_M (by unfold mUndo; rw [if_pos hp0]))

def mCalls (T : Nat → Nat) (M : HM) (lat pk : Nat) (v w : Int32) : HM := if inn v (T 2) ∧ inn w 256 then st2 (rmbM M lat pk) 30 v.toNatClampNeg w else M
def aCalls (T S : Nat → Nat) (v w : Int32) : Int32 := if inn v (T 2) ∧ inn w 256 then nI (S (9 + v.toNatClampNeg)) else -1
set_option maxHeartbeats 2000000 in
set_option maxRecDepth 20000 in
theorem cX3calls {t b : Nat} {T S : Nat → Nat} (xb : XB M Rf n t T S b) {lat pk : Nat} (hlat : M 0 6 = nI lat) (hl10 : lat < 10) (hpk : M 0 7 = nI pk) (hp10 : pk ≤ 10) {v w : Int32} : Ret Λ (d + 4) mX3_calls [.ref 0, .int v, .int w] (n, M, Rf, Lg) (some (.int (aCalls T S v w))) (n, mCalls T M lat pk v w, Rf, Lg) 0 0 := by
  refine Ret.of rfl rfl rfl (fun κ o f hin => ?_)
  obtain ⟨hx, hc, hn, ht, hm, hr, hs, os, hb9⟩ := id xb
  have rc := hx.city hc
  obtain ⟨x0, x1, x3, x4, x5, x8, x9, x10, x11, x13, x14, x15, xN, xC4, xC16, xP, xI, xT, xL, xNm⟩ := id hx
  obtain ⟨r3, r4, r6, r7, r8, r9, r11, r12, r13, r14, r15⟩ := id rc
  obtain ⟨z0, z1, z2, z3, z4, z5, z6, z7, z8, z9, z10, z11⟩ := city_shp hc
  obtain ⟨⟨t0, t0b⟩, t1, t2, t3, tD, tC, tN⟩ := id ht
  obtain ⟨m0, m1, m5, m10, mb, mj, mc, mn, ml⟩ := id hm
  have ra := xN 28 in28
  have rt := xN 32 in32
  obtain ⟨u3, u4, u5⟩ := id ra
  obtain ⟨v3, v4, v5⟩ := id rt
  obtain ⟨s0, s1, s2, sc⟩ := id hs
  obtain ⟨os0, os1, os2, osc⟩ := id os
  refine g_aload_n (pc := 0) o 0 dX3_calls_0 rfl rfl ?_
  refine g_iload_n (pc := 1) o 1 dX3_calls_1 rfl rfl ?_
  refine g_V1i (pc := 2) o lkRX3_97 cmX3_isCitizen (cX3isCitizen xb) (by first | assumption | rfl) (by first | assumption | omega) rfl rfl ⟨Nat.le_refl _, Nat.le_refl _⟩ dX3_calls_2 ?_
  refine g_if_eq (pc := 5) o 19 dX3_calls_5 (by decide) (fun q5 => ?_) (fun q5 => ?_)
  · have hv : ¬ (inn v (T 2) ∧ inn w 256) := fun q => bi_z.mp q5 q.1
    refine g_iconst (pc := 19) (v := -1) o dX3_calls_19 (by decide) ?_
    exact g_iret (pc := 20) o f dX3_calls_20 rfl (by unfold aCalls; rw [if_neg hv]) (hp_M (by unfold mCalls; rw [if_neg hv]))
  · have hv1 := bi_nz.mp q5
    refine g_iload_n (pc := 8) o 2 dX3_calls_8 rfl rfl ?_
    refine g_if_lt (pc := 9) o 19 dX3_calls_9 (by decide) (fun q9 => ?_) (fun q9 => ?_)
    · have hv : ¬ (inn v (T 2) ∧ inn w 256) := fun q => inn_lt0 q9 q.2
      refine g_iconst (pc := 19) (v := -1) o dX3_calls_19 (by decide) ?_
      exact g_iret (pc := 20) o f dX3_calls_20 rfl (by unfold aCalls; rw [if_neg hv]) (hp_M (by unfold mCalls; rw [if_neg hv]))
    · refine g_iload_n (pc := 12) o 2 dX3_calls_12 rfl rfl ?_
      refine g_sipush (pc := 13) (v := 255) o dX3_calls_13 (by decide) ?_
      refine g_icmp_le (pc := 16) o 21 dX3_calls_16 (by decide) (fun q16 => ?_) (fun q16 => ?_)
      · have hv : inn v (T 2) ∧ inn w 256 := ⟨hv1, inn_le (N := 255) (by decide) rfl q9 q16⟩
        obtain ⟨j, hj, rfl⟩ := inn_of hv1 (by omega)
        refine g_aload_n (pc := 21) o 0 dX3_calls_21 rfl rfl ?_
        refine g_V0v (pc := 22) o lkRX3_152 cmX3_remember (cX3remember xb hlat hl10 hpk hp10) (by first | assumption | rfl) (by first | assumption | omega) rfl rfl ⟨Nat.le_refl _, Nat.le_refl _⟩ dX3_calls_22 ?_
        refine g_aload_n (pc := 25) o 0 dX3_calls_25 rfl rfl ?_
        refine g_getR (pc := 26) o flRX3_29 (by first | assumption | rfl) (by first | assumption | omega) (by assumption) dX3_calls_26 ?_
        refine g_getR (pc := 29) o flRX3_112 (by first | assumption | rfl) (by first | assumption | omega) (by assumption) dX3_calls_29 ?_
        refine g_iload_n (pc := 32) o 1 dX3_calls_32 rfl rfl ?_
        refine g_iald (pc := 33) o (j) (by first | assumption | rfl) (by first | assumption | omega) rfl (by omega) dX3_calls_33 ?_
        refine g_istore_n (pc := 34) o 3 dX3_calls_34 rfl rfl ?_
        refine g_aload_n (pc := 35) o 0 dX3_calls_35 rfl rfl ?_
        refine g_getR (pc := 36) o flRX3_29 (by first | assumption | rfl) (by first | assumption | omega) (by assumption) dX3_calls_36 ?_
        refine g_getR (pc := 39) o flRX3_112 (by first | assumption | rfl) (by first | assumption | omega) (by assumption) dX3_calls_39 ?_
        refine g_iload_n (pc := 42) o 1 dX3_calls_42 rfl rfl ?_
        refine g_iload_n (pc := 43) o 2 dX3_calls_43 rfl rfl ?_
        refine g_iast (pc := 44) o (j) (by first | assumption | rfl) (by first | assumption | omega) rfl (by omega) dX3_calls_44 ?_
        refine g_iload_n (pc := 45) o 3 dX3_calls_45 rfl rfl ?_
        exact g_iret (pc := 46) o f dX3_calls_46 rfl (by rw [rmbM_ne _ _ _ (by decide) (by decide), (sc j hj).2.1]; unfold aCalls; rw [if_pos hv, nI_clamp (by omega)]) (hp_M (by unfold mCalls; rw [if_pos hv, nI_clamp (by omega)]))
      · have hv : ¬ (inn v (T 2) ∧ inn w 256) := fun q => inn_gt (N := 255) (by decide) rfl (Int32.not_le.mp q16) q.2
        refine g_iconst (pc := 19) (v := -1) o dX3_calls_19 (by decide) ?_
        exact g_iret (pc := 20) o f dX3_calls_20 rfl (by unfold aCalls; rw [if_neg hv]) (hp_M (by unfold mCalls; rw [if_neg hv]))

def mHour (T S : Nat → Nat) (M : HM) (lat pk : Nat) : HM := if S 0 < 99 then passM (rmbM M lat pk) 28 (wA T S (-1)) (T 2) (T 1) else M
def aHour (T S : Nat → Nat) : Int32 := if S 0 < 99 then nI (wA T S (-1)) else -2
set_option maxHeartbeats 2000000 in
set_option maxRecDepth 20000 in
theorem cX3hour {t b : Nat} {T S : Nat → Nat} (xb : XB M Rf n t T S b) {lat pk : Nat} (hlat : M 0 6 = nI lat) (hl10 : lat < 10) (hpk : M 0 7 = nI pk) (hp10 : pk ≤ 10) : Ret Λ (d + 5) mX3_hour [.ref 0] (n, M, Rf, Lg) (some (.int (aHour T S))) (n, mHour T S M lat pk, Rf, Lg) 0 0 := by
  refine Ret.of rfl rfl rfl (fun κ o f hin => ?_)
  obtain ⟨hx, hc, hn, ht, hm, hr, hs, os, hb9⟩ := id xb
  have rc := hx.city hc
  obtain ⟨x0, x1, x3, x4, x5, x8, x9, x10, x11, x13, x14, x15, xN, xC4, xC16, xP, xI, xT, xL, xNm⟩ := id hx
  obtain ⟨r3, r4, r6, r7, r8, r9, r11, r12, r13, r14, r15⟩ := id rc
  obtain ⟨z0, z1, z2, z3, z4, z5, z6, z7, z8, z9, z10, z11⟩ := city_shp hc
  obtain ⟨⟨t0, t0b⟩, t1, t2, t3, tD, tC, tN⟩ := id ht
  obtain ⟨m0, m1, m5, m10, mb, mj, mc, mn, ml⟩ := id hm
  have ra := xN 28 in28
  have rt := xN 32 in32
  obtain ⟨u3, u4, u5⟩ := id ra
  obtain ⟨v3, v4, v5⟩ := id rt
  obtain ⟨s0, s1, s2, sc⟩ := id hs
  obtain ⟨os0, os1, os2, osc⟩ := id os
  refine g_aload_n (pc := 0) o 0 dX3_hour_0 rfl rfl ?_
  refine g_getR (pc := 1) o flRX3_29 (by first | assumption | rfl) (by first | assumption | omega) (by assumption) dX3_hour_1 ?_
  refine g_getI (pc := 4) o flRX3_130 (by first | assumption | rfl) (by first | assumption | omega) dX3_hour_4 ?_
  refine g_bipush (pc := 7) (v := 99) o dX3_hour_7 (by decide) ?_
  refine g_icmp_lt (pc := 9) o 15 dX3_hour_9 (by decide) (fun q9 => ?_) (fun q9 => ?_)
  · have h99 : S 0 < 99 := (lt_N (b := 99) (by omega) (by decide) s0 rfl).mp q9
    have xb2 : XB (rmbM M lat pk) Rf n t T S b := xb.kept (fun z h1 h2 => rmbM_ne _ _ _ (by omega) (by omega))
    refine g_aload_n (pc := 15) o 0 dX3_hour_15 rfl rfl ?_
    refine g_V0v (pc := 16) o lkRX3_152 cmX3_remember (cX3remember xb hlat hl10 hpk hp10) (by first | assumption | rfl) (by first | assumption | omega) rfl rfl ⟨Nat.le_refl _, Nat.le_refl _⟩ dX3_hour_16 ?_
    refine g_aload_n (pc := 19) o 0 dX3_hour_19 rfl rfl ?_
    refine g_aload_n (pc := 20) o 0 dX3_hour_20 rfl rfl ?_
    refine g_getR (pc := 21) o flRX3_29 (by first | assumption | rfl) (by first | assumption | omega) (by assumption) dX3_hour_21 ?_
    refine g_iconst (pc := 24) (v := -1) o dX3_hour_24 (by decide) ?_
    refine g_V2i (pc := 25) o lkRX3_155 cmX3_goBy (cX3goBy xb2 in28 xb2.2.2.2.2.2.2.1 os) (by first | assumption | rfl) (by first | assumption | omega) rfl rfl ⟨Nat.le_refl _, Nat.le_refl _⟩ dX3_hour_25 ?_
    exact g_iret (pc := 28) o f dX3_hour_28 rfl (by unfold aHour; rw [if_pos h99]) (hp_M (by unfold mHour; rw [if_pos h99]))
  · have h99 : ¬ S 0 < 99 := mt (lt_N (b := 99) (by omega) (by decide) s0 rfl).mpr q9
    refine g_bipush (pc := 12) (v := -2) o dX3_hour_12 (by decide) ?_
    exact g_iret (pc := 14) o f dX3_hour_14 rfl (by unfold aHour; rw [if_neg h99]) (hp_M (by unfold mHour; rw [if_neg h99]))

def mKeep (M : HM) (v : Int32) : HM := if inn v 2 then st2 (bcmM M (88 + 4 * v.toNatClampNeg) 28) 38 v.toNatClampNeg 1 else M
def aKeep (S : Nat → Nat) (v : Int32) : Int32 := if inn v 2 then nI (S 0) else -1
set_option maxHeartbeats 2000000 in
set_option maxRecDepth 20000 in
theorem cX3keep {t b : Nat} {T S : Nat → Nat} (xb : XB M Rf n t T S b) {v : Int32} : Ret Λ (d + 3) mX3_keep [.ref 0, .int v] (n, M, Rf, Lg) (some (.int (aKeep S v))) (n, mKeep M v, Rf, Lg) 0 0 := by
  refine Ret.of rfl rfl rfl (fun κ o f hin => ?_)
  obtain ⟨hx, hc, hn, ht, hm, hr, hs, os, hb9⟩ := id xb
  have rc := hx.city hc
  obtain ⟨x0, x1, x3, x4, x5, x8, x9, x10, x11, x13, x14, x15, xN, xC4, xC16, xP, xI, xT, xL, xNm⟩ := id hx
  obtain ⟨r3, r4, r6, r7, r8, r9, r11, r12, r13, r14, r15⟩ := id rc
  obtain ⟨z0, z1, z2, z3, z4, z5, z6, z7, z8, z9, z10, z11⟩ := city_shp hc
  obtain ⟨⟨t0, t0b⟩, t1, t2, t3, tD, tC, tN⟩ := id ht
  obtain ⟨m0, m1, m5, m10, mb, mj, mc, mn, ml⟩ := id hm
  have ra := xN 28 in28
  have rt := xN 32 in32
  obtain ⟨u3, u4, u5⟩ := id ra
  obtain ⟨v3, v4, v5⟩ := id rt
  obtain ⟨s0, s1, s2, sc⟩ := id hs
  obtain ⟨os0, os1, os2, osc⟩ := id os
  refine g_iload_n (pc := 0) o 1 dX3_keep_0 rfl rfl ?_
  refine g_if_lt (pc := 1) o 9 dX3_keep_1 (by decide) (fun q1 => ?_) (fun q1 => ?_)
  · have hv : ¬ inn v 2 := inn_lt0 q1
    refine g_iconst (pc := 9) (v := -1) o dX3_keep_9 (by decide) ?_
    exact g_iret (pc := 10) o f dX3_keep_10 rfl (by unfold aKeep; rw [if_neg hv]) (hp_M (by unfold mKeep; rw [if_neg hv]))
  · refine g_iload_n (pc := 4) o 1 dX3_keep_4 rfl rfl ?_
    refine g_iconst (pc := 5) (v := 2) o dX3_keep_5 (by decide) ?_
    refine g_icmp_lt (pc := 6) o 11 dX3_keep_6 (by decide) (fun q6 => ?_) (fun q6 => ?_)
    · have hv : inn v 2 := inn_lt (N := 2) (by decide) rfl q1 q6
      obtain ⟨j, hj, rfl⟩ := inn_of hv (by decide)
      obtain ⟨y0, y1, y2, y3, ylt⟩ := now_shp (img_in j hj)
      refine g_aload_n (pc := 11) o 0 dX3_keep_11 rfl rfl ?_
      refine g_getR (pc := 12) o flRX3_40 (by first | assumption | rfl) (by first | assumption | omega) (by assumption) dX3_keep_12 ?_
      refine g_iload_n (pc := 15) o 1 dX3_keep_15 rfl rfl ?_
      refine g_aald (pc := 16) o (j) (by first | assumption | rfl) (by first | exact Or.inl rfl | exact Or.inr rfl) (by first | assumption | omega) rfl (by omega) (xI j hj) dX3_keep_16 ?_
      refine g_aload_n (pc := 17) o 0 dX3_keep_17 rfl rfl ?_
      refine g_getR (pc := 18) o flRX3_29 (by first | assumption | rfl) (by first | assumption | omega) (by assumption) dX3_keep_18 ?_
      refine g_V1v (pc := 21) o lkRX3_162 cmX1_become (cX1become (img_in j hj) (xN _ (img_in j hj)) in28 ra hn) (by first | assumption | rfl) (by first | assumption | omega) rfl rfl ⟨Nat.le_refl _, Nat.le_refl _⟩ dX3_keep_21 ?_
      refine g_aload_n (pc := 24) o 0 dX3_keep_24 rfl rfl ?_
      refine g_getR (pc := 25) o flRX3_43 (by first | assumption | rfl) (by first | assumption | omega) (by assumption) dX3_keep_25 ?_
      refine g_iload_n (pc := 28) o 1 dX3_keep_28 rfl rfl ?_
      refine g_iconst (pc := 29) (v := 1) o dX3_keep_29 (by decide) ?_
      refine g_zast (pc := 30) o (j) (by first | assumption | rfl) (by first | assumption | omega) rfl (by omega) rfl dX3_keep_30 ?_
      refine g_aload_n (pc := 31) o 0 dX3_keep_31 rfl rfl ?_
      refine g_getR (pc := 32) o flRX3_29 (by first | assumption | rfl) (by first | assumption | omega) (by assumption) dX3_keep_32 ?_
      refine g_getI (pc := 35) o flRX3_130 (by first | assumption | rfl) (by first | assumption | omega) dX3_keep_35 ?_
      exact g_iret (pc := 38) o f dX3_keep_38 rfl (by rw [st2_ne2 _ _ (by omega), bcmM_ne _ _ _ (by omega), s0]; unfold aKeep; rw [if_pos hv]) (hp_M (by unfold mKeep; rw [if_pos hv, nI_clamp (by omega)]))
    · have hv : ¬ inn v 2 := inn_ge (N := 2) (by decide) rfl (Int32.not_lt.mp q6)
      refine g_iconst (pc := 9) (v := -1) o dX3_keep_9 (by decide) ?_
      exact g_iret (pc := 10) o f dX3_keep_10 rfl (by unfold aKeep; rw [if_neg hv]) (hp_M (by unfold mKeep; rw [if_neg hv]))

def mBack (M : HM) (ik : Nat → Bool) (v : Int32) : HM := if inn v 2 ∧ ik v.toNatClampNeg = true then st2 (bcmM M 28 (88 + 4 * v.toNatClampNeg)) 0 7 0 else M
def aBack (I : Nat → Nat → Nat) (ik : Nat → Bool) (v : Int32) : Int32 := if inn v 2 then (if ik v.toNatClampNeg = true then nI (I v.toNatClampNeg 0) else -2) else -1
set_option maxHeartbeats 2000000 in
set_option maxRecDepth 20000 in
theorem cX3back {t b : Nat} {T S : Nat → Nat} (xb : XB M Rf n t T S b) {I : Nat → Nat → Nat} {ik : Nat → Bool} (hik : ∀ i, i < 2 → M 38 i = nI (bn (ik i))) (hi : ∀ i, i < 2 → ik i = true → nwS M (88 + 4 * i) (I i) (T 2)) {v : Int32} : Ret Λ (d + 3) mX3_back [.ref 0, .int v] (n, M, Rf, Lg) (some (.int (aBack I ik v))) (n, mBack M ik v, Rf, Lg) 0 0 := by
  refine Ret.of rfl rfl rfl (fun κ o f hin => ?_)
  obtain ⟨hx, hc, hn, ht, hm, hr, hs, os, hb9⟩ := id xb
  have rc := hx.city hc
  obtain ⟨x0, x1, x3, x4, x5, x8, x9, x10, x11, x13, x14, x15, xN, xC4, xC16, xP, xI, xT, xL, xNm⟩ := id hx
  obtain ⟨r3, r4, r6, r7, r8, r9, r11, r12, r13, r14, r15⟩ := id rc
  obtain ⟨z0, z1, z2, z3, z4, z5, z6, z7, z8, z9, z10, z11⟩ := city_shp hc
  obtain ⟨⟨t0, t0b⟩, t1, t2, t3, tD, tC, tN⟩ := id ht
  obtain ⟨m0, m1, m5, m10, mb, mj, mc, mn, ml⟩ := id hm
  have ra := xN 28 in28
  have rt := xN 32 in32
  obtain ⟨u3, u4, u5⟩ := id ra
  obtain ⟨v3, v4, v5⟩ := id rt
  obtain ⟨s0, s1, s2, sc⟩ := id hs
  obtain ⟨os0, os1, os2, osc⟩ := id os
  refine g_iload_n (pc := 0) o 1 dX3_back_0 rfl rfl ?_
  refine g_if_lt (pc := 1) o 9 dX3_back_1 (by decide) (fun q1 => ?_) (fun q1 => ?_)
  · have hv : ¬ inn v 2 := inn_lt0 q1
    refine g_iconst (pc := 9) (v := -1) o dX3_back_9 (by decide) ?_
    exact g_iret (pc := 10) o f dX3_back_10 rfl (by unfold aBack; rw [if_neg hv]) (hp_M (by unfold mBack; rw [if_neg (fun q => hv q.1)]))
  · refine g_iload_n (pc := 4) o 1 dX3_back_4 rfl rfl ?_
    refine g_iconst (pc := 5) (v := 2) o dX3_back_5 (by decide) ?_
    refine g_icmp_lt (pc := 6) o 11 dX3_back_6 (by decide) (fun q6 => ?_) (fun q6 => ?_)
    · have hv : inn v 2 := inn_lt (N := 2) (by decide) rfl q1 q6
      obtain ⟨j, hj, rfl⟩ := inn_of hv (by decide)
      obtain ⟨y0, y1, y2, y3, ylt⟩ := now_shp (img_in j hj)
      refine g_aload_n (pc := 11) o 0 dX3_back_11 rfl rfl ?_
      refine g_getR (pc := 12) o flRX3_43 (by first | assumption | rfl) (by first | assumption | omega) (by assumption) dX3_back_12 ?_
      refine g_iload_n (pc := 15) o 1 dX3_back_15 rfl rfl ?_
      refine g_zald (pc := 16) o (j) (by first | assumption | rfl) (by first | assumption | omega) rfl (by omega) dX3_back_16 ?_
      rw [hik j hj]
      refine g_if_ne (pc := 17) o 23 dX3_back_17 (by decide) (fun q17 => ?_) (fun q17 => ?_)
      · have hk : ik j = true := by have := mt bn_zero.mpr q17; simpa using this
        refine g_aload_n (pc := 23) o 0 dX3_back_23 rfl rfl ?_
        refine g_getR (pc := 24) o flRX3_29 (by first | assumption | rfl) (by first | assumption | omega) (by assumption) dX3_back_24 ?_
        refine g_aload_n (pc := 27) o 0 dX3_back_27 rfl rfl ?_
        refine g_getR (pc := 28) o flRX3_40 (by first | assumption | rfl) (by first | assumption | omega) (by assumption) dX3_back_28 ?_
        refine g_iload_n (pc := 31) o 1 dX3_back_31 rfl rfl ?_
        refine g_aald (pc := 32) o (j) (by first | assumption | rfl) (by first | exact Or.inl rfl | exact Or.inr rfl) (by first | assumption | omega) rfl (by omega) (xI j hj) dX3_back_32 ?_
        refine g_V1v (pc := 33) o lkRX3_162 cmX1_become (cX1become in28 ra (img_in j hj) (xN _ (img_in j hj)) hn) (by first | assumption | rfl) (by first | assumption | omega) rfl rfl ⟨Nat.le_refl _, Nat.le_refl _⟩ dX3_back_33 ?_
        refine g_aload_n (pc := 36) o 0 dX3_back_36 rfl rfl ?_
        refine g_iconst (pc := 37) (v := 0) o dX3_back_37 (by decide) ?_
        refine g_putI (pc := 38) o flRX3_81 rfl (by first | assumption | rfl) (by first | assumption | omega) rfl rfl dX3_back_38 ?_
        refine g_aload_n (pc := 41) o 0 dX3_back_41 rfl rfl ?_
        refine g_getR (pc := 42) o flRX3_29 (by first | assumption | rfl) (by first | assumption | omega) (by assumption) dX3_back_42 ?_
        refine g_getI (pc := 45) o flRX3_130 (by first | assumption | rfl) (by first | assumption | omega) dX3_back_45 ?_
        exact g_iret (pc := 48) o f dX3_back_48 rfl (by rw [st2_ne2 _ _ (by omega), (bcm_now t2 (hi j hj hk)).1]; unfold aBack; rw [if_pos hv, nI_clamp (by omega), if_pos hk]) (hp_M (by unfold mBack; rw [nI_clamp (by omega), if_pos ⟨hv, hk⟩]))
      · have hk : ¬ ik j = true := by have := bn_zero.mp q17; simp [this]
        refine g_bipush (pc := 20) (v := -2) o dX3_back_20 (by decide) ?_
        exact g_iret (pc := 22) o f dX3_back_22 rfl (by unfold aBack; rw [if_pos hv, nI_clamp (by omega), if_neg hk]) (hp_M (by unfold mBack; rw [if_neg (fun q => hk (by have := q.2; rwa [nI_clamp (by omega)] at this))]))
    · have hv : ¬ inn v 2 := inn_ge (N := 2) (by decide) rfl (Int32.not_lt.mp q6)
      refine g_iconst (pc := 9) (v := -1) o dX3_back_9 (by decide) ?_
      exact g_iret (pc := 10) o f dX3_back_10 rfl (by unfold aBack; rw [if_neg hv]) (hp_M (by unfold mBack; rw [if_neg (fun q => hv q.1)]))

/-- hours to come, but one never lies down -/
def runS (T : Nat → Nat) (ab : Int32) (S : Nat → Nat) : Nat → Nat → Nat
  | 0 => S
  | k + 1 => stepS T (runS T ab S k) (wA T (runS T ab S k) ab)
theorem run_ok {T S : Nat → Nat} {b : Nat} (ab : Int32) (t2 : T 2 ≤ 6) (h : okS S (T 2) b) (k : Nat) : okS (runS T ab S k) (T 2) (b + k) := by
  induction k with
  | zero => exact h
  | succ k ih => exact step_ok _ t2 ih
def lstW (T : Nat → Nat) (ab : Int32) (S : Nat → Nat) : Nat → Int32
  | 0 => 0
  | k + 1 => nI (wA T (runS T ab S k) ab)
/-- the first of k hours from i on that lapses -/
def frs (T : Nat → Nat) (ab : Int32) (S : Nat → Nat) : Nat → Nat → Int32
  | _, 0 => -9
  | i, k + 1 => if pop (wA T (runS T ab S i) ab) < T 1 then nI i else frs T ab S (i + 1) k
/-- nothing but the trial has changed -/
def frT (M M' : HM) : Prop := ∀ z, z < 32 ∨ 36 ≤ z → M' z = M z
def aAsleepIn (T S : Nat → Nat) (v : Int32) : Int32 := if inn v 81 then nI (wA T (runS T (-1) S v.toNatClampNeg) (-1)) else -1
set_option maxHeartbeats 2000000 in
set_option maxRecDepth 20000 in
theorem cX3asleepIn {t b : Nat} {T S : Nat → Nat} (xb : XB M Rf n t T S b) {v : Int32} : RetE Λ (d + 5) mX3_asleepIn [.ref 0, .int v] (n, M, Rf, Lg) (pI n Rf Lg (fun r M' => r = aAsleepIn T S v ∧ frT M M')) 0 0 := by
  refine RetE.of rfl rfl rfl (fun κ o f hin => ?_)
  obtain ⟨hx, hc, hn, ht, hm, hr, hs, os, hb9⟩ := id xb
  have rc := hx.city hc
  obtain ⟨x0, x1, x3, x4, x5, x8, x9, x10, x11, x13, x14, x15, xN, xC4, xC16, xP, xI, xT, xL, xNm⟩ := id hx
  obtain ⟨r3, r4, r6, r7, r8, r9, r11, r12, r13, r14, r15⟩ := id rc
  obtain ⟨z0, z1, z2, z3, z4, z5, z6, z7, z8, z9, z10, z11⟩ := city_shp hc
  obtain ⟨⟨t0, t0b⟩, t1, t2, t3, tD, tC, tN⟩ := id ht
  obtain ⟨m0, m1, m5, m10, mb, mj, mc, mn, ml⟩ := id hm
  have ra := xN 28 in28
  have rt := xN 32 in32
  obtain ⟨u3, u4, u5⟩ := id ra
  obtain ⟨v3, v4, v5⟩ := id rt
  obtain ⟨s0, s1, s2, sc⟩ := id hs
  obtain ⟨os0, os1, os2, osc⟩ := id os
  refine g_iload_n (pc := 0) o 1 dX3_asleepIn_0 rfl rfl ?_
  refine g_if_lt (pc := 1) o 10 dX3_asleepIn_1 (by decide) (fun q1 => ?_) (fun q1 => ?_)
  · have hv : ¬ inn v 81 := inn_lt0 q1
    refine g_iconst (pc := 10) (v := -1) o dX3_asleepIn_10 (by decide) ?_
    exact e_iret (pc := 11) o f dX3_asleepIn_11 rfl (pI.of ⟨by unfold aAsleepIn; rw [if_neg hv], fun _ _ => rfl⟩)
  · refine g_iload_n (pc := 4) o 1 dX3_asleepIn_4 rfl rfl ?_
    refine g_bipush (pc := 5) (v := 80) o dX3_asleepIn_5 (by decide) ?_
    refine g_icmp_le (pc := 7) o 12 dX3_asleepIn_7 (by decide) (fun q7 => ?_) (fun q7 => ?_)
    · have hv : inn v 81 := inn_le (N := 80) (by decide) rfl q1 q7
      obtain ⟨nn, hnn, rfl⟩ := inn_of hv (by decide)
      have loop : ∀ (k c : Nat) (M1 : HM), nwS M1 32 (runS T (-1) S c) (T 2) → frT M M1 → c ≤ nn + 1 → nn + 1 < c + k → G (Λ, κ) 27 [some (.ref 0), some (.int (nI nn)), some (.int (lstW T (-1) S c)), some (.int (nI c))] [] (n, M1, Rf, Lg) 0 0 := by
        intro k
        induction k with
        | zero => intro c M1 hs1 hf h1 h2; exact absurd h2 (by omega)
        | succ k ih =>
          intro c M1 hs1 hf h1 h2
          refine g_iload_n (pc := 27) o 3 dX3_asleepIn_27 rfl rfl ?_
          refine g_iload_n (pc := 28) o 1 dX3_asleepIn_28 rfl rfl ?_
          refine g_icmp_gt (pc := 29) o 48 dX3_asleepIn_29 (by decide) (fun q29 => ?_) (fun q29 => ?_)
          · have ec : c = nn + 1 := by have := (lt_N (by omega) (by omega) rfl rfl).mp q29; omega
            refine g_iload_n (pc := 48) o 2 dX3_asleepIn_48 rfl rfl ?_
            exact e_iret (pc := 49) o f dX3_asleepIn_49 rfl (pI.of ⟨by rw [ec]; unfold aAsleepIn; rw [if_pos hv, nI_clamp (by omega)]; rfl, hf⟩)
          · have hc1 : c ≤ nn := by have := mt (lt_N (by omega) (by omega) rfl rfl).mpr q29; omega
            have xb2 := xb.kept (M' := M1) (fun z h3 h4 => hf z (by omega))
            have ok2 := run_ok (-1) t2 os c
            refine g_aload_n (pc := 32) o 0 dX3_asleepIn_32 rfl rfl ?_
            refine g_aload_n (pc := 33) o 0 dX3_asleepIn_33 rfl rfl ?_
            refine g_getR (pc := 34) o flRX3_33 (by first | assumption | rfl) (by first | assumption | omega) (by assumption) dX3_asleepIn_34 ?_
            refine g_iconst (pc := 37) (v := -1) o dX3_asleepIn_37 (by decide) ?_
            refine g_V2i (pc := 38) o lkRX3_155 cmX3_goBy (cX3goBy xb2 in32 hs1 ok2) (by first | assumption | rfl) (by first | assumption | omega) rfl rfl ⟨Nat.le_refl _, Nat.le_refl _⟩ dX3_asleepIn_38 ?_
            refine g_istore_n (pc := 41) o 2 dX3_asleepIn_41 rfl rfl ?_
            refine g_incN (pc := 42) o (c) dX3_asleepIn_42 rfl rfl ?_
            refine g_goto (pc := 45) o 27 dX3_asleepIn_45 (by decide) ?_
            exact ih (c + 1) _ (pass_now t2 (by omega) hs1 ok2) (fun z hz => by rw [passM_ne _ _ _ _ _ (by omega)]; exact hf z hz) (by omega) (by omega)
      refine g_aload_n (pc := 12) o 0 dX3_asleepIn_12 rfl rfl ?_
      refine g_getR (pc := 13) o flRX3_33 (by first | assumption | rfl) (by first | assumption | omega) (by assumption) dX3_asleepIn_13 ?_
      refine g_aload_n (pc := 16) o 0 dX3_asleepIn_16 rfl rfl ?_
      refine g_getR (pc := 17) o flRX3_29 (by first | assumption | rfl) (by first | assumption | omega) (by assumption) dX3_asleepIn_17 ?_
      refine g_V1v (pc := 20) o lkRX3_162 cmX1_become (cX1become in32 rt in28 ra hn) (by first | assumption | rfl) (by first | assumption | omega) rfl rfl ⟨Nat.le_refl _, Nat.le_refl _⟩ dX3_asleepIn_20 ?_
      refine g_iconst (pc := 23) (v := 0) o dX3_asleepIn_23 (by decide) ?_
      refine g_istore_n (pc := 24) o 2 dX3_asleepIn_24 rfl rfl ?_
      refine g_iconst (pc := 25) (v := 0) o dX3_asleepIn_25 (by decide) ?_
      refine g_istore_n (pc := 26) o 3 dX3_asleepIn_26 rfl rfl ?_
      exact loop (nn + 2) 0 _ (bcm_now t2 hs) (fun z hz => bcmM_ne _ _ _ (by omega)) (by omega) (by omega)
    · have hv : ¬ inn v 81 := inn_gt (N := 80) (by decide) rfl (Int32.not_le.mp q7)
      refine g_iconst (pc := 10) (v := -1) o dX3_asleepIn_10 (by decide) ?_
      exact e_iret (pc := 11) o f dX3_asleepIn_11 rfl (pI.of ⟨by unfold aAsleepIn; rw [if_neg hv], fun _ _ => rfl⟩)

set_option maxHeartbeats 2000000 in
set_option maxRecDepth 20000 in
theorem cX3firstLapse {t b : Nat} {T S : Nat → Nat} (xb : XB M Rf n t T S b) {nn : Nat} (hnn : nn < 1000) {ab : Int32} : RetE Λ (d + 5) mX3_firstLapse [.ref 0, .int (nI nn), .int ab] (n, M, Rf, Lg) (pI n Rf Lg (fun r M' => r = frs T ab S 0 nn ∧ frT M M')) 0 0 := by
  refine RetE.of rfl rfl rfl (fun κ o f hin => ?_)
  obtain ⟨hx, hc, hn, ht, hm, hr, hs, os, hb9⟩ := id xb
  have rc := hx.city hc
  obtain ⟨x0, x1, x3, x4, x5, x8, x9, x10, x11, x13, x14, x15, xN, xC4, xC16, xP, xI, xT, xL, xNm⟩ := id hx
  obtain ⟨r3, r4, r6, r7, r8, r9, r11, r12, r13, r14, r15⟩ := id rc
  obtain ⟨z0, z1, z2, z3, z4, z5, z6, z7, z8, z9, z10, z11⟩ := city_shp hc
  obtain ⟨⟨t0, t0b⟩, t1, t2, t3, tD, tC, tN⟩ := id ht
  obtain ⟨m0, m1, m5, m10, mb, mj, mc, mn, ml⟩ := id hm
  have ra := xN 28 in28
  have rt := xN 32 in32
  obtain ⟨u3, u4, u5⟩ := id ra
  obtain ⟨v3, v4, v5⟩ := id rt
  obtain ⟨s0, s1, s2, sc⟩ := id hs
  obtain ⟨os0, os1, os2, osc⟩ := id os
  have loop : ∀ (k j9 c : Nat) (M1 : HM), nwS M1 32 (runS T ab S c) (T 2) → frT M M1 → c + j9 = nn → j9 < k → frs T ab S 0 nn = frs T ab S c j9 → G (Λ, κ) 13 [some (.ref 0), some (.int (nI nn)), some (.int ab), some (.int (nI c))] [] (n, M1, Rf, Lg) 0 0 := by
    intro k
    induction k with
    | zero => intro j9 c M1 hs1 hf h1 h2; exact absurd h2 (by omega)
    | succ k ih =>
      intro j9 c M1 hs1 hf h1 h2 er
      refine g_iload_n (pc := 13) o 3 dX3_firstLapse_13 rfl rfl ?_
      refine g_iload_n (pc := 14) o 1 dX3_firstLapse_14 rfl rfl ?_
      refine g_icmp_ge (pc := 15) o 42 dX3_firstLapse_15 (by decide) (fun q15 => ?_) (fun q15 => ?_)
      · have ec : c = nn := by have := (le_N (by omega) (by omega) rfl rfl).mp q15; omega
        have ek : j9 = 0 := by omega
        refine g_bipush (pc := 42) (v := -9) o dX3_firstLapse_42 (by decide) ?_
        exact e_iret (pc := 44) o f dX3_firstLapse_44 rfl (pI.of ⟨by rw [er, ek]; rfl, hf⟩)
      · have hc1 : c < nn := by have := mt (le_N (by omega) (by omega) rfl rfl).mpr q15; omega
        obtain ⟨j8, rfl⟩ : ∃ j8, j9 = j8 + 1 := ⟨j9 - 1, by omega⟩
        have xb2 := xb.kept (M' := M1) (fun z h3 h4 => hf z (by omega))
        have ok2 := run_ok ab t2 os c
        have w6 : wA T (runS T ab S c) ab < 64 := wA6 t2
        refine g_aload_n (pc := 18) o 0 dX3_firstLapse_18 rfl rfl ?_
        refine g_aload_n (pc := 19) o 0 dX3_firstLapse_19 rfl rfl ?_
        refine g_aload_n (pc := 20) o 0 dX3_firstLapse_20 rfl rfl ?_
        refine g_getR (pc := 21) o flRX3_33 (by first | assumption | rfl) (by first | assumption | omega) (by assumption) dX3_firstLapse_21 ?_
        refine g_iload_n (pc := 24) o 2 dX3_firstLapse_24 rfl rfl ?_
        refine g_V2i (pc := 25) o lkRX3_155 cmX3_goBy (cX3goBy xb2 in32 hs1 ok2) (by first | assumption | rfl) (by first | assumption | omega) rfl rfl ⟨Nat.le_refl _, Nat.le_refl _⟩ dX3_firstLapse_25 ?_
        refine g_V1i (pc := 28) o lkRX3_191 cmX3_lapses (cX3lapses (xb2.kept (M' := passM M1 32 (wA T (runS T ab S c) ab) (T 2) (T 1)) (fun z h3 h4 => passM_ne _ _ _ _ _ (by omega))) (by omega)) (by first | assumption | rfl) (by first | assumption | omega) rfl rfl ⟨Nat.le_refl _, Nat.le_refl _⟩ dX3_firstLapse_28 ?_
        refine g_if_eq (pc := 31) o 36 dX3_firstLapse_31 (by decide) (fun q31 => ?_) (fun q31 => ?_)
        · have hq := bi_z.mp q31
          refine g_incN (pc := 36) o (c) dX3_firstLapse_36 rfl rfl ?_
          refine g_goto (pc := 39) o 13 dX3_firstLapse_39 (by decide) ?_
          exact ih j8 (c + 1) _ (pass_now t2 (by omega) hs1 ok2) (fun z hz => by rw [passM_ne _ _ _ _ _ (by omega)]; exact hf z hz) (by omega) (by omega) (by rw [er]; show (if _ then _ else _) = _; rw [if_neg hq])
        · have hq := bi_nz.mp q31
          refine g_iload_n (pc := 34) o 3 dX3_firstLapse_34 rfl rfl ?_
          exact e_iret (pc := 35) o f dX3_firstLapse_35 rfl (pI.of ⟨by rw [er]; show _ = (if _ then _ else _); rw [if_pos hq], (fun z hz => by rw [passM_ne _ _ _ _ _ (by omega)]; exact hf z hz)⟩)
  refine g_aload_n (pc := 0) o 0 dX3_firstLapse_0 rfl rfl ?_
  refine g_getR (pc := 1) o flRX3_33 (by first | assumption | rfl) (by first | assumption | omega) (by assumption) dX3_firstLapse_1 ?_
  refine g_aload_n (pc := 4) o 0 dX3_firstLapse_4 rfl rfl ?_
  refine g_getR (pc := 5) o flRX3_29 (by first | assumption | rfl) (by first | assumption | omega) (by assumption) dX3_firstLapse_5 ?_
  refine g_V1v (pc := 8) o lkRX3_162 cmX1_become (cX1become in32 rt in28 ra hn) (by first | assumption | rfl) (by first | assumption | omega) rfl rfl ⟨Nat.le_refl _, Nat.le_refl _⟩ dX3_firstLapse_8 ?_
  refine g_iconst (pc := 11) (v := 0) o dX3_firstLapse_11 (by decide) ?_
  refine g_istore_n (pc := 12) o 3 dX3_firstLapse_12 rfl rfl ?_
  exact loop (nn + 1) nn 0 _ (bcm_now t2 hs) (fun z hz => bcmM_ne _ _ _ (by omega)) (by omega) (by omega) rfl

set_option maxHeartbeats 2000000 in
set_option maxRecDepth 20000 in
theorem cX3lapse {t b : Nat} {T S : Nat → Nat} (xb : XB M Rf n t T S b) : RetE Λ (d + 6) mX3_lapse [.ref 0] (n, M, Rf, Lg) (pI n Rf Lg (fun r M' => r = frs T (-1) S 0 81 ∧ frT M M')) 0 0 := by
  refine RetE.of rfl rfl rfl (fun κ o f hin => ?_)
  obtain ⟨hx, hc, hn, ht, hm, hr, hs, os, hb9⟩ := id xb
  have rc := hx.city hc
  obtain ⟨x0, x1, x3, x4, x5, x8, x9, x10, x11, x13, x14, x15, xN, xC4, xC16, xP, xI, xT, xL, xNm⟩ := id hx
  obtain ⟨r3, r4, r6, r7, r8, r9, r11, r12, r13, r14, r15⟩ := id rc
  obtain ⟨z0, z1, z2, z3, z4, z5, z6, z7, z8, z9, z10, z11⟩ := city_shp hc
  obtain ⟨⟨t0, t0b⟩, t1, t2, t3, tD, tC, tN⟩ := id ht
  obtain ⟨m0, m1, m5, m10, mb, mj, mc, mn, ml⟩ := id hm
  have ra := xN 28 in28
  have rt := xN 32 in32
  obtain ⟨u3, u4, u5⟩ := id ra
  obtain ⟨v3, v4, v5⟩ := id rt
  obtain ⟨s0, s1, s2, sc⟩ := id hs
  obtain ⟨os0, os1, os2, osc⟩ := id os
  refine g_aload_n (pc := 0) o 0 dX3_lapse_0 rfl rfl ?_
  refine g_bipush (pc := 1) (v := 81) o dX3_lapse_1 (by decide) ?_
  refine g_iconst (pc := 3) (v := -1) o dX3_lapse_3 (by decide) ?_
  refine e_V2i (pc := 4) o lkRX3_188 cmX3_firstLapse (cX3firstLapse xb (nn := 81) (by decide)) (by first | assumption | rfl) (by first | assumption | omega) rfl rfl ⟨Nat.le_refl _, Nat.le_refl _⟩ dX3_lapse_4 (fun r M1 hp => ?_)
  exact e_iret (pc := 7) o f dX3_lapse_7 rfl (pI.of hp)

def aBears (T S : Nat → Nat) : Int32 := if frs T (-1) S 0 8 = -9 then nI (mk (fun c => decide (frs T (nI c) S 0 8 = -9)) (T 2)) else 0
set_option maxHeartbeats 2000000 in
set_option maxRecDepth 20000 in
theorem cX3bears {t b : Nat} {T S : Nat → Nat} (xb : XB M Rf n t T S b) : RetE Λ (d + 6) mX3_bears [.ref 0] (n, M, Rf, Lg) (pI n Rf Lg (fun r M' => r = aBears T S ∧ frT M M')) 0 0 := by
  refine RetE.of rfl rfl rfl (fun κ o f hin => ?_)
  obtain ⟨hx, hc, hn, ht, hm, hr, hs, os, hb9⟩ := id xb
  have rc := hx.city hc
  obtain ⟨x0, x1, x3, x4, x5, x8, x9, x10, x11, x13, x14, x15, xN, xC4, xC16, xP, xI, xT, xL, xNm⟩ := id hx
  obtain ⟨r3, r4, r6, r7, r8, r9, r11, r12, r13, r14, r15⟩ := id rc
  obtain ⟨z0, z1, z2, z3, z4, z5, z6, z7, z8, z9, z10, z11⟩ := city_shp hc
  obtain ⟨⟨t0, t0b⟩, t1, t2, t3, tD, tC, tN⟩ := id ht
  obtain ⟨m0, m1, m5, m10, mb, mj, mc, mn, ml⟩ := id hm
  have ra := xN 28 in28
  have rt := xN 32 in32
  obtain ⟨u3, u4, u5⟩ := id ra
  obtain ⟨v3, v4, v5⟩ := id rt
  obtain ⟨s0, s1, s2, sc⟩ := id hs
  obtain ⟨os0, os1, os2, osc⟩ := id os
  refine g_aload_n (pc := 0) o 0 dX3_bears_0 rfl rfl ?_
  refine g_bipush (pc := 1) (v := 8) o dX3_bears_1 (by decide) ?_
  refine g_iconst (pc := 3) (v := -1) o dX3_bears_3 (by decide) ?_
  refine e_V2i (pc := 4) o lkRX3_188 cmX3_firstLapse (cX3firstLapse xb (nn := 8) (by decide)) (by first | assumption | rfl) (by first | assumption | omega) rfl rfl ⟨Nat.le_refl _, Nat.le_refl _⟩ dX3_bears_4 (fun r M0 hp => ?_)
  obtain ⟨rfl, hf0⟩ := hp
  refine g_bipush (pc := 7) (v := -9) o dX3_bears_7 (by decide) ?_
  refine g_icmp_eq (pc := 9) o 14 dX3_bears_9 (by decide) (fun q9 => ?_) (fun q9 => ?_)
  · have h9 := q9
    have loop : ∀ (k c : Nat) (M1 : HM), frT M M1 → c ≤ T 2 → T 2 < c + k → G (Λ, κ) 18 [some (.ref 0), some (.int (nI (mk (fun c => decide (frs T (nI c) S 0 8 = -9)) c))), some (.int (nI c))] [] (n, M1, Rf, Lg) 0 0 := by
      intro k
      induction k with
      | zero => intro c M1 hf h1 h2; exact absurd h2 (by omega)
      | succ k ih =>
        intro c M1 hf h1 h2
        have m5x : M1 t 5 = nI (T 2) := by rw [hf t (by omega)]; exact m5
        refine g_iload_n (pc := 18) o 2 dX3_bears_18 rfl rfl ?_
        refine g_aload_n (pc := 19) o 0 dX3_bears_19 rfl rfl ?_
        refine g_getR (pc := 20) o flRX3_19 (by first | assumption | rfl) (by first | assumption | omega) (by assumption) dX3_bears_20 ?_
        refine g_getI (pc := 23) o flRX3_146 (by first | assumption | rfl) (by first | assumption | omega) dX3_bears_23 ?_
        refine g_icmp_ge (pc := 26) o 53 dX3_bears_26 (by decide) (fun q26 => ?_) (fun q26 => ?_)
        · have ec : c = T 2 := by have := (le_N (a := T 2) (b := c) (by omega) (by omega) m5x rfl).mp q26; omega
          refine g_iload_n (pc := 53) o 1 dX3_bears_53 rfl rfl ?_
          exact e_iret (pc := 54) o f dX3_bears_54 rfl (pI.of ⟨by rw [ec]; unfold aBears; rw [if_pos h9], hf⟩)
        · have hc1 : c < T 2 := by have := mt (le_N (a := T 2) (b := c) (by omega) (by omega) m5x rfl).mpr q26; omega
          have xb2 := xb.kept (M' := M1) (fun z h3 h4 => hf z (by omega))
          refine g_aload_n (pc := 29) o 0 dX3_bears_29 rfl rfl ?_
          refine g_bipush (pc := 30) (v := 8) o dX3_bears_30 (by decide) ?_
          refine g_iload_n (pc := 32) o 2 dX3_bears_32 rfl rfl ?_
          refine e_V2i (pc := 33) o lkRX3_188 cmX3_firstLapse (cX3firstLapse xb2 (nn := 8) (by decide)) (by first | assumption | rfl) (by first | assumption | omega) rfl rfl ⟨Nat.le_refl _, Nat.le_refl _⟩ dX3_bears_33 (fun r M2 hp => ?_)
          obtain ⟨rfl, hf2⟩ := hp
          refine g_bipush (pc := 36) (v := -9) o dX3_bears_36 (by decide) ?_
          refine g_icmp_ne (pc := 38) o 47 dX3_bears_38 (by decide) (fun q38 => ?_) (fun q38 => ?_)
          · have e1 : mk (fun c => decide (frs T (nI c) S 0 8 = -9)) (c + 1) = mk (fun c => decide (frs T (nI c) S 0 8 = -9)) c := mk_f (by simpa using q38)
            refine g_incN (pc := 47) o (c) dX3_bears_47 rfl rfl ?_
            refine g_goto (pc := 50) o 18 dX3_bears_50 (by decide) ?_
            first | exact ih (c + 1) _ (fun z hz => by rw [hf2 z hz]; exact hf z hz) (by omega) (by omega) | (rw [← e1]; exact ih (c + 1) _ (fun z hz => by rw [hf2 z hz]; exact hf z hz) (by omega) (by omega))
          · have e1 := mk_t (p := (fun c => decide (frs T (nI c) S 0 8 = -9))) (n := c) (by simpa using q38) (by omega)
            refine g_iload_n (pc := 41) o 1 dX3_bears_41 rfl rfl ?_
            refine g_iconst (pc := 42) (v := 1) o dX3_bears_42 (by decide) ?_
            refine g_iload_n (pc := 43) o 2 dX3_bears_43 rfl rfl ?_
            refine g_ishl (pc := 44) o dX3_bears_44 ?_
            refine g_ior (pc := 45) o dX3_bears_45 ?_
            rw [e1]
            refine g_istore_n (pc := 46) o 1 dX3_bears_46 rfl rfl ?_
            refine g_incN (pc := 47) o (c) dX3_bears_47 rfl rfl ?_
            refine g_goto (pc := 50) o 18 dX3_bears_50 (by decide) ?_
            first | exact ih (c + 1) _ (fun z hz => by rw [hf2 z hz]; exact hf z hz) (by omega) (by omega) | (rw [← e1]; exact ih (c + 1) _ (fun z hz => by rw [hf2 z hz]; exact hf z hz) (by omega) (by omega))
    refine g_iconst (pc := 14) (v := 0) o dX3_bears_14 (by decide) ?_
    refine g_istore_n (pc := 15) o 1 dX3_bears_15 rfl rfl ?_
    refine g_iconst (pc := 16) (v := 0) o dX3_bears_16 (by decide) ?_
    refine g_istore_n (pc := 17) o 2 dX3_bears_17 rfl rfl ?_
    exact loop (T 2 + 1) 0 _ hf0 (by omega) (by omega)
  · refine g_iconst (pc := 12) (v := 0) o dX3_bears_12 (by decide) ?_
    exact e_iret (pc := 13) o f dX3_bears_13 rfl (pI.of ⟨by unfold aBears; rw [if_neg q9], hf0⟩)

end M7
