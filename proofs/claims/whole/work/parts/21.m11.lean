section M11
variable {Λ : PL} {d n : Nat} {M : HM} {Rf : HR} {Lg : HL}

theorem rst6 {T : Nat → Nat} (h : T 2 ≤ 6) (k : Nat) : rst T k < 64 := dif6 (mk6 _ h)
/-- who is tired, by a row of numbers -/
def trS (T tr : Nat → Nat) : Nat := mk (fun i => decide (0 < tr i)) (T 2)
def enA (T S tr : Nat → Nat) (h : Nat) : Nat := if h = 0 then rst T ((S 1 + h) % 8) &&& trS T tr else rst T ((S 1 + h) % 8)
def enF (T S tr : Nat → Nat) (k : Nat) : Bool := allN (fun h => !decide (bedN T (enA T S tr h) (T 0) < T 1)) k
/-- a call-up of just these, who all sleep -/
def cuO (T S : Nat → Nat) (h : Nat) (tr : Nat → Nat) (s : Nat) : Bool := decide (dif s (rst T ((S 1 + h) % 8) &&& trS T tr) = 0) && decide (pop s = T 1) && decide (bedN T s (T 0) = T 1)
def trN (tr : Nat → Nat) (s : Nat) : Nat → Nat := fun i => tirN (s.testBit i) (tr i)
/-- the first of k from i on that f has -/
def fst9 (f : Nat → Option (List Nat)) : Nat → Nat → Option (List Nat)
  | _, 0 => none
  | i, k + 1 => match f i with
    | some L => some L
    | none => fst9 f (i + 1) k
def cuF (T S : Nat → Nat) : Nat → Nat → (Nat → Nat) → Option (List Nat)
  | 0, _, _ => some []
  | m + 1, h, tr => fst9 (fun s => if cuO T S h tr s = true then (cuF T S m (h + 1) (trN tr s)).map (s :: ·) else none) 0 64
def cuG (T S : Nat → Nat) (m h : Nat) (tr : Nat → Nat) (s : Nat) : Option (List Nat) := if cuO T S h tr s = true then (cuF T S m (h + 1) (trN tr s)).map (s :: ·) else none
theorem cuF_s (T S : Nat → Nat) (m h : Nat) (tr : Nat → Nat) : cuF T S (m + 1) h tr = fst9 (cuG T S m h tr) 0 64 := rfl
theorem shp_tr : ∀ h, h < 4 → shp (43 + h) = (6, 6) := by decide
def rowT (M : HM) (a : Nat) (tr : Nat → Nat) (C : Nat) : Prop := ∀ i, i < C → M a i = nI (tr i) ∧ tr i ≤ 20
def frC (h : Nat) (M M' : HM) : Prop := (∀ z, z ≠ 41 → z ≤ 43 + h ∨ 46 < z → M' z = M z) ∧ ∀ j, j < h → M' 41 j = M 41 j
def cuP (m h : Nat) (M : HM) (o : Option (List Nat)) (r : Int32) (M' : HM) : Prop := frC h M M' ∧ match o with
  | none => r = 0
  | some L => r = 1 ∧ ∀ i, i < m → M' 41 (h + i) = nI (L.getD i 0)
set_option maxHeartbeats 2000000 in
set_option maxRecDepth 20000 in
theorem cX3enough {t b : Nat} {T S : Nat → Nat} (xb : XB M Rf n t T S b) {tr : Nat → Nat} (hrow : rowT M 43 tr (T 2)) {nn : Nat} (hnn : nn < 1000) : Ret Λ (d + 2) mX3_enoughInEach [.ref 0, .int (nI nn)] (n, M, Rf, Lg) (some (.int (bi (enF T S tr nn = true)))) (n, M, Rf, Lg) 0 0 := by
  refine Ret.of rfl rfl rfl (fun κ o f hin => ?_)
  obtain ⟨hx, hc, hn, ht, hm, hr, hs, os, hb9⟩ := id xb
  have rc := hx.city hc
  obtain ⟨x0, x1, x3, x4, x5, x8, x9, x10, x11, x13, x14, x15, xN, xC4, xC16, xP, xI, xT, xL, xNm⟩ := id hx
  obtain ⟨r3, r4, r6, r7, r8, r9, r11, r12, r13, r14, r15⟩ := id rc
  obtain ⟨z0, z1, z2, z3, z4, z5, z6, z7, z8, z9, z10, z11⟩ := city_shp hc
  obtain ⟨⟨t0, t0b⟩, t1, t2, t3, tD, tC, tN⟩ := id ht
  obtain ⟨m0, m1, m5, m10, mb, mj, mc, mn, ml⟩ := id hm
  have ra := xN 28 in28
  have rt := xN 32 in32
  obtain ⟨u3, u4, u5⟩ := id ra
  obtain ⟨v3, v4, v5⟩ := id rt
  obtain ⟨s0, s1, s2, sc⟩ := id hs
  obtain ⟨os0, os1, os2, osc⟩ := id os
  have loop : ∀ (k c : Nat) (dm : Option Value), allN (fun h => !decide (bedN T (enA T S tr h) (T 0) < T 1)) c = true → c ≤ nn → nn < c + k → G (Λ, κ) 2 [some (.ref 0), some (.int (nI nn)), some (.int (nI c)), dm] [] (n, M, Rf, Lg) 0 0 := by
    intro k
    induction k with
    | zero => intro c dm er h1 h2; exact absurd h2 (by omega)
    | succ k ih =>
      intro c dm er h1 h2
      refine g_iload_n (pc := 2) o 2 dX3_enoughInEach_2 rfl rfl ?_
      refine g_iload_n (pc := 3) o 1 dX3_enoughInEach_3 rfl rfl ?_
      refine g_icmp_ge (pc := 4) o 67 dX3_enoughInEach_4 (by decide) (fun q4 => ?_) (fun q4 => ?_)
      · have ec : c = nn := by have := (le_N (a := nn) (b := c) (by omega) (by omega) rfl rfl).mp q4; omega
        refine g_iconst (pc := 67) (v := 1) o dX3_enoughInEach_67 (by decide) ?_
        exact g_iret (pc := 68) o f dX3_enoughInEach_68 rfl (bi_t (by unfold enF; rw [← ec]; exact er)).symm rfl
      · have hc1 : c < nn := by have := mt (le_N (a := nn) (b := c) (by omega) (by omega) rfl rfl).mpr q4; omega
        refine g_aload_n (pc := 7) o 0 dX3_enoughInEach_7 rfl rfl ?_
        refine g_getR (pc := 8) o flRX3_19 (by first | assumption | rfl) (by first | assumption | omega) (by assumption) dX3_enoughInEach_8 ?_
        refine g_getR (pc := 11) o flRX3_206 (by first | assumption | rfl) (by first | assumption | omega) (by assumption) dX3_enoughInEach_11 ?_
        refine g_aload_n (pc := 14) o 0 dX3_enoughInEach_14 rfl rfl ?_
        refine g_iload_n (pc := 15) o 2 dX3_enoughInEach_15 rfl rfl ?_
        refine g_V1i (pc := 16) o lkRX3_209 cmX3_hourAhead (cX3hourAhead xb (k := c) (by omega)) (by first | assumption | rfl) (by first | assumption | omega) rfl rfl ⟨Nat.le_refl _, Nat.le_refl _⟩ dX3_enoughInEach_16 ?_
        refine g_iald (pc := 19) o ((S 1 + c) % 8) (by first | assumption | rfl) (by first | assumption | omega) rfl (by omega) dX3_enoughInEach_19 ?_
        rw [hr _ (by omega)]
        refine g_istore_n (pc := 20) o 3 dX3_enoughInEach_20 rfl rfl ?_
        refine g_iload_n (pc := 21) o 2 dX3_enoughInEach_21 rfl rfl ?_
        refine g_if_ne (pc := 22) o 41 dX3_enoughInEach_22 (by decide) (fun q22 => ?_) (fun q22 => ?_)
        · have c0 : ¬ c = 0 := mt (eq_N (by omega) (by decide) rfl (rfl : (0 : Int32) = nI 0)).mpr q22
          have eA : enA T S tr c = rst T ((S 1 + c) % 8) := if_neg c0
          rw [← eA]
          refine g_aload_n (pc := 41) o 0 dX3_enoughInEach_41 rfl rfl ?_
          refine g_getR (pc := 42) o flRX3_19 (by first | assumption | rfl) (by first | assumption | omega) (by assumption) dX3_enoughInEach_42 ?_
          refine g_iload_n (pc := 45) o 3 dX3_enoughInEach_45 rfl rfl ?_
          refine g_V1i (pc := 46) o lkRX3_216 cmX0_bedded (cX0bedded hc hn rc ht hm) (by first | assumption | rfl) (by first | assumption | omega) rfl rfl ⟨Nat.le_refl _, Nat.le_refl _⟩ dX3_enoughInEach_46 ?_
          refine g_aload_n (pc := 49) o 0 dX3_enoughInEach_49 rfl rfl ?_
          refine g_getR (pc := 50) o flRX3_19 (by first | assumption | rfl) (by first | assumption | omega) (by assumption) dX3_enoughInEach_50 ?_
          refine g_getI (pc := 53) o flRX3_185 (by first | assumption | rfl) (by first | assumption | omega) dX3_enoughInEach_53 ?_
          have hbl := bedN_le T (enA T S tr c) (T 0)
          refine g_icmp_ge (pc := 56) o 61 dX3_enoughInEach_56 (by decide) (fun q56 => ?_) (fun q56 => ?_)
          · have g1 := (le_N (by omega) (by omega) m1 rfl).mp q56
            refine g_incN (pc := 61) o (c) dX3_enoughInEach_61 rfl rfl ?_
            refine g_goto (pc := 64) o 2 dX3_enoughInEach_64 (by decide) ?_
            exact ih (c + 1) _ (by show (allN _ c && !decide (bedN T (enA T S tr c) (T 0) < T 1)) = true; rw [show allN (fun h => !decide (bedN T (enA T S tr h) (T 0) < T 1)) c = true from er]; simp; omega) (by omega) (by omega)
          · have g1 := mt (le_N (by omega) (by omega) m1 rfl).mpr q56
            refine g_iconst (pc := 59) (v := 0) o dX3_enoughInEach_59 (by decide) ?_
            exact g_iret (pc := 60) o f dX3_enoughInEach_60 rfl (bi_f (by unfold enF; rw [allN_iff]; intro q; have := q c hc1; simp at this; omega)).symm rfl
        · have c0 : c = 0 := (eq_N (by omega) (by decide) rfl (rfl : (0 : Int32) = nI 0)).mp q22
          refine g_iload_n (pc := 25) o 3 dX3_enoughInEach_25 rfl rfl ?_
          refine g_aload_n (pc := 26) o 0 dX3_enoughInEach_26 rfl rfl ?_
          refine g_getR (pc := 27) o flRX3_19 (by first | assumption | rfl) (by first | assumption | omega) (by assumption) dX3_enoughInEach_27 ?_
          refine g_aload_n (pc := 30) o 0 dX3_enoughInEach_30 rfl rfl ?_
          refine g_getR (pc := 31) o flRX3_59 (by first | assumption | rfl) (by first | assumption | omega) (by assumption) dX3_enoughInEach_31 ?_
          refine g_iconst (pc := 34) (v := 0) o dX3_enoughInEach_34 (by decide) ?_
          refine g_aald (pc := 35) o (0) (by first | assumption | rfl) (by first | exact Or.inl rfl | exact Or.inr rfl) (by first | assumption | omega) rfl (by omega) (xT 0 (by decide)) dX3_enoughInEach_35 ?_
          refine g_V1i (pc := 36) o lkRX3_212 cmX0_tiredOf (cX0tiredOf hc hn rc ht hm (a := 43 + 0) (tr := tr) rfl (by omega) (fun i hi => ⟨(hrow i hi).1, by have := (hrow i hi).2; omega⟩)) (by first | assumption | rfl) (by first | assumption | omega) rfl rfl ⟨Nat.le_refl _, Nat.le_refl _⟩ dX3_enoughInEach_36 ?_
          refine g_iand (pc := 39) o dX3_enoughInEach_39 ?_
          rw [n_and, show rst T ((S 1 + c) % 8) &&& mk (fun i => decide (0 < tr i)) (T 2) = enA T S tr c from by unfold enA trS; rw [if_pos c0]]
          refine g_istore_n (pc := 40) o 3 dX3_enoughInEach_40 rfl rfl ?_
          refine g_aload_n (pc := 41) o 0 dX3_enoughInEach_41 rfl rfl ?_
          refine g_getR (pc := 42) o flRX3_19 (by first | assumption | rfl) (by first | assumption | omega) (by assumption) dX3_enoughInEach_42 ?_
          refine g_iload_n (pc := 45) o 3 dX3_enoughInEach_45 rfl rfl ?_
          refine g_V1i (pc := 46) o lkRX3_216 cmX0_bedded (cX0bedded hc hn rc ht hm) (by first | assumption | rfl) (by first | assumption | omega) rfl rfl ⟨Nat.le_refl _, Nat.le_refl _⟩ dX3_enoughInEach_46 ?_
          refine g_aload_n (pc := 49) o 0 dX3_enoughInEach_49 rfl rfl ?_
          refine g_getR (pc := 50) o flRX3_19 (by first | assumption | rfl) (by first | assumption | omega) (by assumption) dX3_enoughInEach_50 ?_
          refine g_getI (pc := 53) o flRX3_185 (by first | assumption | rfl) (by first | assumption | omega) dX3_enoughInEach_53 ?_
          have hbl := bedN_le T (enA T S tr c) (T 0)
          refine g_icmp_ge (pc := 56) o 61 dX3_enoughInEach_56 (by decide) (fun q56 => ?_) (fun q56 => ?_)
          · have g1 := (le_N (by omega) (by omega) m1 rfl).mp q56
            refine g_incN (pc := 61) o (c) dX3_enoughInEach_61 rfl rfl ?_
            refine g_goto (pc := 64) o 2 dX3_enoughInEach_64 (by decide) ?_
            exact ih (c + 1) _ (by show (allN _ c && !decide (bedN T (enA T S tr c) (T 0) < T 1)) = true; rw [show allN (fun h => !decide (bedN T (enA T S tr h) (T 0) < T 1)) c = true from er]; simp; omega) (by omega) (by omega)
          · have g1 := mt (le_N (by omega) (by omega) m1 rfl).mpr q56
            refine g_iconst (pc := 59) (v := 0) o dX3_enoughInEach_59 (by decide) ?_
            exact g_iret (pc := 60) o f dX3_enoughInEach_60 rfl (bi_f (by unfold enF; rw [allN_iff]; intro q; have := q c hc1; simp at this; omega)).symm rfl
  refine g_iconst (pc := 0) (v := 0) o dX3_enoughInEach_0 (by decide) ?_
  refine g_istore_n (pc := 1) o 2 dX3_enoughInEach_1 rfl rfl ?_
  exact loop (nn + 1) 0 none rfl (by omega) (by omega)

set_option maxHeartbeats 4000000 in
set_option maxRecDepth 20000 in
theorem cX3callUpFrom {t b : Nat} {T S : Nat → Nat} {nn : Nat} (hnn : nn ≤ 3) : ∀ (m h : Nat) (tr : Nat → Nat) {M : HM} (D : Nat), m + 2 ≤ D → XB M Rf n t T S b → rowT M (43 + h) tr (T 2) → h + m = nn → RetE Λ D mX3_callUpFrom [.ref 0, .int (nI h), .int (nI nn)] (n, M, Rf, Lg) (pI n Rf Lg (cuP m h M (cuF T S m h tr))) 0 0 := by
  intro m
  induction m with
  | zero =>
    intro h tr M D hD xb hrow hh
    obtain ⟨d, rfl⟩ : ∃ d, D = d + 2 := ⟨D - 2, by omega⟩
    refine RetE.of rfl rfl rfl (fun κ o f hin => ?_)
    obtain ⟨hx, hc, hn, ht, hm, hr, hs, os, hb9⟩ := id xb
    have rc := hx.city hc
    obtain ⟨x0, x1, x3, x4, x5, x8, x9, x10, x11, x13, x14, x15, xN, xC4, xC16, xP, xI, xT, xL, xNm⟩ := id hx
    obtain ⟨r3, r4, r6, r7, r8, r9, r11, r12, r13, r14, r15⟩ := id rc
    obtain ⟨z0, z1, z2, z3, z4, z5, z6, z7, z8, z9, z10, z11⟩ := city_shp hc
    obtain ⟨⟨t0, t0b⟩, t1, t2, t3, tD, tC, tN⟩ := id ht
    obtain ⟨m0, m1, m5, m10, mb, mj, mc, mn, ml⟩ := id hm
    have ra := xN 28 in28
    have rt := xN 32 in32
    obtain ⟨u3, u4, u5⟩ := id ra
    obtain ⟨v3, v4, v5⟩ := id rt
    obtain ⟨s0, s1, s2, sc⟩ := id hs
    obtain ⟨os0, os1, os2, osc⟩ := id os
    refine g_iload_n (pc := 0) o 1 dX3_callUpFrom_0 rfl rfl ?_
    refine g_iload_n (pc := 1) o 2 dX3_callUpFrom_1 rfl rfl ?_
    refine g_icmp_ge (pc := 2) o 10 dX3_callUpFrom_2 (by decide) (fun q2 => ?_) (fun q2 => ?_)
    · refine g_iconst (pc := 10) (v := 1) o dX3_callUpFrom_10 (by decide) ?_
      exact e_iret (pc := 11) o f dX3_callUpFrom_11 rfl (pI.of ⟨⟨fun _ _ _ => rfl, fun _ _ => rfl⟩, rfl, fun i hi => absurd hi (by omega)⟩)
    · exact absurd ((le_N (by omega) (by omega) rfl rfl).mpr (by omega)) q2
  | succ m ih =>
    intro h tr M D hD xb hrow hh
    obtain ⟨d, rfl⟩ : ∃ d, D = d + 3 := ⟨D - 3, by omega⟩
    refine RetE.of rfl rfl rfl (fun κ o f hin => ?_)
    obtain ⟨hx, hc, hn, ht, hm, hr, hs, os, hb9⟩ := id xb
    have rc := hx.city hc
    obtain ⟨x0, x1, x3, x4, x5, x8, x9, x10, x11, x13, x14, x15, xN, xC4, xC16, xP, xI, xT, xL, xNm⟩ := id hx
    obtain ⟨r3, r4, r6, r7, r8, r9, r11, r12, r13, r14, r15⟩ := id rc
    obtain ⟨z0, z1, z2, z3, z4, z5, z6, z7, z8, z9, z10, z11⟩ := city_shp hc
    obtain ⟨⟨t0, t0b⟩, t1, t2, t3, tD, tC, tN⟩ := id ht
    obtain ⟨m0, m1, m5, m10, mb, mj, mc, mn, ml⟩ := id hm
    have ra := xN 28 in28
    have rt := xN 32 in32
    obtain ⟨u3, u4, u5⟩ := id ra
    obtain ⟨v3, v4, v5⟩ := id rt
    obtain ⟨s0, s1, s2, sc⟩ := id hs
    obtain ⟨os0, os1, os2, osc⟩ := id os
    have s43 := shp_tr h (by omega)
    have s44 := shp_tr (h + 1) (by omega)
    have loop : ∀ (k c j9 : Nat) (M1 : HM), frC h M M1 → cuF T S (m + 1) h tr = fst9 (cuG T S m h tr) c j9 → c + j9 = 64 → j9 < k → G (Λ, κ) 43 [some (.ref 0), some (.int (nI h)), some (.int (nI nn)), some (.int (nI (rst T ((S 1 + h) % 8) &&& trS T tr))), some (.int (nI c))] [] (n, M1, Rf, Lg) 0 0 := by
      intro k
      induction k with
      | zero => intro c j9 M1 hf er h1 h2; exact absurd h2 (by omega)
      | succ k ihl =>
        intro c j9 M1 hf er h1 h2
        have xb2 := xb.kept (M' := M1) (fun z h3 h4 => hf.1 z (by omega) (by omega))
        have hmx : cyT M1 t T := xb2.2.2.2.2.1
        have m1x : M1 t 1 = nI (T 1) := hmx.2.1
        refine g_iload (pc := 43) o dX3_callUpFrom_43 rfl ?_
        refine g_bipush (pc := 45) (v := 64) o dX3_callUpFrom_45 (by decide) ?_
        refine g_icmp_ge (pc := 47) o 142 dX3_callUpFrom_47 (by decide) (fun q47 => ?_) (fun q47 => ?_)
        · have ec : c = 64 := by have := (le_N (a := 64) (b := c) (by decide) (by omega) rfl rfl).mp q47; omega
          have ej : j9 = 0 := by omega
          refine g_iconst (pc := 142) (v := 0) o dX3_callUpFrom_142 (by decide) ?_
          exact e_iret (pc := 143) o f dX3_callUpFrom_143 rfl (pI.of ⟨hf, by rw [er, ej]; rfl⟩)
        · have hc1 : c < 64 := by have := mt (le_N (a := 64) (b := c) (by decide) (by omega) rfl rfl).mpr q47; omega
          obtain ⟨j8, rfl⟩ : ∃ j8, j9 = j8 + 1 := ⟨j9 - 1, by omega⟩
          refine g_iload (pc := 50) o dX3_callUpFrom_50 rfl ?_
          refine g_iload_n (pc := 52) o 3 dX3_callUpFrom_52 rfl rfl ?_
          refine g_iconst (pc := 53) (v := -1) o dX3_callUpFrom_53 (by decide) ?_
          refine g_ixor (pc := 54) o dX3_callUpFrom_54 ?_
          refine g_iand (pc := 55) o dX3_callUpFrom_55 ?_
          rw [n_dif]
          refine g_if_ne (pc := 56) o 136 dX3_callUpFrom_56 (by decide) (fun q56 => ?_) (fun q56 => ?_)
          · have g0 : ¬ dif c (rst T ((S 1 + h) % 8) &&& trS T tr) = 0 := mt (eq_N (by have := dif6 (b := (rst T ((S 1 + h) % 8) &&& trS T tr)) hc1; omega) (by decide) rfl (rfl : (0 : Int32) = nI 0)).mpr q56
            have e1 : cuG T S m h tr c = none := if_neg (by unfold cuO; simp; intro q; exact absurd q g0)
            refine g_incN (pc := 136) o (c) dX3_callUpFrom_136 rfl rfl ?_
            refine g_goto (pc := 139) o 43 dX3_callUpFrom_139 (by decide) ?_
            first | exact ihl (c + 1) j8 M1 hf (by rw [er]; show (match cuG T S m h tr c with | some L => some L | none => _) = _; rw [e1]) (by omega) (by omega) | exact ihl (c + 1) j8 M2 hf3 (by rw [er]; show (match cuG T S m h tr c with | some L => some L | none => _) = _; rw [e1]) (by omega) (by omega)
          · have g0 : dif c (rst T ((S 1 + h) % 8) &&& trS T tr) = 0 := (eq_N (by have := dif6 (b := (rst T ((S 1 + h) % 8) &&& trS T tr)) hc1; omega) (by decide) rfl (rfl : (0 : Int32) = nI 0)).mp q56
            refine g_iload (pc := 59) o dX3_callUpFrom_59 rfl ?_
            refine g_S1i (pc := 61) o lkRX3_179 cmJ6_bitCount_0f7a4 (cbc (by omega)) rfl rfl ⟨Nat.le_refl _, Nat.le_refl _⟩ dX3_callUpFrom_61 ?_
            refine g_aload_n (pc := 64) o 0 dX3_callUpFrom_64 rfl rfl ?_
            refine g_getR (pc := 65) o flRX3_19 (by first | assumption | rfl) (by first | assumption | omega) (by assumption) dX3_callUpFrom_65 ?_
            refine g_getI (pc := 68) o flRX3_185 (by first | assumption | rfl) (by first | assumption | omega) dX3_callUpFrom_68 ?_
            refine g_icmp_ne (pc := 71) o 136 dX3_callUpFrom_71 (by decide) (fun q71 => ?_) (fun q71 => ?_)
            · have g1 : ¬ pop c = T 1 := mt (eq_N (by have := pop_le c; omega) (by omega) rfl m1x).mpr q71
              have e1 : cuG T S m h tr c = none := if_neg (by unfold cuO; simp; intro _ q; exact absurd q g1)
              refine g_incN (pc := 136) o (c) dX3_callUpFrom_136 rfl rfl ?_
              refine g_goto (pc := 139) o 43 dX3_callUpFrom_139 (by decide) ?_
              first | exact ihl (c + 1) j8 M1 hf (by rw [er]; show (match cuG T S m h tr c with | some L => some L | none => _) = _; rw [e1]) (by omega) (by omega) | exact ihl (c + 1) j8 M2 hf3 (by rw [er]; show (match cuG T S m h tr c with | some L => some L | none => _) = _; rw [e1]) (by omega) (by omega)
            · have g1 : pop c = T 1 := (eq_N (by have := pop_le c; omega) (by omega) rfl m1x).mp q71
              refine g_aload_n (pc := 74) o 0 dX3_callUpFrom_74 rfl rfl ?_
              refine g_getR (pc := 75) o flRX3_19 (by first | assumption | rfl) (by first | assumption | omega) (by assumption) dX3_callUpFrom_75 ?_
              refine g_iload (pc := 78) o dX3_callUpFrom_78 rfl ?_
              refine g_V1i (pc := 80) o lkRX3_216 cmX0_bedded (cX0bedded hc hn rc ht hmx (w := c)) (by first | assumption | rfl) (by first | assumption | omega) rfl rfl ⟨Nat.le_refl _, Nat.le_refl _⟩ dX3_callUpFrom_80 ?_
              refine g_aload_n (pc := 83) o 0 dX3_callUpFrom_83 rfl rfl ?_
              refine g_getR (pc := 84) o flRX3_19 (by first | assumption | rfl) (by first | assumption | omega) (by assumption) dX3_callUpFrom_84 ?_
              refine g_getI (pc := 87) o flRX3_185 (by first | assumption | rfl) (by first | assumption | omega) dX3_callUpFrom_87 ?_
              refine g_icmp_eq (pc := 90) o 96 dX3_callUpFrom_90 (by decide) (fun q90 => ?_) (fun q90 => ?_)
              · have g2 : bedN T c (T 0) = T 1 := (eq_N (by have := bedN_le T c (T 0); omega) (by omega) rfl m1x).mp q90
                refine g_aload_n (pc := 96) o 0 dX3_callUpFrom_96 rfl rfl ?_
                refine g_getR (pc := 97) o flRX3_54 (by first | assumption | rfl) (by first | assumption | omega) (by assumption) dX3_callUpFrom_97 ?_
                refine g_iload_n (pc := 100) o 1 dX3_callUpFrom_100 rfl rfl ?_
                refine g_iload (pc := 101) o dX3_callUpFrom_101 rfl ?_
                refine g_iast (pc := 103) o (h) (by first | assumption | rfl) (by first | assumption | omega) rfl (by omega) dX3_callUpFrom_103 ?_
                skip
                refine g_aload_n (pc := 104) o 0 dX3_callUpFrom_104 rfl rfl ?_
                refine g_getR (pc := 105) o flRX3_59 (by first | assumption | rfl) (by first | assumption | omega) (by assumption) dX3_callUpFrom_105 ?_
                refine g_iload_n (pc := 108) o 1 dX3_callUpFrom_108 rfl rfl ?_
                refine g_aald (pc := 109) o (h) (by first | assumption | rfl) (by first | exact Or.inl rfl | exact Or.inr rfl) (by first | assumption | omega) rfl (by omega) (xT h (by omega)) dX3_callUpFrom_109 ?_
                refine g_iload (pc := 110) o dX3_callUpFrom_110 rfl ?_
                refine g_aload_n (pc := 112) o 0 dX3_callUpFrom_112 rfl rfl ?_
                refine g_getR (pc := 113) o flRX3_59 (by first | assumption | rfl) (by first | assumption | omega) (by assumption) dX3_callUpFrom_113 ?_
                refine g_iload_n (pc := 116) o 1 dX3_callUpFrom_116 rfl rfl ?_
                refine g_iconst (pc := 117) (v := 1) o dX3_callUpFrom_117 (by decide) ?_
                refine g_iadd (pc := 118) o dX3_callUpFrom_118 ?_
                refine g_aald (pc := 119) o (h + 1) (by first | assumption | rfl) (by first | exact Or.inl rfl | exact Or.inr rfl) (by first | assumption | omega) (nI_addE rfl rfl) (by omega) (xT (h + 1) (by omega)) dX3_callUpFrom_119 ?_
                refine g_S3v (pc := 120) o lkRX3_219 cmX3_tire (cX3tire (a := 43 + h) (b := 43 + (h + 1)) (w := c) (by omega) (shp_tr h (by omega)) (shp_tr (h + 1) (by omega)) (by omega) (by omega)) rfl rfl ⟨Nat.le_refl _, Nat.le_refl _⟩ dX3_callUpFrom_120 ?_
                have xb3 : XB (tireM (st2 M1 41 h (nI c)) (43 + h) c (43 + (h + 1))) Rf n t T S b := xb2.kept (fun z h3 h4 => by funext q; exact (rowM_ne _ _ _ (by omega) q).trans (st2_ne2 _ _ (by omega)))
                have hrow3 : rowT (tireM (st2 M1 41 h (nI c)) (43 + h) c (43 + (h + 1))) (43 + (h + 1)) (trN tr c) (T 2) := by
                  intro i hi
                  have q := hrow i hi
                  refine ⟨?_, tirN_le _ _ q.2⟩
                  rw [show tireM (st2 M1 41 h (nI c)) (43 + h) c (43 + (h + 1)) (43 + (h + 1)) i = tir (c.testBit i) (st2 M1 41 h (nI c) (43 + h) i) from rowM_in _ _ _ (by omega), st2_ne2 _ _ (by omega), hf.1 (43 + h) (by omega) (by omega), q.1, tir_N _ (by omega)]
                  rfl
                refine g_aload_n (pc := 123) o 0 dX3_callUpFrom_123 rfl rfl ?_
                refine g_iload_n (pc := 124) o 1 dX3_callUpFrom_124 rfl rfl ?_
                refine g_iconst (pc := 125) (v := 1) o dX3_callUpFrom_125 (by decide) ?_
                refine g_iadd (pc := 126) o dX3_callUpFrom_126 ?_
                rw [nI_1]
                refine g_iload_n (pc := 127) o 2 dX3_callUpFrom_127 rfl rfl ?_
                refine e_V2i (pc := 128) o lkRX3_202 cmX3_callUpFrom (ih (h + 1) (trN tr c) (M := tireM (st2 M1 41 h (nI c)) (43 + h) c (43 + (h + 1))) (d + 2) (by omega) xb3 hrow3 (by omega)) (by first | assumption | rfl) (by first | assumption | omega) rfl rfl ⟨Nat.le_refl _, Nat.le_refl _⟩ dX3_callUpFrom_128 (fun r M2 hp => ?_)
                obtain ⟨hf2, hp2⟩ := hp
                have hf3 : frC h M M2 := by
                  refine ⟨fun z z1 z2 => ?_, fun j hj => ?_⟩
                  · rw [hf2.1 z z1 (by omega)]
                    funext q
                    rw [show tireM (st2 M1 41 h (nI c)) (43 + h) c (43 + (h + 1)) z q = st2 M1 41 h (nI c) z q from rowM_ne _ _ _ (by omega) q, st2_ne2 _ _ (by omega), hf.1 z z1 z2]
                  · rw [hf2.2 j (by omega), show tireM (st2 M1 41 h (nI c)) (43 + h) c (43 + (h + 1)) 41 j = st2 M1 41 h (nI c) 41 j from rowM_ne _ _ _ (by omega) j, st2_ne2 _ _ (by omega)]
                    exact hf.2 j hj
                have hco : cuO T S h tr c = true := by unfold cuO; simp [g0, g1, g2]
                refine g_if_eq (pc := 131) o 136 dX3_callUpFrom_131 (by decide) (fun q131 => ?_) (fun q131 => ?_)
                · have hn9 : cuF T S m (h + 1) (trN tr c) = none := by
                    cases e : cuF T S m (h + 1) (trN tr c) with
                    | none => rfl
                    | some L => rw [e] at hp2; rw [hp2.1] at q131; exact absurd q131 (by decide)
                  have e1 : cuG T S m h tr c = none := by unfold cuG; rw [if_pos hco, hn9]; rfl
                  refine g_incN (pc := 136) o (c) dX3_callUpFrom_136 rfl rfl ?_
                  refine g_goto (pc := 139) o 43 dX3_callUpFrom_139 (by decide) ?_
                  first | exact ihl (c + 1) j8 M1 hf (by rw [er]; show (match cuG T S m h tr c with | some L => some L | none => _) = _; rw [e1]) (by omega) (by omega) | exact ihl (c + 1) j8 M2 hf3 (by rw [er]; show (match cuG T S m h tr c with | some L => some L | none => _) = _; rw [e1]) (by omega) (by omega)
                · obtain ⟨L, hL⟩ : ∃ L, cuF T S m (h + 1) (trN tr c) = some L := by
                    cases e : cuF T S m (h + 1) (trN tr c) with
                    | none => rw [e] at hp2; exact absurd hp2 q131
                    | some L => exact ⟨L, rfl⟩
                  rw [hL] at hp2
                  have e1 : cuG T S m h tr c = some (c :: L) := by unfold cuG; rw [if_pos hco, hL]; rfl
                  have ef : cuF T S (m + 1) h tr = some (c :: L) := by rw [er]; show (match cuG T S m h tr c with | some L => some L | none => _) = _; rw [e1]
                  refine g_iconst (pc := 134) (v := 1) o dX3_callUpFrom_134 (by decide) ?_
                  exact e_iret (pc := 135) o f dX3_callUpFrom_135 rfl (pI.of ⟨hf3, by rw [ef]; refine ⟨rfl, fun i hi => ?_⟩; cases i with | zero => exact (hf2.2 h (by omega)).trans ((rowM_ne _ _ _ (by omega) h).trans (st2_same _ _ _ _)) | succ i => have q := hp2.2 i (by omega); rw [show h + (i + 1) = h + 1 + i by omega]; exact q⟩)
              · have g2 : ¬ bedN T c (T 0) = T 1 := mt (eq_N (by have := bedN_le T c (T 0); omega) (by omega) rfl m1x).mpr q90
                have e1 : cuG T S m h tr c = none := if_neg (by unfold cuO; simp; intro _ _; exact g2)
                refine g_goto (pc := 93) o 136 dX3_callUpFrom_93 (by decide) ?_
                refine g_incN (pc := 136) o (c) dX3_callUpFrom_136 rfl rfl ?_
                refine g_goto (pc := 139) o 43 dX3_callUpFrom_139 (by decide) ?_
                first | exact ihl (c + 1) j8 M1 hf (by rw [er]; show (match cuG T S m h tr c with | some L => some L | none => _) = _; rw [e1]) (by omega) (by omega) | exact ihl (c + 1) j8 M2 hf3 (by rw [er]; show (match cuG T S m h tr c with | some L => some L | none => _) = _; rw [e1]) (by omega) (by omega)
    refine g_iload_n (pc := 0) o 1 dX3_callUpFrom_0 rfl rfl ?_
    refine g_iload_n (pc := 1) o 2 dX3_callUpFrom_1 rfl rfl ?_
    refine g_icmp_ge (pc := 2) o 10 dX3_callUpFrom_2 (by decide) (fun q2 => ?_) (fun q2 => ?_)
    · exact absurd ((le_N (by omega) (by omega) rfl rfl).mp q2) (by omega)
    · refine g_iload_n (pc := 5) o 1 dX3_callUpFrom_5 rfl rfl ?_
      refine g_iconst (pc := 6) (v := 3) o dX3_callUpFrom_6 (by decide) ?_
      refine g_icmp_lt (pc := 7) o 12 dX3_callUpFrom_7 (by decide) (fun q7 => ?_) (fun q7 => ?_)
      · refine g_aload_n (pc := 12) o 0 dX3_callUpFrom_12 rfl rfl ?_
        refine g_getR (pc := 13) o flRX3_19 (by first | assumption | rfl) (by first | assumption | omega) (by assumption) dX3_callUpFrom_13 ?_
        refine g_getR (pc := 16) o flRX3_206 (by first | assumption | rfl) (by first | assumption | omega) (by assumption) dX3_callUpFrom_16 ?_
        refine g_aload_n (pc := 19) o 0 dX3_callUpFrom_19 rfl rfl ?_
        refine g_iload_n (pc := 20) o 1 dX3_callUpFrom_20 rfl rfl ?_
        refine g_V1i (pc := 21) o lkRX3_209 cmX3_hourAhead (cX3hourAhead xb (k := h) (by omega)) (by first | assumption | rfl) (by first | assumption | omega) rfl rfl ⟨Nat.le_refl _, Nat.le_refl _⟩ dX3_callUpFrom_21 ?_
        refine g_iald (pc := 24) o ((S 1 + h) % 8) (by first | assumption | rfl) (by first | assumption | omega) rfl (by omega) dX3_callUpFrom_24 ?_
        rw [hr _ (by omega)]
        refine g_aload_n (pc := 25) o 0 dX3_callUpFrom_25 rfl rfl ?_
        refine g_getR (pc := 26) o flRX3_19 (by first | assumption | rfl) (by first | assumption | omega) (by assumption) dX3_callUpFrom_26 ?_
        refine g_aload_n (pc := 29) o 0 dX3_callUpFrom_29 rfl rfl ?_
        refine g_getR (pc := 30) o flRX3_59 (by first | assumption | rfl) (by first | assumption | omega) (by assumption) dX3_callUpFrom_30 ?_
        refine g_iload_n (pc := 33) o 1 dX3_callUpFrom_33 rfl rfl ?_
        refine g_aald (pc := 34) o (h) (by first | assumption | rfl) (by first | exact Or.inl rfl | exact Or.inr rfl) (by first | assumption | omega) rfl (by omega) (xT h (by omega)) dX3_callUpFrom_34 ?_
        refine g_V1i (pc := 35) o lkRX3_212 cmX0_tiredOf (cX0tiredOf hc hn rc ht hm (a := 43 + h) (tr := tr) (shp_tr h (by omega)) (by omega) (fun i hi => ⟨(hrow i hi).1, by have := (hrow i hi).2; omega⟩)) (by first | assumption | rfl) (by first | assumption | omega) rfl rfl ⟨Nat.le_refl _, Nat.le_refl _⟩ dX3_callUpFrom_35 ?_
        refine g_iand (pc := 38) o dX3_callUpFrom_38 ?_
        rw [n_and, show rst T ((S 1 + h) % 8) &&& mk (fun i => decide (0 < tr i)) (T 2) = (rst T ((S 1 + h) % 8) &&& trS T tr) from rfl]
        refine g_istore_n (pc := 39) o 3 dX3_callUpFrom_39 rfl rfl ?_
        refine g_iconst (pc := 40) (v := 0) o dX3_callUpFrom_40 (by decide) ?_
        refine g_istore (pc := 41) o dX3_callUpFrom_41 rfl ?_
        exact loop 65 0 64 _ ⟨fun _ _ _ => rfl, fun _ _ => rfl⟩ (cuF_s T S m h tr) (by omega) (by omega)
      · exact absurd ((lt_N (b := 3) (by omega) (by decide) rfl rfl).mpr (by omega)) q7

def vCU (v w : Int32) : Prop := (1 ≤ v.toInt ∧ v.toInt ≤ 3) ∧ -1 ≤ w.toInt
def tr3 (S : Nat → Nat) : Nat → Nat := fun i => S (3 + i)
def fCU (T S : Nat → Nat) (k : Nat) : Option (List Nat) := if enF T S (tr3 S) k = true then cuF T S k 0 (tr3 S) else none
noncomputable def aCallUp (T S : Nat → Nat) (v w : Int32) : Int32 := @ite _ (vCU v w) (Classical.propDecidable _) (if v ≤ w then -5 else match fCU T S v.toNatClampNeg with
  | none => -9
  | some L => if w = -1 then nI (v.toNatClampNeg * T 1) else nI (L.getD w.toNatClampNeg 0)) (-1)
def frU (M M' : HM) : Prop := ∀ z, z ≠ 41 → z < 43 ∨ 46 < z → M' z = M z
theorem vCU_lt {v w : Int32} (h : v < 1) : ¬ vCU v w := by
  rw [Int32.lt_iff_toInt_lt] at h
  have : (1 : Int32).toInt = 1 := by decide
  unfold vCU; omega
theorem vCU_gt {v w : Int32} (h : 3 < v) : ¬ vCU v w := by
  rw [Int32.lt_iff_toInt_lt] at h
  have : (3 : Int32).toInt = 3 := by decide
  unfold vCU; omega
theorem vCU_w {v w : Int32} (h : ¬ -1 ≤ w) : ¬ vCU v w := by
  rw [Int32.le_iff_toInt_le] at h
  have : (-1 : Int32).toInt = -1 := by decide
  unfold vCU; omega
theorem vCU_of {v w : Int32} (h1 : ¬ v < 1) (h2 : ¬ 3 < v) (h3 : -1 ≤ w) : vCU v w := by
  rw [Int32.lt_iff_toInt_lt] at h1 h2
  rw [Int32.le_iff_toInt_le] at h3
  have e1 : (1 : Int32).toInt = 1 := by decide
  have e3 : (3 : Int32).toInt = 3 := by decide
  have e4 : (-1 : Int32).toInt = -1 := by decide
  unfold vCU; omega
set_option maxHeartbeats 2000000 in
set_option maxRecDepth 20000 in
theorem cX3callUp {t b : Nat} {T S : Nat → Nat} (xb : XB M Rf n t T S b) {v w : Int32} : RetE Λ (d + 6) mX3_callUp [.ref 0, .int v, .int w] (n, M, Rf, Lg) (pI n Rf Lg (fun r M' => r = aCallUp T S v w ∧ frU M M')) 0 0 := by
  refine RetE.of rfl rfl rfl (fun κ o f hin => ?_)
  obtain ⟨hx, hc, hn, ht, hm, hr, hs, os, hb9⟩ := id xb
  have rc := hx.city hc
  obtain ⟨x0, x1, x3, x4, x5, x8, x9, x10, x11, x13, x14, x15, xN, xC4, xC16, xP, xI, xT, xL, xNm⟩ := id hx
  obtain ⟨r3, r4, r6, r7, r8, r9, r11, r12, r13, r14, r15⟩ := id rc
  obtain ⟨z0, z1, z2, z3, z4, z5, z6, z7, z8, z9, z10, z11⟩ := city_shp hc
  obtain ⟨⟨t0, t0b⟩, t1, t2, t3, tD, tC, tN⟩ := id ht
  obtain ⟨m0, m1, m5, m10, mb, mj, mc, mn, ml⟩ := id hm
  have ra := xN 28 in28
  have rt := xN 32 in32
  obtain ⟨u3, u4, u5⟩ := id ra
  obtain ⟨v3, v4, v5⟩ := id rt
  obtain ⟨s0, s1, s2, sc⟩ := id hs
  obtain ⟨os0, os1, os2, osc⟩ := id os
  refine g_iload_n (pc := 0) o 1 dX3_callUp_0 rfl rfl ?_
  refine g_iconst (pc := 1) (v := 1) o dX3_callUp_1 (by decide) ?_
  refine g_icmp_lt (pc := 2) o 15 dX3_callUp_2 (by decide) (fun q2 => ?_) (fun q2 => ?_)
  · have hv := vCU_lt (w := w) q2
    refine g_iconst (pc := 15) (v := -1) o dX3_callUp_15 (by decide) ?_
    exact e_iret (pc := 16) o f dX3_callUp_16 rfl (pI.of ⟨by unfold aCallUp; rw [if_neg hv], fun _ _ _ => rfl⟩)
  · refine g_iload_n (pc := 5) o 1 dX3_callUp_5 rfl rfl ?_
    refine g_iconst (pc := 6) (v := 3) o dX3_callUp_6 (by decide) ?_
    refine g_icmp_gt (pc := 7) o 15 dX3_callUp_7 (by decide) (fun q7 => ?_) (fun q7 => ?_)
    · have hv := vCU_gt (w := w) q7
      refine g_iconst (pc := 15) (v := -1) o dX3_callUp_15 (by decide) ?_
      exact e_iret (pc := 16) o f dX3_callUp_16 rfl (pI.of ⟨by unfold aCallUp; rw [if_neg hv], fun _ _ _ => rfl⟩)
    · refine g_iload_n (pc := 10) o 2 dX3_callUp_10 rfl rfl ?_
      refine g_iconst (pc := 11) (v := -1) o dX3_callUp_11 (by decide) ?_
      refine g_icmp_ge (pc := 12) o 17 dX3_callUp_12 (by decide) (fun q12 => ?_) (fun q12 => ?_)
      · have hv := vCU_of q2 q7 q12
        obtain ⟨nn, hnn, rfl⟩ : ∃ j, j < 4 ∧ v = nI j := inn_of ⟨by have := hv.1.1; omega, by have := hv.1.2; omega⟩ (by decide)
        have hn1 : 1 ≤ nn := by have := hv.1.1; rw [nI_toInt (by omega)] at this; omega
        refine g_iload_n (pc := 17) o 2 dX3_callUp_17 rfl rfl ?_
        refine g_iload_n (pc := 18) o 1 dX3_callUp_18 rfl rfl ?_
        refine g_icmp_lt (pc := 19) o 25 dX3_callUp_19 (by decide) (fun q19 => ?_) (fun q19 => ?_)
        · have hlt : ¬ nI nn ≤ w := Int32.not_le.mpr q19
          refine g_aload_n (pc := 25) o 0 dX3_callUp_25 rfl rfl ?_
          refine g_getR (pc := 26) o flRX3_29 (by first | assumption | rfl) (by first | assumption | omega) (by assumption) dX3_callUp_26 ?_
          refine g_getR (pc := 29) o flRX3_103 (by first | assumption | rfl) (by first | assumption | omega) (by assumption) dX3_callUp_29 ?_
          refine g_iconst (pc := 32) (v := 0) o dX3_callUp_32 (by decide) ?_
          refine g_aload_n (pc := 33) o 0 dX3_callUp_33 rfl rfl ?_
          refine g_getR (pc := 34) o flRX3_59 (by first | assumption | rfl) (by first | assumption | omega) (by assumption) dX3_callUp_34 ?_
          refine g_iconst (pc := 37) (v := 0) o dX3_callUp_37 (by decide) ?_
          refine g_aald (pc := 38) o (0) (by first | assumption | rfl) (by first | exact Or.inl rfl | exact Or.inr rfl) (by first | assumption | omega) rfl (by omega) (xT 0 (by decide)) dX3_callUp_38 ?_
          refine g_iconst (pc := 39) (v := 0) o dX3_callUp_39 (by decide) ?_
          refine g_bipush (pc := 40) (v := 6) o dX3_callUp_40 (by decide) ?_
          refine g_copy (pc := 42) o lkRX3_193 nat_copy st_copy ini_sys (by first | assumption | rfl) (by first | assumption | rfl) (by first | assumption | omega) (by first | assumption | omega) (6) rfl (by omega) (by omega) rfl rfl dX3_callUp_42 ?_
          have xb2 : XB (fun z j => if z = 43 ∧ j < 6 then M (28 + 1) j else M z j) Rf n t T S b := xb.kept (fun z h3 h4 => by funext j; show (if z = 43 ∧ j < 6 then _ else M z j) = _; rw [if_neg (by omega)])
          have hrow2 : rowT (fun z j => if z = 43 ∧ j < 6 then M (28 + 1) j else M z j) (43 + 0) (tr3 S) (T 2) := fun i hi => ⟨by show (if 43 + 0 = 43 ∧ i < 6 then M (28 + 1) i else _) = _; rw [if_pos ⟨rfl, by omega⟩]; exact (sc i hi).1, (osc i hi).1⟩
          refine g_aload_n (pc := 45) o 0 dX3_callUp_45 rfl rfl ?_
          refine g_iload_n (pc := 46) o 1 dX3_callUp_46 rfl rfl ?_
          refine g_V1i (pc := 47) o lkRX3_199 cmX3_enoughInEach (cX3enough xb2 hrow2 (nn := nn) (by omega)) (by first | assumption | rfl) (by first | assumption | omega) rfl rfl ⟨Nat.le_refl _, Nat.le_refl _⟩ dX3_callUp_47 ?_
          refine g_if_eq (pc := 50) o 62 dX3_callUp_50 (by decide) (fun q50 => ?_) (fun q50 => ?_)
          · have hno : fCU T S nn = none := if_neg (bi_z.mp q50)
            refine g_bipush (pc := 62) (v := -9) o dX3_callUp_62 (by decide) ?_
            exact e_iret (pc := 64) o f dX3_callUp_64 rfl (pI.of ⟨by unfold aCallUp; rw [if_pos hv, if_neg hlt, nI_clamp (by omega), hno], by first | exact hfr | (intro z z1 z2; funext j; show (if z = 43 ∧ j < 6 then _ else M z j) = _; rw [if_neg (by omega)])⟩)
          · have hen := bi_nz.mp q50
            refine g_aload_n (pc := 53) o 0 dX3_callUp_53 rfl rfl ?_
            refine g_iconst (pc := 54) (v := 0) o dX3_callUp_54 (by decide) ?_
            refine g_iload_n (pc := 55) o 1 dX3_callUp_55 rfl rfl ?_
            refine e_V2i (pc := 56) o lkRX3_202 cmX3_callUpFrom (cX3callUpFrom (nn := nn) (by omega) nn 0 (tr3 S) (d + 5) (by omega) xb2 hrow2 (by omega)) (by first | assumption | rfl) (by first | assumption | omega) rfl rfl ⟨Nat.le_refl _, Nat.le_refl _⟩ dX3_callUp_56 (fun r M2 hp => ?_)
            obtain ⟨hf2, hp2⟩ := hp
            have hfr : frU M M2 := fun z z1 z2 => by
              rw [hf2.1 z z1 (by omega)]; funext j; show (if z = 43 ∧ j < 6 then _ else M z j) = _; rw [if_neg (by omega)]
            refine g_if_ne (pc := 59) o 65 dX3_callUp_59 (by decide) (fun q59 => ?_) (fun q59 => ?_)
            · obtain ⟨L, hL⟩ : ∃ L, cuF T S nn 0 (tr3 S) = some L := by
                cases e : cuF T S nn 0 (tr3 S) with
                | none => rw [e] at hp2; exact absurd hp2 q59
                | some L => exact ⟨L, rfl⟩
              rw [hL] at hp2
              have hso : fCU T S nn = some L := by unfold fCU; rw [if_pos hen, hL]
              refine g_iload_n (pc := 65) o 2 dX3_callUp_65 rfl rfl ?_
              refine g_iconst (pc := 66) (v := -1) o dX3_callUp_66 (by decide) ?_
              refine g_icmp_ne (pc := 67) o 82 dX3_callUp_67 (by decide) (fun q67 => ?_) (fun q67 => ?_)
              · obtain ⟨i9, hi9, rfl⟩ : ∃ j, j < nn ∧ w = nI j := by
                  refine inn_of ⟨?_, ?_⟩ (by omega)
                  · have h1 := hv.2; have h2 : ¬ w.toInt = -1 := fun q => q67 (Int32.toInt_inj.mp (by rw [q]; decide)); omega
                  · have h1 := hlt; rw [Int32.le_iff_toInt_le, nI_toInt (by omega)] at h1; omega
                refine g_aload_n (pc := 82) o 0 dX3_callUp_82 rfl rfl ?_
                refine g_getR (pc := 83) o flRX3_54 (by first | assumption | rfl) (by first | assumption | omega) (by assumption) dX3_callUp_83 ?_
                refine g_iload_n (pc := 86) o 2 dX3_callUp_86 rfl rfl ?_
                refine g_iald (pc := 87) o (i9) (by first | assumption | rfl) (by first | assumption | omega) rfl (by omega) dX3_callUp_87 ?_
                exact e_iret (pc := 88) o f dX3_callUp_88 rfl (pI.of ⟨by unfold aCallUp; rw [if_pos hv, if_neg hlt, nI_clamp (by omega), hso]; first | (show _ = (if nI i9 = -1 then _ else _); rw [if_neg q67, nI_clamp (by omega)]; have q := hp2.2 i9 hi9; rw [Nat.zero_add] at q; exact q) | (show _ = (if w = -1 then _ else _); rw [if_pos q67, hfr t (by omega) (by omega), m1, pk_mul]), hfr⟩)
              · refine g_iload_n (pc := 70) o 1 dX3_callUp_70 rfl rfl ?_
                refine g_aload_n (pc := 71) o 0 dX3_callUp_71 rfl rfl ?_
                refine g_getR (pc := 72) o flRX3_19 (by first | assumption | rfl) (by first | assumption | omega) (by assumption) dX3_callUp_72 ?_
                refine g_getI (pc := 75) o flRX3_185 (by first | assumption | rfl) (by first | assumption | omega) dX3_callUp_75 ?_
                refine g_imul (pc := 78) o dX3_callUp_78 ?_
                refine g_goto (pc := 79) o 88 dX3_callUp_79 (by decide) ?_
                exact e_iret (pc := 88) o f dX3_callUp_88 rfl (pI.of ⟨by unfold aCallUp; rw [if_pos hv, if_neg hlt, nI_clamp (by omega), hso]; first | (show _ = (if nI i9 = -1 then _ else _); rw [if_neg q67, nI_clamp (by omega)]; have q := hp2.2 i9 hi9; rw [Nat.zero_add] at q; exact q) | (show _ = (if w = -1 then _ else _); rw [if_pos q67, hfr t (by omega) (by omega), m1, pk_mul]), hfr⟩)
            · have hno : fCU T S nn = none := by
                unfold fCU; rw [if_pos hen]
                cases e : cuF T S nn 0 (tr3 S) with
                | none => rfl
                | some L => rw [e] at hp2; rw [hp2.1] at q59; exact absurd q59 (by decide)
              refine g_bipush (pc := 62) (v := -9) o dX3_callUp_62 (by decide) ?_
              exact e_iret (pc := 64) o f dX3_callUp_64 rfl (pI.of ⟨by unfold aCallUp; rw [if_pos hv, if_neg hlt, nI_clamp (by omega), hno], by first | exact hfr | (intro z z1 z2; funext j; show (if z = 43 ∧ j < 6 then _ else M z j) = _; rw [if_neg (by omega)])⟩)
        · have hge : nI nn ≤ w := Int32.not_lt.mp q19
          refine g_bipush (pc := 22) (v := -5) o dX3_callUp_22 (by decide) ?_
          exact e_iret (pc := 24) o f dX3_callUp_24 rfl (pI.of ⟨by unfold aCallUp; rw [if_pos hv, if_pos hge], fun _ _ _ => rfl⟩)
      · have hv := vCU_w (v := v) q12
        refine g_iconst (pc := 15) (v := -1) o dX3_callUp_15 (by decide) ?_
        exact e_iret (pc := 16) o f dX3_callUp_16 rfl (pI.of ⟨by unfold aCallUp; rw [if_neg hv], fun _ _ _ => rfl⟩)

end M11
