section M10
variable {Λ : PL} {d n : Nat} {M : HM} {Rf : HR} {Lg : HL}

def wcN (T : Nat → Nat) (w v k : Nat) : Nat := pop (w &&& wkB T k v) * 8
theorem wkB6 {T : Nat → Nat} (h : T 2 ≤ 6) (d v : Nat) : wkB T d v < 64 := mk6 _ h
theorem wcN_le (T : Nat → Nat) (w v k : Nat) : wcN T w v k ≤ 64 := by have := pop_le (w &&& wkB T k v); unfold wcN; omega
def upN (g : Nat → Nat) (k v : Nat) : Nat → Nat := fun j => if j = k then v else g j
/-- the cart drives on from dd to the first k districts -/
def drvL (T : Nat → Nat) (w v dd : Nat) (g : Nat → Nat) : Nat → Nat → Nat
  | 0 => g
  | k + 1 => if (T (6 + dd)).testBit k = true then upN (drvL T w v dd g k) k (min (drvL T w v dd g k k) (drvL T w v dd g k dd + 1 + wcN T w v k)) else drvL T w v dd g k
def drv (T : Nat → Nat) (w v dd : Nat) (g : Nat → Nat) : Nat → Nat := if g dd < 1000 then drvL T w v dd g (T 0) else g
theorem drvL_le {T : Nat → Nat} {w v dd : Nat} {g : Nat → Nat} (h : ∀ j, g j ≤ 1000) (k : Nat) : ∀ j, drvL T w v dd g k j ≤ 1000 := by
  induction k with
  | zero => exact h
  | succ k ih =>
    intro j
    show (if _ then _ else _ : Nat → Nat) j ≤ 1000
    split
    · show (if j = k then _ else _ : Nat) ≤ 1000
      split
      · have := ih k; omega
      · exact ih j
    · exact ih j
theorem drv_le {T : Nat → Nat} {w v dd : Nat} {g : Nat → Nat} (h : ∀ j, g j ≤ 1000) : ∀ j, drv T w v dd g j ≤ 1000 := by
  intro j; unfold drv; split
  · exact drvL_le h _ j
  · exact h j
def rndL (T : Nat → Nat) (w v : Nat) (g : Nat → Nat) : Nat → Nat → Nat
  | 0 => g
  | k + 1 => drv T w v k (rndL T w v g k)
theorem rndL_le {T : Nat → Nat} {w v : Nat} {g : Nat → Nat} (h : ∀ j, g j ≤ 1000) (k : Nat) : ∀ j, rndL T w v g k j ≤ 1000 := by
  induction k with
  | zero => exact h
  | succ k ih => exact drv_le ih
def rnds (T : Nat → Nat) (w v : Nat) (g : Nat → Nat) : Nat → Nat → Nat
  | 0 => g
  | r + 1 => rndL T w v (rnds T w v g r) (T 0)
theorem rnds_le {T : Nat → Nat} {w v : Nat} {g : Nat → Nat} (h : ∀ j, g j ≤ 1000) (k : Nat) : ∀ j, rnds T w v g k j ≤ 1000 := by
  induction k with
  | zero => exact h
  | succ k ih => exact rndL_le ih _
def fr47 (M M' : HM) : Prop := ∀ z, z ≠ 47 → M' z = M z
def r47 (M : HM) (g : Nat → Nat) : Prop := ∀ j, j < 4 → M 47 j = nI (g j)
theorem r47_st {M : HM} {g : Nat → Nat} (h : r47 M g) (k v : Nat) : r47 (st2 M 47 k (nI v)) (upN g k v) := by
  intro j hj
  unfold upN
  rw [st2_row]
  by_cases e : j = k
  · rw [if_pos e, if_pos e]
  · rw [if_neg e, if_neg e]; exact h j hj
theorem fr47_st {M M' : HM} (h : fr47 M M') (k : Nat) (v : Int32) : fr47 M (st2 M' 47 k v) := fun z hz => by rw [st2_ne _ _ _ hz]; exact h z hz
def crt0 (T : Nat → Nat) (w v fr : Nat) : Nat → Nat := upN (fun _ => 1000) fr (wcN T w v fr)
theorem crt0_le (T : Nat → Nat) (w v fr : Nat) : ∀ j, crt0 T w v fr j ≤ 1000 := by
  intro j; unfold crt0 upN; split
  · have := wcN_le T w v fr; omega
  · exact Nat.le_refl _
def crtG (T : Nat → Nat) (w v fr : Nat) : Nat → Nat := rnds T w v (crt0 T w v fr) (T 0 - 1)
abbrev in9 (v : Int32) : Prop := 1 ≤ v.toInt ∧ v.toInt ≤ 9
theorem in9_lt {a : Int32} (h : a < 1) : ¬ in9 a := by
  rw [Int32.lt_iff_toInt_lt] at h
  have : (1 : Int32).toInt = 1 := by decide
  unfold in9; omega
theorem in9_gt {a : Int32} (h : 9 < a) : ¬ in9 a := by
  rw [Int32.lt_iff_toInt_lt] at h
  have : (9 : Int32).toInt = 9 := by decide
  unfold in9; omega
theorem in9_of {a : Int32} (h1 : ¬ a < 1) (h2 : ¬ 9 < a) : in9 a := by
  rw [Int32.lt_iff_toInt_lt] at h1 h2
  have e1 : (1 : Int32).toInt = 1 := by decide
  have e9 : (9 : Int32).toInt = 9 := by decide
  unfold in9; omega
def vCart (T : Nat → Nat) (fr to v wh : Int32) : Prop := inn fr (T 0) ∧ inn to (T 0) ∧ in9 v ∧ inn wh 2
def fCart (g wh : Nat) : Int32 := if g < 1000 then (if wh = 0 then nI (g / 8) else nI (g % 8)) else -9
set_option maxHeartbeats 2000000 in
set_option maxRecDepth 20000 in
theorem cX3wakingCost {t b : Nat} {T S : Nat → Nat} (xb : XB M Rf n t T S b) {w k v : Nat} (hk : k < 1000) (hv : v < 1000) : Ret Λ (d + 1) mX3_wakingCost [.ref 0, .int (nI w), .int (nI k), .int (nI v)] (n, M, Rf, Lg) (some (.int (nI (wcN T w v k)))) (n, M, Rf, Lg) 0 0 := by
  refine Ret.of rfl rfl rfl (fun κ o f hin => ?_)
  obtain ⟨hx, hc, hn, ht, hm, hr, hs, os, hb9⟩ := id xb
  have rc := hx.city hc
  obtain ⟨x0, x1, x3, x4, x5, x8, x9, x10, x11, x13, x14, x15, xN, xC4, xC16, xP, xI, xT, xL, xNm⟩ := id hx
  obtain ⟨r3, r4, r6, r7, r8, r9, r11, r12, r13, r14, r15⟩ := id rc
  obtain ⟨z0, z1, z2, z3, z4, z5, z6, z7, z8, z9, z10, z11⟩ := city_shp hc
  obtain ⟨⟨t0, t0b⟩, t1, t2, t3, tD, tC, tN⟩ := id ht
  obtain ⟨m0, m1, m5, m10, mb, mj, mc, mn, ml⟩ := id hm
  have ra := xN 28 in28
  have rt := xN 32 in32
  obtain ⟨u3, u4, u5⟩ := id ra
  obtain ⟨v3, v4, v5⟩ := id rt
  obtain ⟨s0, s1, s2, sc⟩ := id hs
  obtain ⟨os0, os1, os2, osc⟩ := id os
  refine g_iload_n (pc := 0) o 1 dX3_wakingCost_0 rfl rfl ?_
  refine g_aload_n (pc := 1) o 0 dX3_wakingCost_1 rfl rfl ?_
  refine g_getR (pc := 2) o flRX3_19 (by first | assumption | rfl) (by first | assumption | omega) (by assumption) dX3_wakingCost_2 ?_
  refine g_iload_n (pc := 5) o 2 dX3_wakingCost_5 rfl rfl ?_
  refine g_iload_n (pc := 6) o 3 dX3_wakingCost_6 rfl rfl ?_
  refine g_V2i (pc := 7) o lkRX3_237 cmX0_wokenBy (cX0wokenBy hc hn rc ht hm (dd := k) (vv := v) (by omega) (by omega)) (by first | assumption | rfl) (by first | assumption | omega) rfl rfl ⟨Nat.le_refl _, Nat.le_refl _⟩ dX3_wakingCost_7 ?_
  refine g_iand (pc := 10) o dX3_wakingCost_10 ?_
  rw [n_and]
  refine g_S1i (pc := 11) o lkRX3_179 cmJ6_bitCount_0f7a4 (cbc (Nat.lt_trans (and6 (wkB6 t2 _ _)) (by decide))) rfl rfl ⟨Nat.le_refl _, Nat.le_refl _⟩ dX3_wakingCost_11 ?_
  refine g_bipush (pc := 14) (v := 8) o dX3_wakingCost_14 (by decide) ?_
  refine g_imul (pc := 16) o dX3_wakingCost_16 ?_
  exact g_iret (pc := 17) o f dX3_wakingCost_17 rfl (pk_mul _ 8) rfl

set_option maxHeartbeats 2000000 in
set_option maxRecDepth 20000 in
theorem cX3driveOn {t b : Nat} {T S : Nat → Nat} (xb : XB M Rf n t T S b) {w dd v : Nat} {g : Nat → Nat} (hd : dd < T 0) (hv : v < 1000) (hg0 : r47 M g) (hle : ∀ j, g j ≤ 1000) : RetE Λ (d + 2) mX3_driveOn [.ref 0, .int (nI w), .int (nI dd), .int (nI v)] (n, M, Rf, Lg) (pV n Rf Lg (fun M' => r47 M' (drv T w v dd g) ∧ fr47 M M')) 0 0 := by
  refine RetE.of rfl rfl rfl (fun κ o f hin => ?_)
  obtain ⟨hx, hc, hn, ht, hm, hr, hs, os, hb9⟩ := id xb
  have rc := hx.city hc
  obtain ⟨x0, x1, x3, x4, x5, x8, x9, x10, x11, x13, x14, x15, xN, xC4, xC16, xP, xI, xT, xL, xNm⟩ := id hx
  obtain ⟨r3, r4, r6, r7, r8, r9, r11, r12, r13, r14, r15⟩ := id rc
  obtain ⟨z0, z1, z2, z3, z4, z5, z6, z7, z8, z9, z10, z11⟩ := city_shp hc
  obtain ⟨⟨t0, t0b⟩, t1, t2, t3, tD, tC, tN⟩ := id ht
  obtain ⟨m0, m1, m5, m10, mb, mj, mc, mn, ml⟩ := id hm
  have ra := xN 28 in28
  have rt := xN 32 in32
  obtain ⟨u3, u4, u5⟩ := id ra
  obtain ⟨v3, v4, v5⟩ := id rt
  obtain ⟨s0, s1, s2, sc⟩ := id hs
  obtain ⟨os0, os1, os2, osc⟩ := id os
  refine g_aload_n (pc := 0) o 0 dX3_driveOn_0 rfl rfl ?_
  refine g_getR (pc := 1) o flRX3_62 (by first | assumption | rfl) (by first | assumption | omega) (by assumption) dX3_driveOn_1 ?_
  refine g_iload_n (pc := 4) o 2 dX3_driveOn_4 rfl rfl ?_
  refine g_iald (pc := 5) o (dd) (by first | assumption | rfl) (by first | assumption | omega) rfl (by omega) dX3_driveOn_5 ?_
  refine g_sipush (pc := 6) (v := 1000) o dX3_driveOn_6 (by decide) ?_
  refine g_icmp_lt (pc := 9) o 13 dX3_driveOn_9 (by decide) (fun q9 => ?_) (fun q9 => ?_)
  · have g0 : g dd < 1000 := (lt_N (b := 1000) (by have := hle dd; omega) (by decide) (hg0 dd (by omega)) rfl).mp q9
    have ed : drv T w v dd g = drvL T w v dd g (T 0) := if_pos g0
    rw [ed] at f
    have loop : ∀ (k c : Nat) (M1 : HM), r47 M1 (drvL T w v dd g c) → fr47 M M1 → c ≤ T 0 → T 0 < c + k → G (Λ, κ) 16 [some (.ref 0), some (.int (nI w)), some (.int (nI dd)), some (.int (nI v)), some (.int (nI c))] [] (n, M1, Rf, Lg) 0 0 := by
      intro k
      induction k with
      | zero => intro c M1 hr1 hf h1 h2; exact absurd h2 (by omega)
      | succ k ih =>
        intro c M1 hr1 hf h1 h2
        have xb2 := xb.kept (M' := M1) (fun z h3 h4 => hf z (by omega))
        have m0x : M1 t 0 = nI (T 0) := by rw [hf t (by omega)]; exact m0
        have hg := drvL_le (T := T) (w := w) (v := v) (dd := dd) hle c
        refine g_iload (pc := 16) o dX3_driveOn_16 rfl ?_
        refine g_aload_n (pc := 18) o 0 dX3_driveOn_18 rfl rfl ?_
        refine g_getR (pc := 19) o flRX3_19 (by first | assumption | rfl) (by first | assumption | omega) (by assumption) dX3_driveOn_19 ?_
        refine g_getI (pc := 22) o flRX3_149 (by first | assumption | rfl) (by first | assumption | omega) dX3_driveOn_22 ?_
        refine g_icmp_ge (pc := 25) o 85 dX3_driveOn_25 (by decide) (fun q25 => ?_) (fun q25 => ?_)
        · have ec : c = T 0 := by have := (le_N (a := T 0) (b := c) (by omega) (by omega) m0x rfl).mp q25; omega
          exact e_vret (pc := 85) o f dX3_driveOn_85 (pV.of ⟨by rw [← ec]; exact hr1, hf⟩)
        · have hc1 : c < T 0 := by have := mt (le_N (a := T 0) (b := c) (by omega) (by omega) m0x rfl).mpr q25; omega
          refine g_aload_n (pc := 28) o 0 dX3_driveOn_28 rfl rfl ?_
          refine g_getR (pc := 29) o flRX3_19 (by first | assumption | rfl) (by first | assumption | omega) (by assumption) dX3_driveOn_29 ?_
          refine g_getR (pc := 32) o flRX3_94 (by first | assumption | rfl) (by first | assumption | omega) (by assumption) dX3_driveOn_32 ?_
          refine g_iload_n (pc := 35) o 2 dX3_driveOn_35 rfl rfl ?_
          refine g_iald (pc := 36) o (dd) (by first | assumption | rfl) (by first | assumption | omega) rfl (by omega) dX3_driveOn_36 ?_
          rw [hf (t + 2) (by omega), mj dd (by omega)]
          refine g_iload (pc := 37) o dX3_driveOn_37 rfl ?_
          refine g_S2i (pc := 39) o lkRX3_223 cmX3_has (cX3has (by have := (tD dd (by omega)).1; omega) (by omega)) rfl rfl ⟨Nat.le_refl _, Nat.le_refl _⟩ dX3_driveOn_39 ?_
          refine g_if_eq (pc := 42) o 79 dX3_driveOn_42 (by decide) (fun q42 => ?_) (fun q42 => ?_)
          · have e1 : drvL T w v dd g (c + 1) = (drvL T w v dd g c) := if_neg (bi_z.mp q42)
            refine g_incN (pc := 79) o (c) dX3_driveOn_79 rfl rfl ?_
            refine g_goto (pc := 82) o 16 dX3_driveOn_82 (by decide) ?_
            first | (rw [← e1] at *; exact ih (c + 1) _ hr1 hf (by omega) (by omega)) | exact ih (c + 1) _ (by rw [e1]; exact hr1) hf (by omega) (by omega) | exact ih (c + 1) _ (by rw [e1]; exact r47_st hr1 c _) (fr47_st hf c _) (by omega) (by omega)
          · have e1 : drvL T w v dd g (c + 1) = upN (drvL T w v dd g c) c (min ((drvL T w v dd g c) c) ((drvL T w v dd g c) dd + 1 + wcN T w v c)) := if_pos (bi_nz.mp q42)
            refine g_aload_n (pc := 45) o 0 dX3_driveOn_45 rfl rfl ?_
            refine g_getR (pc := 46) o flRX3_62 (by first | assumption | rfl) (by first | assumption | omega) (by assumption) dX3_driveOn_46 ?_
            refine g_iload (pc := 49) o dX3_driveOn_49 rfl ?_
            refine g_aload_n (pc := 51) o 0 dX3_driveOn_51 rfl rfl ?_
            refine g_getR (pc := 52) o flRX3_62 (by first | assumption | rfl) (by first | assumption | omega) (by assumption) dX3_driveOn_52 ?_
            refine g_iload (pc := 55) o dX3_driveOn_55 rfl ?_
            refine g_iald (pc := 57) o (c) (by first | assumption | rfl) (by first | assumption | omega) rfl (by omega) dX3_driveOn_57 ?_
            rw [hr1 c (by omega)]
            refine g_aload_n (pc := 58) o 0 dX3_driveOn_58 rfl rfl ?_
            refine g_getR (pc := 59) o flRX3_62 (by first | assumption | rfl) (by first | assumption | omega) (by assumption) dX3_driveOn_59 ?_
            refine g_iload_n (pc := 62) o 2 dX3_driveOn_62 rfl rfl ?_
            refine g_iald (pc := 63) o (dd) (by first | assumption | rfl) (by first | assumption | omega) rfl (by omega) dX3_driveOn_63 ?_
            rw [hr1 dd (by omega)]
            refine g_iconst (pc := 64) (v := 1) o dX3_driveOn_64 (by decide) ?_
            refine g_iadd (pc := 65) o dX3_driveOn_65 ?_
            rw [nI_1]
            refine g_aload_n (pc := 66) o 0 dX3_driveOn_66 rfl rfl ?_
            refine g_iload_n (pc := 67) o 1 dX3_driveOn_67 rfl rfl ?_
            refine g_iload (pc := 68) o dX3_driveOn_68 rfl ?_
            refine g_iload_n (pc := 70) o 3 dX3_driveOn_70 rfl rfl ?_
            refine g_V3i (pc := 71) o lkRX3_229 cmX3_wakingCost (cX3wakingCost xb2 (k := c) (v := v) (by omega) (by omega)) (by first | assumption | rfl) (by first | assumption | omega) rfl rfl ⟨Nat.le_refl _, Nat.le_refl _⟩ dX3_driveOn_71 ?_
            refine g_iadd (pc := 74) o dX3_driveOn_74 ?_
            rw [nI_add]
            have g1 := hg c
            have g2 := hg dd
            have g3 := wcN_le T w v c
            refine g_min (pc := 75) o lkRX3_166 rfl rfl ⟨Nat.le_refl _, Nat.le_refl _⟩ dX3_driveOn_75 ?_ st_min ini_math co_min
            rw [n_min (by omega) (by omega)]
            refine g_iast (pc := 78) o (c) (by first | assumption | rfl) (by first | assumption | omega) rfl (by omega) dX3_driveOn_78 ?_
            refine g_incN (pc := 79) o (c) dX3_driveOn_79 rfl rfl ?_
            refine g_goto (pc := 82) o 16 dX3_driveOn_82 (by decide) ?_
            first | (rw [← e1] at *; exact ih (c + 1) _ hr1 hf (by omega) (by omega)) | exact ih (c + 1) _ (by rw [e1]; exact hr1) hf (by omega) (by omega) | exact ih (c + 1) _ (by rw [e1]; exact r47_st hr1 c _) (fr47_st hf c _) (by omega) (by omega)
    refine g_iconst (pc := 13) (v := 0) o dX3_driveOn_13 (by decide) ?_
    refine g_istore (pc := 14) o dX3_driveOn_14 rfl ?_
    exact loop (T 0 + 1) 0 _ hg0 (fun _ _ => rfl) (by omega) (by omega)
  · have g0 : ¬ g dd < 1000 := mt (lt_N (b := 1000) (by have := hle dd; omega) (by decide) (hg0 dd (by omega)) rfl).mpr q9
    have ed : drv T w v dd g = g := if_neg g0
    exact e_vret (pc := 12) o f dX3_driveOn_12 (pV.of ⟨by rw [ed]; exact hg0, fun _ _ => rfl⟩)

noncomputable def aCart (T S : Nat → Nat) (a1 a2 a3 wh : Int32) : Int32 := @ite _ (vCart T a1 a2 a3 wh) (Classical.propDecidable _) (fCart (crtG T (wA T S (-1)) a3.toNatClampNeg a1.toNatClampNeg a2.toNatClampNeg) (if wh = 0 then 0 else 1)) (-1)
set_option maxHeartbeats 2000000 in
set_option maxRecDepth 20000 in
theorem cX3cart {t b : Nat} {T S : Nat → Nat} (xb : XB M Rf n t T S b) {a1 a2 a3 wh : Int32} : RetE Λ (d + 4) mX3_cart [.ref 0, .int a1, .int a2, .int a3, .int wh] (n, M, Rf, Lg) (pI n Rf Lg (fun r M' => r = aCart T S a1 a2 a3 wh ∧ fr47 M M')) 0 0 := by
  refine RetE.of rfl rfl rfl (fun κ o f hin => ?_)
  obtain ⟨hx, hc, hn, ht, hm, hr, hs, os, hb9⟩ := id xb
  have rc := hx.city hc
  obtain ⟨x0, x1, x3, x4, x5, x8, x9, x10, x11, x13, x14, x15, xN, xC4, xC16, xP, xI, xT, xL, xNm⟩ := id hx
  obtain ⟨r3, r4, r6, r7, r8, r9, r11, r12, r13, r14, r15⟩ := id rc
  obtain ⟨z0, z1, z2, z3, z4, z5, z6, z7, z8, z9, z10, z11⟩ := city_shp hc
  obtain ⟨⟨t0, t0b⟩, t1, t2, t3, tD, tC, tN⟩ := id ht
  obtain ⟨m0, m1, m5, m10, mb, mj, mc, mn, ml⟩ := id hm
  have ra := xN 28 in28
  have rt := xN 32 in32
  obtain ⟨u3, u4, u5⟩ := id ra
  obtain ⟨v3, v4, v5⟩ := id rt
  obtain ⟨s0, s1, s2, sc⟩ := id hs
  obtain ⟨os0, os1, os2, osc⟩ := id os
  refine g_aload_n (pc := 0) o 0 dX3_cart_0 rfl rfl ?_
  refine g_iload_n (pc := 1) o 1 dX3_cart_1 rfl rfl ?_
  refine g_V1i (pc := 2) o lkRX3_87 cmX3_isDistrict (cX3isDistrict xb) (by first | assumption | rfl) (by first | assumption | omega) rfl rfl ⟨Nat.le_refl _, Nat.le_refl _⟩ dX3_cart_2 ?_
  refine g_if_eq (pc := 5) o 38 dX3_cart_5 (by decide) (fun q5 => ?_) (fun q5 => ?_)
  · have hv : ¬ vCart T a1 a2 a3 wh := fun q => bi_z.mp q5 q.1
    refine g_iconst (pc := 38) (v := -1) o dX3_cart_38 (by decide) ?_
    exact e_iret (pc := 39) o f dX3_cart_39 rfl (pI.of ⟨by unfold aCart; rw [if_neg hv], fun _ _ => rfl⟩)
  · have hv1 := bi_nz.mp q5
    refine g_aload_n (pc := 8) o 0 dX3_cart_8 rfl rfl ?_
    refine g_iload_n (pc := 9) o 2 dX3_cart_9 rfl rfl ?_
    refine g_V1i (pc := 10) o lkRX3_87 cmX3_isDistrict (cX3isDistrict xb) (by first | assumption | rfl) (by first | assumption | omega) rfl rfl ⟨Nat.le_refl _, Nat.le_refl _⟩ dX3_cart_10 ?_
    refine g_if_eq (pc := 13) o 38 dX3_cart_13 (by decide) (fun q13 => ?_) (fun q13 => ?_)
    · have hv : ¬ vCart T a1 a2 a3 wh := fun q => bi_z.mp q13 q.2.1
      refine g_iconst (pc := 38) (v := -1) o dX3_cart_38 (by decide) ?_
      exact e_iret (pc := 39) o f dX3_cart_39 rfl (pI.of ⟨by unfold aCart; rw [if_neg hv], fun _ _ => rfl⟩)
    · have hv2 := bi_nz.mp q13
      refine g_iload_n (pc := 16) o 3 dX3_cart_16 rfl rfl ?_
      refine g_iconst (pc := 17) (v := 1) o dX3_cart_17 (by decide) ?_
      refine g_icmp_lt (pc := 18) o 38 dX3_cart_18 (by decide) (fun q18 => ?_) (fun q18 => ?_)
      · have hv : ¬ vCart T a1 a2 a3 wh := fun q => in9_lt q18 q.2.2.1
        refine g_iconst (pc := 38) (v := -1) o dX3_cart_38 (by decide) ?_
        exact e_iret (pc := 39) o f dX3_cart_39 rfl (pI.of ⟨by unfold aCart; rw [if_neg hv], fun _ _ => rfl⟩)
      · refine g_iload_n (pc := 21) o 3 dX3_cart_21 rfl rfl ?_
        refine g_bipush (pc := 22) (v := 9) o dX3_cart_22 (by decide) ?_
        refine g_icmp_gt (pc := 24) o 38 dX3_cart_24 (by decide) (fun q24 => ?_) (fun q24 => ?_)
        · have hv : ¬ vCart T a1 a2 a3 wh := fun q => in9_gt q24 q.2.2.1
          refine g_iconst (pc := 38) (v := -1) o dX3_cart_38 (by decide) ?_
          exact e_iret (pc := 39) o f dX3_cart_39 rfl (pI.of ⟨by unfold aCart; rw [if_neg hv], fun _ _ => rfl⟩)
        · have hv3 : in9 a3 := in9_of q18 q24
          refine g_iload (pc := 27) o dX3_cart_27 rfl ?_
          refine g_if_lt (pc := 29) o 38 dX3_cart_29 (by decide) (fun q29 => ?_) (fun q29 => ?_)
          · have hv : ¬ vCart T a1 a2 a3 wh := fun q => inn_lt0 q29 q.2.2.2
            refine g_iconst (pc := 38) (v := -1) o dX3_cart_38 (by decide) ?_
            exact e_iret (pc := 39) o f dX3_cart_39 rfl (pI.of ⟨by unfold aCart; rw [if_neg hv], fun _ _ => rfl⟩)
          · refine g_iload (pc := 32) o dX3_cart_32 rfl ?_
            refine g_iconst (pc := 34) (v := 1) o dX3_cart_34 (by decide) ?_
            refine g_icmp_le (pc := 35) o 40 dX3_cart_35 (by decide) (fun q35 => ?_) (fun q35 => ?_)
            · have hv : vCart T a1 a2 a3 wh := ⟨hv1, hv2, hv3, inn_le (N := 1) (by decide) rfl q29 q35⟩
              obtain ⟨fr, hfr, rfl⟩ := inn_of hv1 (by omega)
              obtain ⟨to, hto, rfl⟩ := inn_of hv2 (by omega)
              obtain ⟨v, hv10, rfl⟩ : ∃ v, v < 10 ∧ a3 = nI v := inn_of ⟨by have := hv3.1; omega, by have := hv3.2; omega⟩ (by decide)
              have ea : aCart T S (nI fr) (nI to) (nI v) wh = fCart (crtG T (wA T S (-1)) v fr to) (if wh = 0 then 0 else 1) := by unfold aCart; rw [if_pos hv, nI_clamp (by omega), nI_clamp (by omega), nI_clamp (by omega)]
              have outer : ∀ (k r : Nat) (dm : Option Value) (M1 : HM), r47 M1 (rnds T (wA T S (-1)) v (crt0 T (wA T S (-1)) v fr) r) → fr47 M M1 → r + 1 ≤ T 0 → T 0 < r + 1 + k → G (Λ, κ) 96 [some (.ref 0), some (.int (nI fr)), some (.int (nI to)), some (.int (nI v)), some (.int wh), some (.int (nI (wA T S (-1)))), some (.int (nI (r + 1))), dm] [] (n, M1, Rf, Lg) 0 0 := by
                intro k
                induction k with
                | zero => intro r dm M1 hr1 hf h1 h2; exact absurd h2 (by omega)
                | succ k ih =>
                  intro r dm M1 hr1 hf h1 h2
                  have m0x : M1 t 0 = nI (T 0) := by rw [hf t (by omega)]; exact m0
                  refine g_iload (pc := 96) o dX3_cart_96 rfl ?_
                  refine g_aload_n (pc := 98) o 0 dX3_cart_98 rfl rfl ?_
                  refine g_getR (pc := 99) o flRX3_19 (by first | assumption | rfl) (by first | assumption | omega) (by assumption) dX3_cart_99 ?_
                  refine g_getI (pc := 102) o flRX3_149 (by first | assumption | rfl) (by first | assumption | omega) dX3_cart_102 ?_
                  refine g_icmp_ge (pc := 105) o 144 dX3_cart_105 (by decide) (fun q105 => ?_) (fun q105 => ?_)
                  · have er : r = T 0 - 1 := by have := (le_N (by omega) (by omega) m0x rfl).mp q105; omega
                    have hg := rnds_le (T := T) (w := wA T S (-1)) (v := v) (crt0_le T (wA T S (-1)) v fr) r
                    rw [er] at hr1 hg
                    have hr1 : r47 M1 (crtG T (wA T S (-1)) v fr) := hr1
                    have g8 := hg to
                    have g8 : crtG T (wA T S (-1)) v fr to ≤ 1000 := g8
                    refine g_aload_n (pc := 144) o 0 dX3_cart_144 rfl rfl ?_
                    refine g_getR (pc := 145) o flRX3_62 (by first | assumption | rfl) (by first | assumption | omega) (by assumption) dX3_cart_145 ?_
                    refine g_iload_n (pc := 148) o 2 dX3_cart_148 rfl rfl ?_
                    refine g_iald (pc := 149) o (to) (by first | assumption | rfl) (by first | assumption | omega) rfl (by omega) dX3_cart_149 ?_
                    refine g_sipush (pc := 150) (v := 1000) o dX3_cart_150 (by decide) ?_
                    refine g_icmp_lt (pc := 153) o 159 dX3_cart_153 (by decide) (fun q153 => ?_) (fun q153 => ?_)
                    · have g9 : crtG T (wA T S (-1)) v fr to < 1000 := (lt_N (b := 1000) (by omega) (by decide) (hr1 to (by omega)) rfl).mp q153
                      refine g_iload (pc := 159) o dX3_cart_159 rfl ?_
                      refine g_if_ne (pc := 161) o 176 dX3_cart_161 (by decide) (fun q161 => ?_) (fun q161 => ?_)
                      · refine g_aload_n (pc := 176) o 0 dX3_cart_176 rfl rfl ?_
                        refine g_getR (pc := 177) o flRX3_62 (by first | assumption | rfl) (by first | assumption | omega) (by assumption) dX3_cart_177 ?_
                        refine g_iload_n (pc := 180) o 2 dX3_cart_180 rfl rfl ?_
                        refine g_iald (pc := 181) o (to) (by first | assumption | rfl) (by first | assumption | omega) rfl (by omega) dX3_cart_181 ?_
                        refine g_bipush (pc := 182) (v := 8) o dX3_cart_182 (by decide) ?_
                        refine g_irem (pc := 184) o dX3_cart_184 (by decide) ?_
                        exact e_iret (pc := 185) o f dX3_cart_185 rfl (pI.of ⟨by rw [ea, hr1 to (by omega)]; unfold fCart; rw [if_pos g9]; first | (rw [if_pos q161, if_pos rfl]; exact pk_div (d := 8) (by omega) (by decide) (by decide)) | (rw [if_neg q161, if_neg (by decide)]; exact pk_rem (d := 8) (by omega) (by decide) (by decide)), hf⟩)
                      · refine g_aload_n (pc := 164) o 0 dX3_cart_164 rfl rfl ?_
                        refine g_getR (pc := 165) o flRX3_62 (by first | assumption | rfl) (by first | assumption | omega) (by assumption) dX3_cart_165 ?_
                        refine g_iload_n (pc := 168) o 2 dX3_cart_168 rfl rfl ?_
                        refine g_iald (pc := 169) o (to) (by first | assumption | rfl) (by first | assumption | omega) rfl (by omega) dX3_cart_169 ?_
                        refine g_bipush (pc := 170) (v := 8) o dX3_cart_170 (by decide) ?_
                        refine g_idiv (pc := 172) o dX3_cart_172 (by decide) ?_
                        refine g_goto (pc := 173) o 185 dX3_cart_173 (by decide) ?_
                        exact e_iret (pc := 185) o f dX3_cart_185 rfl (pI.of ⟨by rw [ea, hr1 to (by omega)]; unfold fCart; rw [if_pos g9]; first | (rw [if_pos q161, if_pos rfl]; exact pk_div (d := 8) (by omega) (by decide) (by decide)) | (rw [if_neg q161, if_neg (by decide)]; exact pk_rem (d := 8) (by omega) (by decide) (by decide)), hf⟩)
                    · have g9 : ¬ crtG T (wA T S (-1)) v fr to < 1000 := mt (lt_N (b := 1000) (by omega) (by decide) (hr1 to (by omega)) rfl).mpr q153
                      refine g_bipush (pc := 156) (v := -9) o dX3_cart_156 (by decide) ?_
                      exact e_iret (pc := 158) o f dX3_cart_158 rfl (pI.of ⟨by rw [ea]; unfold fCart; rw [if_neg g9], hf⟩)
                  · have hr2 : r + 1 < T 0 := by have := mt (le_N (by omega) (by omega) m0x rfl).mpr q105; omega
                    have inner : ∀ (kc c : Nat) (M1 : HM), r47 M1 (rndL T (wA T S (-1)) v (rnds T (wA T S (-1)) v (crt0 T (wA T S (-1)) v fr) r) c) → fr47 M M1 → c ≤ T 0 → T 0 < c + kc → G (Λ, κ) 111 [some (.ref 0), some (.int (nI fr)), some (.int (nI to)), some (.int (nI v)), some (.int wh), some (.int (nI (wA T S (-1)))), some (.int (nI (r + 1))), some (.int (nI c))] [] (n, M1, Rf, Lg) 0 0 := by
                      intro kc
                      induction kc with
                      | zero => intro c M1 hr1 hf h1 h2; exact absurd h2 (by omega)
                      | succ kc ihc =>
                        intro c M1 hr1 hf h1 h2
                        have m0x : M1 t 0 = nI (T 0) := by rw [hf t (by omega)]; exact m0
                        refine g_iload (pc := 111) o dX3_cart_111 rfl ?_
                        refine g_aload_n (pc := 113) o 0 dX3_cart_113 rfl rfl ?_
                        refine g_getR (pc := 114) o flRX3_19 (by first | assumption | rfl) (by first | assumption | omega) (by assumption) dX3_cart_114 ?_
                        refine g_getI (pc := 117) o flRX3_149 (by first | assumption | rfl) (by first | assumption | omega) dX3_cart_117 ?_
                        refine g_icmp_ge (pc := 120) o 138 dX3_cart_120 (by decide) (fun q120 => ?_) (fun q120 => ?_)
                        · have ec : c = T 0 := by have := (le_N (a := T 0) (b := c) (by omega) (by omega) m0x rfl).mp q120; omega
                          refine g_incN (pc := 138) o ((r + 1)) dX3_cart_138 rfl rfl ?_
                          refine g_goto (pc := 141) o 96 dX3_cart_141 (by decide) ?_
                          exact ih (r + 1) _ _ (by rw [ec] at hr1; exact hr1) hf (by omega) (by omega)
                        · have hc1 : c < T 0 := by have := mt (le_N (a := T 0) (b := c) (by omega) (by omega) m0x rfl).mpr q120; omega
                          refine g_aload_n (pc := 123) o 0 dX3_cart_123 rfl rfl ?_
                          refine g_iload (pc := 124) o dX3_cart_124 rfl ?_
                          refine g_iload (pc := 126) o dX3_cart_126 rfl ?_
                          refine g_iload_n (pc := 128) o 3 dX3_cart_128 rfl rfl ?_
                          refine e_V3v (pc := 129) o lkRX3_233 cmX3_driveOn (cX3driveOn (xb.kept (M' := M1) (fun z h3 h4 => hf z (by omega))) (w := wA T S (-1)) (dd := c) (v := v) hc1 (by omega) hr1 (rndL_le (rnds_le (crt0_le _ _ _ _) r) c)) (by first | assumption | rfl) (by first | assumption | omega) rfl rfl ⟨Nat.le_refl _, Nat.le_refl _⟩ dX3_cart_129 (fun M2 hp => ?_)
                          obtain ⟨hr2, hf2⟩ := hp
                          refine g_incN (pc := 132) o (c) dX3_cart_132 rfl rfl ?_
                          refine g_goto (pc := 135) o 111 dX3_cart_135 (by decide) ?_
                          exact ihc (c + 1) _ hr2 (fun z hz => by rw [hf2 z hz]; exact hf z hz) (by omega) (by omega)
                    refine g_iconst (pc := 108) (v := 0) o dX3_cart_108 (by decide) ?_
                    refine g_istore (pc := 109) o dX3_cart_109 rfl ?_
                    exact inner (T 0 + 1) 0 _ hr1 hf (by omega) (by omega)
              have init : ∀ k c : Nat, c ≤ 4 → 4 < c + k → G (Λ, κ) 57 [some (.ref 0), some (.int (nI fr)), some (.int (nI to)), some (.int (nI v)), some (.int wh), some (.int (nI (wA T S (-1)))), some (.int (nI c)), none] [] (n, rowM M 47 c (fun _ => 1000), Rf, Lg) 0 0 := by
                intro k
                induction k with
                | zero => intro c h1 h2; exact absurd h2 (by omega)
                | succ k ih =>
                  intro c h1 h2
                  refine g_iload (pc := 57) o dX3_cart_57 rfl ?_
                  refine g_iconst (pc := 59) (v := 4) o dX3_cart_59 (by decide) ?_
                  refine g_icmp_ge (pc := 60) o 79 dX3_cart_60 (by decide) (fun q60 => ?_) (fun q60 => ?_)
                  · have ec : c = 4 := by have := (le_N (a := 4) (b := c) (by decide) (by omega) rfl rfl).mp q60; omega
                    refine g_aload_n (pc := 79) o 0 dX3_cart_79 rfl rfl ?_
                    refine g_getR (pc := 80) o flRX3_62 (by first | assumption | rfl) (by first | assumption | omega) (by assumption) dX3_cart_80 ?_
                    refine g_iload_n (pc := 83) o 1 dX3_cart_83 rfl rfl ?_
                    refine g_aload_n (pc := 84) o 0 dX3_cart_84 rfl rfl ?_
                    refine g_iload (pc := 85) o dX3_cart_85 rfl ?_
                    refine g_iload_n (pc := 87) o 1 dX3_cart_87 rfl rfl ?_
                    refine g_iload_n (pc := 88) o 3 dX3_cart_88 rfl rfl ?_
                    refine g_V3i (pc := 89) o lkRX3_229 cmX3_wakingCost (cX3wakingCost (xb.kept (M' := rowM M 47 c (fun _ => 1000)) (fun z h3 h4 => by funext j; exact rowM_ne _ _ _ (by omega) j)) (k := fr) (v := v) (by omega) (by omega)) (by first | assumption | rfl) (by first | assumption | omega) rfl rfl ⟨Nat.le_refl _, Nat.le_refl _⟩ dX3_cart_89 ?_
                    refine g_iast (pc := 92) o (fr) (by first | assumption | rfl) (by first | assumption | omega) rfl (by omega) dX3_cart_92 ?_
                    refine g_iconst (pc := 93) (v := 1) o dX3_cart_93 (by decide) ?_
                    refine g_istore (pc := 94) o dX3_cart_94 rfl ?_
                    exact outer (T 0) 0 none _ (r47_st (g := fun _ => 1000) (fun j hj => by rw [ec]; exact rowM_in M 47 _ hj) fr _) (fr47_st (fun z hz => by funext j; exact rowM_ne _ _ _ hz j) _ _) (by omega) (by omega)
                  · have hc1 : c < 4 := by have := mt (le_N (a := 4) (b := c) (by decide) (by omega) rfl rfl).mpr q60; omega
                    refine g_aload_n (pc := 63) o 0 dX3_cart_63 rfl rfl ?_
                    refine g_getR (pc := 64) o flRX3_62 (by first | assumption | rfl) (by first | assumption | omega) (by assumption) dX3_cart_64 ?_
                    refine g_iload (pc := 67) o dX3_cart_67 rfl ?_
                    refine g_sipush (pc := 69) (v := 1000) o dX3_cart_69 (by decide) ?_
                    refine g_iast (pc := 72) o (c) (by first | assumption | rfl) (by first | assumption | omega) rfl (by omega) dX3_cart_72 ?_
                    refine g_incN (pc := 73) o (c) dX3_cart_73 rfl rfl ?_
                    refine g_goto (pc := 76) o 57 dX3_cart_76 (by decide) ?_
                    exact g_eq rfl rfl rfl (hp_M (rowM_s M 47 c _ rfl)) (ih (c + 1) (by omega) (by omega))
              refine g_aload_n (pc := 40) o 0 dX3_cart_40 rfl rfl ?_
              refine g_getR (pc := 41) o flRX3_19 (by first | assumption | rfl) (by first | assumption | omega) (by assumption) dX3_cart_41 ?_
              refine g_aload_n (pc := 44) o 0 dX3_cart_44 rfl rfl ?_
              refine g_getR (pc := 45) o flRX3_29 (by first | assumption | rfl) (by first | assumption | omega) (by assumption) dX3_cart_45 ?_
              refine g_iconst (pc := 48) (v := -1) o dX3_cart_48 (by decide) ?_
              refine g_V2i (pc := 49) o lkRX3_172 cmX0_asleep (cX0asleep hc hn rc ht hm in28 ra hs os hr) (by first | assumption | rfl) (by first | assumption | omega) rfl rfl ⟨Nat.le_refl _, Nat.le_refl _⟩ dX3_cart_49 ?_
              refine g_istore (pc := 52) o dX3_cart_52 rfl ?_
              refine g_iconst (pc := 54) (v := 0) o dX3_cart_54 (by decide) ?_
              refine g_istore (pc := 55) o dX3_cart_55 rfl ?_
              exact g_eq rfl rfl rfl (hp_M (rowM_0 M 47 _).symm) (init 5 0 (by omega) (by omega))
            · have hv : ¬ vCart T a1 a2 a3 wh := fun q => inn_gt (N := 1) (by decide) rfl (Int32.not_le.mp q35) q.2.2.2
              refine g_iconst (pc := 38) (v := -1) o dX3_cart_38 (by decide) ?_
              exact e_iret (pc := 39) o f dX3_cart_39 rfl (pI.of ⟨by unfold aCart; rw [if_neg hv], fun _ _ => rfl⟩)

end M10
