section M27
variable {Λ : PL} {d n : Nat} {M : HM} {Rf : HR} {Lg : HL}

def opM (q : Nat) (o : Option Nat) : Int32 := match o with
  | none => -1
  | some r => nI (r + q)
theorem opM_map (q : Nat) (o : Option Nat) : opM q (o.map (· + 1)) = opM (q + 1) o := by
  cases o with
  | none => rfl
  | some r => show nI (r + 1 + q) = nI (r + (q + 1)); congr 1; omega
theorem far_r {T : Nat → Nat} {so to : Nat} (hs : so < 16) : ∀ f th r, th < 16 → farN T so to f th = some r → r + th < 16 := by
  intro f
  induction f with
  | zero => intro th r _ h; cases h
  | succ f ih =>
    intro th r h1 h
    simp only [farN] at h
    split at h
    · cases h; omega
    · split at h
      · cases h
      · rename_i g
        cases e : farN T so to f (mor T so th) with
        | none => rw [e] at h; cases h
        | some r0 =>
          rw [e] at h; cases h
          have := ih (mor T so th) r0 (moL_lt hs h1 _) e
          have hge : th ≤ mor T so th := mor_ge T so th (T 0)
          show r0 + 1 + th < 16
          omega
set_option maxHeartbeats 2000000 in
set_option maxRecDepth 20000 in
theorem cX4far {b : Nat} {T S : Nat → Nat} (mb : MB M Rf n T S b) {fr to so : Nat} (hfr : fr < T 0) (hto : to < T 0) (hs : so < 16) : Ret Λ (d) mX4_far [.ref 96, .int (nI fr), .int (nI to), .int (nI so)] (n, M, Rf, Lg) (some (.int (opM 0 (farN T so to 17 (2 ^ fr))))) (n, M, Rf, Lg) 0 0 := by
  refine Ret.of rfl rfl rfl (fun κ o f hin => ?_)
  obtain ⟨rm, hn, ht, hT, hS, os, hb9⟩ := id mb
  obtain ⟨y1, y3, y4, y5, y6, y8, y9, y10, y21, y22, y23, y24⟩ := id rm
  obtain ⟨⟨t0, t0b⟩, t1, t2, t3, tD, tC, tN⟩ := id ht
  obtain ⟨os0, os1, os2, osc⟩ := id os
  have f16 : 2 ^ fr < 16 := Nat.pow_lt_pow_right (n := 4) (a := 2) (by decide) (by omega)
  have f1 : 1 ≤ 2 ^ fr := Nat.pow_pos (by decide)
  have outer : ∀ (k th q : Nat) (x6 x7), th < 16 → 16 ≤ th + k → q ≤ th → opM 0 (farN T so to 17 (2 ^ fr)) = opM q (farN T so to k th) → G (Λ, κ) 8 [some (.ref 96), some (.int (nI fr)), some (.int (nI to)), some (.int (nI so)), some (.int (nI th)), some (.int (nI q)), x6, x7] [] (n, M, Rf, Lg) 0 0 := by
    intro k
    induction k with
    | zero => intro th q x6 x7 h1 h2; exact absurd h2 (by omega)
    | succ k ih =>
      intro th q x6 x7 h16 h2 h3 hF
      refine g_iload (pc := 8) o dX4_far_8 rfl ?_
      refine g_iload_n (pc := 10) o 2 dX4_far_10 rfl rfl ?_
      refine g_ishr (pc := 11) o dX4_far_11 ?_
      refine g_iconst (pc := 12) (v := 1) o dX4_far_12 (by decide) ?_
      refine g_iand (pc := 13) o dX4_far_13 ?_
      rw [n_bit (by omega) (by omega)]
      refine g_if_ne (pc := 14) o 92 dX4_far_14 (by decide) (fun q14 => ?_) (fun q14 => ?_)
      · have gt : th.testBit to = true := by have h := mt bn_zero.mpr q14; simpa using h
        refine g_iload (pc := 92) o dX4_far_92 rfl ?_
        exact g_iret (pc := 94) o f dX4_far_94 rfl (by rw [hF]; simp only [farN]; rw [if_pos gt]; show nI q = nI (0 + q); rw [Nat.zero_add]) rfl
      · have gt : ¬ th.testBit to = true := by have h := bn_zero.mp q14; rw [h]; decide
        have inner : ∀ k c : Nat, c ≤ T 0 → T 0 < c + k → G (Λ, κ) 24 [some (.ref 96), some (.int (nI fr)), some (.int (nI to)), some (.int (nI so)), some (.int (nI th)), some (.int (nI q)), some (.int (nI (moL T so th c))), some (.int (nI c))] [] (n, M, Rf, Lg) 0 0 := by
          intro k
          induction k with
          | zero => intro c h1 h2; exact absurd h2 (by omega)
          | succ k ih2 =>
            intro c h1 h2
            refine g_iload (pc := 24) o dX4_far_24 rfl ?_
            refine g_aload_n (pc := 26) o 0 dX4_far_26 rfl rfl ?_
            refine g_getR (pc := 27) o flRX4_13 rfl (by omega) y3 dX4_far_27 ?_
            refine g_iconst (pc := 30) (v := 0) o dX4_far_30 (by decide) ?_
            refine g_iald (pc := 31) o (0) rfl (by omega) rfl (by omega) dX4_far_31 ?_
            refine g_icmp_ge (pc := 32) o 73 dX4_far_32 (by decide) (fun q32 => ?_) (fun q32 => ?_)
            · have ec : c = T 0 := by have := (le_N (a := T 0) (b := c) (by omega) (by omega) (hT 0 (by decide)) rfl).mp q32; omega
              refine g_iload (pc := 73) o dX4_far_73 rfl ?_
              refine g_iload (pc := 75) o dX4_far_75 rfl ?_
              refine g_icmp_ne (pc := 77) o 82 dX4_far_77 (by decide) (fun q77 => ?_) (fun q77 => ?_)
              · have g2 : ¬ mor T so th = th := fun h => q77 (by rw [ec]; exact congrArg nI h)
                refine g_iload (pc := 82) o dX4_far_82 rfl ?_
                refine g_istore (pc := 84) o dX4_far_84 rfl ?_
                refine g_incN (pc := 86) o (q) dX4_far_86 rfl rfl ?_
                refine g_goto (pc := 89) o 8 dX4_far_89 (by decide) ?_
                rw [ec]
                have hge : th ≤ mor T so th := mor_ge T so th (T 0)
                exact ih (mor T so th) (q + 1) _ _ (moL_lt hs h16 _) (by omega) (by omega) (by rw [hF]; simp only [farN]; rw [if_neg gt, if_neg g2]; exact opM_map q _)
              · have g2 : mor T so th = th := by have h := q77; rw [ec] at h; exact (nI_eq (by have := moL_lt (T := T) hs h16 (T 0); show moL T so th (T 0) < _; omega) (by omega)).mp h
                refine g_iconst (pc := 80) (v := -1) o dX4_far_80 (by decide) ?_
                exact g_iret (pc := 81) o f dX4_far_81 rfl (by rw [hF]; simp only [farN]; rw [if_neg gt, if_pos g2]; rfl) rfl
            · have hc1 : c < T 0 := by have := mt (le_N (a := T 0) (b := c) (by omega) (by omega) (hT 0 (by decide)) rfl).mpr q32; omega
              refine g_iload (pc := 35) o dX4_far_35 rfl ?_
              refine g_iload (pc := 37) o dX4_far_37 rfl ?_
              refine g_iload (pc := 39) o dX4_far_39 rfl ?_
              refine g_ishr (pc := 41) o dX4_far_41 ?_
              refine g_iconst (pc := 42) (v := 1) o dX4_far_42 (by decide) ?_
              refine g_iand (pc := 43) o dX4_far_43 ?_
              rw [n_bit (by omega) (by omega)]
              refine g_iconst (pc := 44) (v := 1) o dX4_far_44 (by decide) ?_
              refine g_icmp_ne (pc := 45) o 63 dX4_far_45 (by decide) (fun q45 => ?_) (fun q45 => ?_)
              · have g1 : ¬ th.testBit c = true := mt bn_one.mpr q45
                have e1 : moL T so th (c + 1) = moL T so th c := by show _ ||| _ = _; rw [if_neg g1, Nat.or_zero]
                refine g_iconst (pc := 63) (v := 0) o dX4_far_63 (by decide) ?_
                refine g_ior (pc := 64) o dX4_far_64 ?_
                refine g_istore (pc := 65) o dX4_far_65 rfl ?_
                refine g_incN (pc := 67) o (c) dX4_far_67 rfl rfl ?_
                refine g_goto (pc := 70) o 24 dX4_far_70 (by decide) ?_
                refine g_eq rfl ?_ rfl rfl (ih2 (c + 1) (by omega) (by omega))
                first | (rw [e1, or0]; rfl) | (rw [e1, ← n_or]; rfl)
              · have g1 : th.testBit c = true := bn_one.mp q45
                have e1 : moL T so th (c + 1) = moL T so th c ||| (T (6 + c) &&& so) := by show _ ||| _ = _; rw [if_pos g1]
                refine g_aload_n (pc := 48) o 0 dX4_far_48 rfl rfl ?_
                refine g_getR (pc := 49) o flRX4_13 rfl (by omega) y3 dX4_far_49 ?_
                refine g_bipush (pc := 52) (v := 6) o dX4_far_52 (by decide) ?_
                refine g_iload (pc := 54) o dX4_far_54 rfl ?_
                refine g_iadd (pc := 56) o dX4_far_56 ?_
                refine g_iald (pc := 57) o ((6 + c)) rfl (by omega) (nI_addE rfl rfl) (by omega) dX4_far_57 ?_
                rw [hT (6 + c) (by omega)]
                refine g_iload_n (pc := 58) o 3 dX4_far_58 rfl rfl ?_
                refine g_iand (pc := 59) o dX4_far_59 ?_
                rw [n_and]
                refine g_goto (pc := 60) o 64 dX4_far_60 (by decide) ?_
                refine g_ior (pc := 64) o dX4_far_64 ?_
                refine g_istore (pc := 65) o dX4_far_65 rfl ?_
                refine g_incN (pc := 67) o (c) dX4_far_67 rfl rfl ?_
                refine g_goto (pc := 70) o 24 dX4_far_70 (by decide) ?_
                refine g_eq rfl ?_ rfl rfl (ih2 (c + 1) (by omega) (by omega))
                first | (rw [e1, or0]; rfl) | (rw [e1, ← n_or]; rfl)
        refine g_iload (pc := 17) o dX4_far_17 rfl ?_
        refine g_istore (pc := 19) o dX4_far_19 rfl ?_
        refine g_iconst (pc := 21) (v := 0) o dX4_far_21 (by decide) ?_
        refine g_istore (pc := 22) o dX4_far_22 rfl ?_
        exact inner (T 0 + 1) 0 (by omega) (by omega)
  refine g_iconst (pc := 0) (v := 1) o dX4_far_0 (by decide) ?_
  refine g_iload_n (pc := 1) o 1 dX4_far_1 rfl rfl ?_
  refine g_ishl (pc := 2) o dX4_far_2 ?_
  rw [n_one (by omega)]
  refine g_istore (pc := 3) o dX4_far_3 rfl ?_
  refine g_iconst (pc := 5) (v := 0) o dX4_far_5 (by decide) ?_
  refine g_istore (pc := 6) o dX4_far_6 rfl ?_
  exact outer 17 (2 ^ fr) 0 none none f16 (by omega) (by omega) rfl

theorem in9_I {v : Int32} : (1 ≤ v ∧ v ≤ 9) ↔ in9 v := by
  rw [Int32.le_iff_toInt_le, Int32.le_iff_toInt_le]
  exact Iff.rfl
set_option maxHeartbeats 2000000 in
set_option maxRecDepth 20000 in
theorem cX4cart {b : Nat} {T S : Nat → Nat} (mb : MB M Rf n T S b) {dl : Nat} (mf : MF M 63 (-9) (-9) (-9) dl) {a1 a2 a3 wh : Int32} : Ret Λ (d + 2) mX4_cart [.ref 96, .int a1, .int a2, .int a3, .int wh] (n, M, Rf, Lg) (some (.int (aCart T S a1 a2 a3 wh))) (n, M, Rf, Lg) 0 0 := by
  refine Ret.of rfl rfl rfl (fun κ o f hin => ?_)
  obtain ⟨rm, hn, ht, hT, hS, os, hb9⟩ := id mb
  obtain ⟨y1, y3, y4, y5, y6, y8, y9, y10, y21, y22, y23, y24⟩ := id rm
  obtain ⟨⟨t0, t0b⟩, t1, t2, t3, tD, tC, tN⟩ := id ht
  obtain ⟨os0, os1, os2, osc⟩ := id os
  refine g_aload_n (pc := 0) o 0 dX4_cart_0 rfl rfl ?_
  refine g_iload_n (pc := 1) o 1 dX4_cart_1 rfl rfl ?_
  refine g_V1i (pc := 2) o lkRX4_133 cmX4_isDistrict (cX4isDistrict mb) rfl (by omega) rfl rfl ⟨Nat.le_refl _, Nat.le_refl _⟩ dX4_cart_2 ?_
  refine g_if_eq (pc := 5) o 36 dX4_cart_5 (by decide) (fun q5 => ?_) (fun q5 => ?_)
  · have hv : ¬ vCart T a1 a2 a3 wh := fun q => bi_z.mp q5 q.1
    refine g_iconst (pc := 36) (v := -1) o dX4_cart_36 (by decide) ?_
    exact g_iret (pc := 37) o f dX4_cart_37 rfl (by unfold aCart; rw [if_neg hv]) rfl
  · have hv1 := bi_nz.mp q5
    refine g_aload_n (pc := 8) o 0 dX4_cart_8 rfl rfl ?_
    refine g_iload_n (pc := 9) o 2 dX4_cart_9 rfl rfl ?_
    refine g_V1i (pc := 10) o lkRX4_133 cmX4_isDistrict (cX4isDistrict mb) rfl (by omega) rfl rfl ⟨Nat.le_refl _, Nat.le_refl _⟩ dX4_cart_10 ?_
    refine g_if_eq (pc := 13) o 36 dX4_cart_13 (by decide) (fun q13 => ?_) (fun q13 => ?_)
    · have hv : ¬ vCart T a1 a2 a3 wh := fun q => bi_z.mp q13 q.2.1
      refine g_iconst (pc := 36) (v := -1) o dX4_cart_36 (by decide) ?_
      exact g_iret (pc := 37) o f dX4_cart_37 rfl (by unfold aCart; rw [if_neg hv]) rfl
    · have hv2 := bi_nz.mp q13
      refine g_iload_n (pc := 16) o 3 dX4_cart_16 rfl rfl ?_
      refine g_iconst (pc := 17) (v := 1) o dX4_cart_17 (by decide) ?_
      refine g_bipush (pc := 18) (v := 9) o dX4_cart_18 (by decide) ?_
      refine g_S3i (pc := 20) o lkRX4_67 cmX4_in (cX4in _ 1 9) rfl rfl ⟨Nat.le_refl _, Nat.le_refl _⟩ dX4_cart_20 ?_
      refine g_if_eq (pc := 23) o 36 dX4_cart_23 (by decide) (fun q23 => ?_) (fun q23 => ?_)
      · have hv : ¬ vCart T a1 a2 a3 wh := fun q => bi_z.mp q23 (in9_I.mpr q.2.2.1)
        refine g_iconst (pc := 36) (v := -1) o dX4_cart_36 (by decide) ?_
        exact g_iret (pc := 37) o f dX4_cart_37 rfl (by unfold aCart; rw [if_neg hv]) rfl
      · have hv3 := in9_I.mp (bi_nz.mp q23)
        refine g_iload (pc := 26) o dX4_cart_26 rfl ?_
        refine g_iconst (pc := 28) (v := 0) o dX4_cart_28 (by decide) ?_
        refine g_iconst (pc := 29) (v := 1) o dX4_cart_29 (by decide) ?_
        refine g_S3i (pc := 30) o lkRX4_67 cmX4_in (cX4inN 2 (by decide) rfl) rfl rfl ⟨Nat.le_refl _, Nat.le_refl _⟩ dX4_cart_30 ?_
        refine g_if_ne (pc := 33) o 38 dX4_cart_33 (by decide) (fun q33 => ?_) (fun q33 => ?_)
        · have hv : vCart T a1 a2 a3 wh := ⟨hv1, hv2, hv3, bi_nz.mp q33⟩
          obtain ⟨fr, hfr, rfl⟩ := inn_of hv1 (by omega)
          obtain ⟨to, hto, rfl⟩ := inn_of hv2 (by omega)
          obtain ⟨v, hv10, rfl⟩ : ∃ v, v < 10 ∧ a3 = nI v := inn_of ⟨by have := hv3.1; omega, by have := hv3.2; omega⟩ (by decide)
          have ea : aCart T S (nI fr) (nI to) (nI v) wh = fCart (crtG T (wA T S (-1)) v fr to) (if wh = 0 then 0 else 1) := by unfold aCart; rw [if_pos hv, nI_clamp (by omega), nI_clamp (by omega), nI_clamp (by omega)]
          have p16 : 2 ^ T 0 ≤ 16 := show 2 ^ T 0 ≤ 2 ^ 4 from Nat.pow_le_pow_right (by decide) t0b
          have f1 : 1 ≤ 2 ^ fr := Nat.pow_pos (by decide)
          have f16 : 2 ^ fr < 16 := Nat.pow_lt_pow_right (n := 4) (a := 2) (by decide) (by omega)
          have hw64 := wA6 (S := S) (ab := -1) t2
          have ceq := cart_eq (w := (wA T S (-1))) (v := v) ht hfr hto
          have outer : ∀ (k c : Nat) (x8 x9 x10), c ≤ 2 ^ T 0 → 2 ^ T 0 < c + k → G (Λ, κ) 55 [some (.ref 96), some (.int (nI fr)), some (.int (nI to)), some (.int (nI v)), some (.int wh), some (.int (nI (wA T S (-1)))), some (.int (opI (crM T (wA T S (-1)) v fr to c))), some (.int (nI c)), x8, x9, x10] [] (n, M, Rf, Lg) 0 0 := by
            intro k
            induction k with
            | zero => intro c x8 x9 x10 h1 h2; exact absurd h2 (by omega)
            | succ k ih =>
              intro c x8 x9 x10 h1 h2
              have hcr : ∀ f, crM T (wA T S (-1)) v fr to c = some f → f < 1000 := fun f hf => by
                obtain ⟨c0, r0, a1, _, _, a4, a5⟩ := crM_mem _ _ hf
                have b1 := wkS_le T (wA T S (-1)) v c0
                have b2 := far_r (show c0 < 16 by omega) _ _ _ f16 a4
                omega
              refine g_iload (pc := 55) o dX4_cart_55 rfl ?_
              refine g_iconst (pc := 57) (v := 1) o dX4_cart_57 (by decide) ?_
              refine g_aload_n (pc := 58) o 0 dX4_cart_58 rfl rfl ?_
              refine g_getR (pc := 59) o flRX4_13 rfl (by omega) y3 dX4_cart_59 ?_
              refine g_iconst (pc := 62) (v := 0) o dX4_cart_62 (by decide) ?_
              refine g_iald (pc := 63) o (0) rfl (by omega) rfl (by omega) dX4_cart_63 ?_
              rw [hT 0 (by decide)]
              refine g_ishl (pc := 64) o dX4_cart_64 ?_
              rw [n_one (by omega)]
              refine g_icmp_ge (pc := 65) o 219 dX4_cart_65 (by decide) (fun q65 => ?_) (fun q65 => ?_)
              · have ec : c = 2 ^ T 0 := by have := (le_N (a := 2 ^ T 0) (b := c) (by omega) (by omega) rfl rfl).mp q65; omega
                refine g_iload (pc := 219) o dX4_cart_219 rfl ?_
                refine g_bipush (pc := 221) (v := -9) o dX4_cart_221 (by decide) ?_
                refine g_icmp_ne (pc := 223) o 231 dX4_cart_223 (by decide) (fun q223 => ?_) (fun q223 => ?_)
                · obtain ⟨f0, gn⟩ : ∃ f0, crM T (wA T S (-1)) v fr to c = some f0 := by
                    cases e : crM T (wA T S (-1)) v fr to c with
                    | none => rw [e] at q223; exact absurd rfl q223
                    | some f => exact ⟨f, rfl⟩
                  rw [ec] at gn
                  rw [gn] at ceq
                  have ceq1 := ceq.1
                  have ceq2 := ceq.2
                  rw [show opI (crM T (wA T S (-1)) v fr to c) = nI f0 from by rw [ec, gn]; rfl]
                  refine g_iload (pc := 231) o dX4_cart_231 rfl ?_
                  refine g_if_ne (pc := 233) o 244 dX4_cart_233 (by decide) (fun q233 => ?_) (fun q233 => ?_)
                  · have w0 : ¬ wh = 0 := q233
                    refine g_iload (pc := 244) o dX4_cart_244 rfl ?_
                    refine g_bipush (pc := 246) (v := 8) o dX4_cart_246 (by decide) ?_
                    refine g_irem (pc := 248) o dX4_cart_248 (by decide) ?_
                    exact g_iret (pc := 249) o f dX4_cart_249 rfl (by rw [ea]; unfold fCart; first | (rw [if_neg ceq]) | (rw [← ceq1, if_pos ceq2, if_pos w0, if_pos rfl]; exact pk_div (by omega) (by decide) (by decide)) | (rw [← ceq1, if_pos ceq2, if_neg w0, if_neg (by decide)]; exact pk_rem (by omega) (by decide) (by decide))) rfl
                  · have w0 : wh = 0 := q233
                    refine g_iload (pc := 236) o dX4_cart_236 rfl ?_
                    refine g_bipush (pc := 238) (v := 8) o dX4_cart_238 (by decide) ?_
                    refine g_idiv (pc := 240) o dX4_cart_240 (by decide) ?_
                    refine g_goto (pc := 241) o 249 dX4_cart_241 (by decide) ?_
                    exact g_iret (pc := 249) o f dX4_cart_249 rfl (by rw [ea]; unfold fCart; first | (rw [if_neg ceq]) | (rw [← ceq1, if_pos ceq2, if_pos w0, if_pos rfl]; exact pk_div (by omega) (by decide) (by decide)) | (rw [← ceq1, if_pos ceq2, if_neg w0, if_neg (by decide)]; exact pk_rem (by omega) (by decide) (by decide))) rfl
                · have gn : crM T (wA T S (-1)) v fr to (2 ^ T 0) = none := by
                    cases e : crM T (wA T S (-1)) v fr to (2 ^ T 0) with
                    | none => rfl
                    | some f => have := ceq; rw [e] at this; rw [ec, e] at q223; exact absurd q223 (opI_ne (by omega))
                  rw [gn] at ceq
                  refine g_bipush (pc := 226) (v := -9) o dX4_cart_226 (by decide) ?_
                  refine g_goto (pc := 228) o 249 dX4_cart_228 (by decide) ?_
                  exact g_iret (pc := 249) o f dX4_cart_249 rfl (by rw [ea]; unfold fCart; first | (rw [if_neg ceq]) | (rw [← ceq1, if_pos ceq2, if_pos w0, if_pos rfl]; exact pk_div (by omega) (by decide) (by decide)) | (rw [← ceq1, if_pos ceq2, if_neg w0, if_neg (by decide)]; exact pk_rem (by omega) (by decide) (by decide))) rfl
              · have hc1 : c < 2 ^ T 0 := by have := mt (le_N (a := 2 ^ T 0) (b := c) (by omega) (by omega) rfl rfl).mpr q65; omega
                have hc16 : c < 16 := by omega
                refine g_iload (pc := 68) o dX4_cart_68 rfl ?_
                refine g_iload_n (pc := 70) o 1 dX4_cart_70 rfl rfl ?_
                refine g_ishr (pc := 71) o dX4_cart_71 ?_
                refine g_iconst (pc := 72) (v := 1) o dX4_cart_72 (by decide) ?_
                refine g_iand (pc := 73) o dX4_cart_73 ?_
                rw [n_bit (by omega) (by omega)]
                refine g_iconst (pc := 74) (v := 1) o dX4_cart_74 (by decide) ?_
                refine g_icmp_ne (pc := 75) o 213 dX4_cart_75 (by decide) (fun q75 => ?_) (fun q75 => ?_)
                · have gc1 : ¬ c.testBit fr = true := mt bn_one.mpr q75
                  have e1 : crM T (wA T S (-1)) v fr to (c + 1) = crM T (wA T S (-1)) v fr to c := by simp only [crM]; rw [if_neg (fun h => gc1 h.1)]
                  refine g_incN (pc := 213) o (c) dX4_cart_213 rfl rfl ?_
                  refine g_goto (pc := 216) o 55 dX4_cart_216 (by decide) ?_
                  refine g_eq rfl ?_ rfl rfl (ih (c + 1) x8 x9 x10 (by omega) (by omega))
                  rw [e1]; rfl
                · have gc1 : c.testBit fr = true := bn_one.mp q75
                  refine g_iload (pc := 78) o dX4_cart_78 rfl ?_
                  refine g_iload_n (pc := 80) o 2 dX4_cart_80 rfl rfl ?_
                  refine g_ishr (pc := 81) o dX4_cart_81 ?_
                  refine g_iconst (pc := 82) (v := 1) o dX4_cart_82 (by decide) ?_
                  refine g_iand (pc := 83) o dX4_cart_83 ?_
                  rw [n_bit (by omega) (by omega)]
                  refine g_iconst (pc := 84) (v := 1) o dX4_cart_84 (by decide) ?_
                  refine g_icmp_ne (pc := 85) o 213 dX4_cart_85 (by decide) (fun q85 => ?_) (fun q85 => ?_)
                  · have gc2 : ¬ c.testBit to = true := mt bn_one.mpr q85
                    have e1 : crM T (wA T S (-1)) v fr to (c + 1) = crM T (wA T S (-1)) v fr to c := by simp only [crM]; rw [if_neg (fun h => gc2 h.2)]
                    refine g_incN (pc := 213) o (c) dX4_cart_213 rfl rfl ?_
                    refine g_goto (pc := 216) o 55 dX4_cart_216 (by decide) ?_
                    refine g_eq rfl ?_ rfl rfl (ih (c + 1) x8 x9 x10 (by omega) (by omega))
                    rw [e1]; rfl
                  · have gc2 : c.testBit to = true := bn_one.mp q85
                    have inner : ∀ k i : Nat, i ≤ T 2 → T 2 < i + k → G (Λ, κ) 104 [some (.ref 96), some (.int (nI fr)), some (.int (nI to)), some (.int (nI v)), some (.int wh), some (.int (nI (wA T S (-1)))), some (.int (opI (crM T (wA T S (-1)) v fr to c))), some (.int (nI c)), some (.int (opM 0 (farN T c to 17 (2 ^ fr)))), some (.int (nI (cntN (fun i => (wA T S (-1)).testBit i && (c.testBit (T (14 + i)) && decide (T (32 + i) < v))) i))), some (.int (nI i))] [] (n, M, Rf, Lg) 0 0 := by
                      intro k
                      induction k with
                      | zero => intro i h1 h2; exact absurd h2 (by omega)
                      | succ k ih2 =>
                        intro i h1 h2
                        refine g_iload (pc := 104) o dX4_cart_104 rfl ?_
                        refine g_aload_n (pc := 106) o 0 dX4_cart_106 rfl rfl ?_
                        refine g_getR (pc := 107) o flRX4_13 rfl (by omega) y3 dX4_cart_107 ?_
                        refine g_iconst (pc := 110) (v := 2) o dX4_cart_110 (by decide) ?_
                        refine g_iald (pc := 111) o (2) rfl (by omega) rfl (by omega) dX4_cart_111 ?_
                        refine g_icmp_ge (pc := 112) o 175 dX4_cart_112 (by decide) (fun q112 => ?_) (fun q112 => ?_)
                        · have ei : i = T 2 := by have := (le_N (a := T 2) (b := i) (by omega) (by omega) (hT 2 (by decide)) rfl).mp q112; omega
                          refine g_bipush (pc := 175) (v := 8) o dX4_cart_175 (by decide) ?_
                          refine g_iload (pc := 177) o dX4_cart_177 rfl ?_
                          refine g_imul (pc := 179) o dX4_cart_179 ?_
                          refine g_iload (pc := 180) o dX4_cart_180 rfl ?_
                          refine g_iadd (pc := 182) o dX4_cart_182 ?_
                          refine g_istore (pc := 183) o dX4_cart_183 rfl ?_
                          refine g_iload (pc := 185) o dX4_cart_185 rfl ?_
                          refine g_if_lt (pc := 187) o 209 dX4_cart_187 (by decide) (fun q187 => ?_) (fun q187 => ?_)
                          · have gf : farN T c to 17 (2 ^ fr) = none := by
                              cases e : farN T c to 17 (2 ^ fr) with
                              | none => rfl
                              | some r => rw [e] at q187; have := far_r hc16 _ _ _ f16 e; exact absurd q187 (by show ¬ nI (r + 0) < 0; intro h; have := (lt_N (a := r + 0) (b := 0) (by omega) (by decide) rfl rfl).mp h; omega)
                            have e1 : crM T (wA T S (-1)) v fr to (c + 1) = crM T (wA T S (-1)) v fr to c := by simp only [crM]; rw [if_pos ⟨gc1, gc2⟩, gf]
                            refine g_iload (pc := 209) o dX4_cart_209 rfl ?_
                            refine g_istore (pc := 211) o dX4_cart_211 rfl ?_
                            refine g_incN (pc := 213) o (c) dX4_cart_213 rfl rfl ?_
                            refine g_goto (pc := 216) o 55 dX4_cart_216 (by decide) ?_
                            first | exact g_eq rfl (by rw [e1]; rfl) rfl rfl (ih (c + 1) (some (.int (opM 0 (farN T c to 17 (2 ^ fr))))) (some (.int (nI (cntN (fun i => (wA T S (-1)).testBit i && (c.testBit (T (14 + i)) && decide (T (32 + i) < v))) i)))) (some (.int (8 * nI (cntN (fun i => (wA T S (-1)).testBit i && (c.testBit (T (14 + i)) && decide (T (32 + i) < v))) i) + opM 0 (farN T c to 17 (2 ^ fr))))) (by omega) (by omega)) | exact g_eq rfl (by rw [e1]; rfl) rfl rfl (ih (c + 1) (some (.int (opM 0 (farN T c to 17 (2 ^ fr))))) (some (.int (nI (cntN (fun i => (wA T S (-1)).testBit i && (c.testBit (T (14 + i)) && decide (T (32 + i) < v))) i)))) (some (.int (nI (8 * wkS T (wA T S (-1)) v c + r)))) (by omega) (by omega))
                          · obtain ⟨r, gf⟩ : ∃ r, farN T c to 17 (2 ^ fr) = some r := by
                              cases e : farN T c to 17 (2 ^ fr) with
                              | none => rw [e] at q187; exact absurd (by decide) q187
                              | some r => exact ⟨r, rfl⟩
                            have hr := far_r hc16 _ _ _ f16 gf
                            have hw6 := wkS_le T (wA T S (-1)) v c
                            have ev : (8 : Int32) * nI (cntN (fun i => (wA T S (-1)).testBit i && (c.testBit (T (14 + i)) && decide (T (32 + i) < v))) i) + opM 0 (farN T c to 17 (2 ^ fr)) = nI (8 * wkS T (wA T S (-1)) v c + r) := by rw [ei, gf]; exact nI_addE (nI_mulE rfl rfl) rfl
                            rw [ev]
                            refine g_iload (pc := 190) o dX4_cart_190 rfl ?_
                            refine g_bipush (pc := 192) (v := -9) o dX4_cart_192 (by decide) ?_
                            refine g_icmp_eq (pc := 194) o 204 dX4_cart_194 (by decide) (fun q194 => ?_) (fun q194 => ?_)
                            · have gn : crM T (wA T S (-1)) v fr to c = none := by
                                cases e : crM T (wA T S (-1)) v fr to c with
                                | none => rfl
                                | some f => rw [e] at q194; exact absurd q194 (opI_ne (hcr f e))
                              have e1 : crM T (wA T S (-1)) v fr to (c + 1) = some (8 * wkS T (wA T S (-1)) v c + r) := by simp only [crM]; rw [if_pos ⟨gc1, gc2⟩, gf, gn]
                              refine g_iload (pc := 204) o dX4_cart_204 rfl ?_
                              refine g_goto (pc := 206) o 211 dX4_cart_206 (by decide) ?_
                              refine g_istore (pc := 211) o dX4_cart_211 rfl ?_
                              refine g_incN (pc := 213) o (c) dX4_cart_213 rfl rfl ?_
                              refine g_goto (pc := 216) o 55 dX4_cart_216 (by decide) ?_
                              first | exact g_eq rfl (by rw [e1]; rfl) rfl rfl (ih (c + 1) (some (.int (opM 0 (farN T c to 17 (2 ^ fr))))) (some (.int (nI (cntN (fun i => (wA T S (-1)).testBit i && (c.testBit (T (14 + i)) && decide (T (32 + i) < v))) i)))) (some (.int (8 * nI (cntN (fun i => (wA T S (-1)).testBit i && (c.testBit (T (14 + i)) && decide (T (32 + i) < v))) i) + opM 0 (farN T c to 17 (2 ^ fr))))) (by omega) (by omega)) | exact g_eq rfl (by rw [e1]; rfl) rfl rfl (ih (c + 1) (some (.int (opM 0 (farN T c to 17 (2 ^ fr))))) (some (.int (nI (cntN (fun i => (wA T S (-1)).testBit i && (c.testBit (T (14 + i)) && decide (T (32 + i) < v))) i)))) (some (.int (nI (8 * wkS T (wA T S (-1)) v c + r)))) (by omega) (by omega))
                            · obtain ⟨f0, gn⟩ : ∃ f0, crM T (wA T S (-1)) v fr to c = some f0 := by
                                cases e : crM T (wA T S (-1)) v fr to c with
                                | none => rw [e] at q194; exact absurd rfl q194
                                | some f => exact ⟨f, rfl⟩
                              have hf0 := hcr f0 gn
                              rw [show opI (crM T (wA T S (-1)) v fr to c) = nI f0 from by rw [gn]; rfl]
                              refine g_iload (pc := 197) o dX4_cart_197 rfl ?_
                              refine g_iload (pc := 199) o dX4_cart_199 rfl ?_
                              refine g_icmp_ge (pc := 201) o 209 dX4_cart_201 (by decide) (fun q201 => ?_) (fun q201 => ?_)
                              · have g4 := (le_N (a := f0) (b := 8 * wkS T (wA T S (-1)) v c + r) (by omega) (by omega) rfl rfl).mp q201
                                have e1 : crM T (wA T S (-1)) v fr to (c + 1) = some f0 := by simp only [crM]; rw [if_pos ⟨gc1, gc2⟩, gf, gn]; exact if_neg (by omega)
                                refine g_iload (pc := 209) o dX4_cart_209 rfl ?_
                                refine g_istore (pc := 211) o dX4_cart_211 rfl ?_
                                refine g_incN (pc := 213) o (c) dX4_cart_213 rfl rfl ?_
                                refine g_goto (pc := 216) o 55 dX4_cart_216 (by decide) ?_
                                first | exact g_eq rfl (by rw [e1]; rfl) rfl rfl (ih (c + 1) (some (.int (opM 0 (farN T c to 17 (2 ^ fr))))) (some (.int (nI (cntN (fun i => (wA T S (-1)).testBit i && (c.testBit (T (14 + i)) && decide (T (32 + i) < v))) i)))) (some (.int (8 * nI (cntN (fun i => (wA T S (-1)).testBit i && (c.testBit (T (14 + i)) && decide (T (32 + i) < v))) i) + opM 0 (farN T c to 17 (2 ^ fr))))) (by omega) (by omega)) | exact g_eq rfl (by rw [e1]; rfl) rfl rfl (ih (c + 1) (some (.int (opM 0 (farN T c to 17 (2 ^ fr))))) (some (.int (nI (cntN (fun i => (wA T S (-1)).testBit i && (c.testBit (T (14 + i)) && decide (T (32 + i) < v))) i)))) (some (.int (nI (8 * wkS T (wA T S (-1)) v c + r)))) (by omega) (by omega))
                              · have g4 := mt (le_N (a := f0) (b := 8 * wkS T (wA T S (-1)) v c + r) (by omega) (by omega) rfl rfl).mpr q201
                                have e1 : crM T (wA T S (-1)) v fr to (c + 1) = some (8 * wkS T (wA T S (-1)) v c + r) := by simp only [crM]; rw [if_pos ⟨gc1, gc2⟩, gf, gn]; exact if_pos (by omega)
                                refine g_iload (pc := 204) o dX4_cart_204 rfl ?_
                                refine g_goto (pc := 206) o 211 dX4_cart_206 (by decide) ?_
                                refine g_istore (pc := 211) o dX4_cart_211 rfl ?_
                                refine g_incN (pc := 213) o (c) dX4_cart_213 rfl rfl ?_
                                refine g_goto (pc := 216) o 55 dX4_cart_216 (by decide) ?_
                                first | exact g_eq rfl (by rw [e1]; rfl) rfl rfl (ih (c + 1) (some (.int (opM 0 (farN T c to 17 (2 ^ fr))))) (some (.int (nI (cntN (fun i => (wA T S (-1)).testBit i && (c.testBit (T (14 + i)) && decide (T (32 + i) < v))) i)))) (some (.int (8 * nI (cntN (fun i => (wA T S (-1)).testBit i && (c.testBit (T (14 + i)) && decide (T (32 + i) < v))) i) + opM 0 (farN T c to 17 (2 ^ fr))))) (by omega) (by omega)) | exact g_eq rfl (by rw [e1]; rfl) rfl rfl (ih (c + 1) (some (.int (opM 0 (farN T c to 17 (2 ^ fr))))) (some (.int (nI (cntN (fun i => (wA T S (-1)).testBit i && (c.testBit (T (14 + i)) && decide (T (32 + i) < v))) i)))) (some (.int (nI (8 * wkS T (wA T S (-1)) v c + r)))) (by omega) (by omega))
                        · have hi1 : i < T 2 := by have := mt (le_N (a := T 2) (b := i) (by omega) (by omega) (hT 2 (by decide)) rfl).mpr q112; omega
                          have hx := tC i hi1
                          refine g_iload (pc := 115) o dX4_cart_115 rfl ?_
                          refine g_iload (pc := 117) o dX4_cart_117 rfl ?_
                          refine g_iload (pc := 119) o dX4_cart_119 rfl ?_
                          refine g_ishr (pc := 121) o dX4_cart_121 ?_
                          refine g_iconst (pc := 122) (v := 1) o dX4_cart_122 (by decide) ?_
                          refine g_iand (pc := 123) o dX4_cart_123 ?_
                          rw [n_bit (by omega) (by omega)]
                          refine g_iconst (pc := 124) (v := 1) o dX4_cart_124 (by decide) ?_
                          refine g_icmp_ne (pc := 125) o 165 dX4_cart_125 (by decide) (fun q125 => ?_) (fun q125 => ?_)
                          · have g1 : ¬ (wA T S (-1)).testBit i = true := mt bn_one.mpr q125
                            have e1 : (fun i => (wA T S (-1)).testBit i && (c.testBit (T (14 + i)) && decide (T (32 + i) < v))) i = false := by simp [g1]
                            refine g_iconst (pc := 165) (v := 0) o dX4_cart_165 (by decide) ?_
                            refine g_iadd (pc := 166) o dX4_cart_166 ?_
                            refine g_istore (pc := 167) o dX4_cart_167 rfl ?_
                            refine g_incN (pc := 169) o (i) dX4_cart_169 rfl rfl ?_
                            refine g_goto (pc := 172) o 104 dX4_cart_172 (by decide) ?_
                            refine g_eq rfl ?_ rfl rfl (ih2 (i + 1) (by omega) (by omega))
                            rw [show cntN (fun i => (wA T S (-1)).testBit i && (c.testBit (T (14 + i)) && decide (T (32 + i) < v))) (i + 1) = cntN (fun i => (wA T S (-1)).testBit i && (c.testBit (T (14 + i)) && decide (T (32 + i) < v))) i + bn ((fun i => (wA T S (-1)).testBit i && (c.testBit (T (14 + i)) && decide (T (32 + i) < v))) i) from rfl, e1]
                            first | (rw [show ∀ x, x + bn true = x + 1 from fun _ => rfl, nI_succ (cntN (fun i => (wA T S (-1)).testBit i && (c.testBit (T (14 + i)) && decide (T (32 + i) < v))) i)]; rfl) | (rw [show ∀ x, x + bn false = x from fun _ => rfl, show nI (cntN (fun i => (wA T S (-1)).testBit i && (c.testBit (T (14 + i)) && decide (T (32 + i) < v))) i) + 0 = nI (cntN (fun i => (wA T S (-1)).testBit i && (c.testBit (T (14 + i)) && decide (T (32 + i) < v))) i) from Int32.add_zero _]; rfl)
                          · have g1 : (wA T S (-1)).testBit i = true := bn_one.mp q125
                            refine g_iload (pc := 128) o dX4_cart_128 rfl ?_
                            refine g_aload_n (pc := 130) o 0 dX4_cart_130 rfl rfl ?_
                            refine g_getR (pc := 131) o flRX4_13 rfl (by omega) y3 dX4_cart_131 ?_
                            refine g_bipush (pc := 134) (v := 14) o dX4_cart_134 (by decide) ?_
                            refine g_iload (pc := 136) o dX4_cart_136 rfl ?_
                            refine g_iadd (pc := 138) o dX4_cart_138 ?_
                            refine g_iald (pc := 139) o ((14 + i)) rfl (by omega) (nI_addE rfl rfl) (by omega) dX4_cart_139 ?_
                            rw [hT (14 + i) (by omega)]
                            refine g_ishr (pc := 140) o dX4_cart_140 ?_
                            refine g_iconst (pc := 141) (v := 1) o dX4_cart_141 (by decide) ?_
                            refine g_iand (pc := 142) o dX4_cart_142 ?_
                            rw [n_bit (by omega) (by omega)]
                            refine g_iconst (pc := 143) (v := 1) o dX4_cart_143 (by decide) ?_
                            refine g_icmp_ne (pc := 144) o 165 dX4_cart_144 (by decide) (fun q144 => ?_) (fun q144 => ?_)
                            · have g2 : ¬ c.testBit (T (14 + i)) = true := mt bn_one.mpr q144
                              have e1 : (fun i => (wA T S (-1)).testBit i && (c.testBit (T (14 + i)) && decide (T (32 + i) < v))) i = false := by simp [g2]
                              refine g_iconst (pc := 165) (v := 0) o dX4_cart_165 (by decide) ?_
                              refine g_iadd (pc := 166) o dX4_cart_166 ?_
                              refine g_istore (pc := 167) o dX4_cart_167 rfl ?_
                              refine g_incN (pc := 169) o (i) dX4_cart_169 rfl rfl ?_
                              refine g_goto (pc := 172) o 104 dX4_cart_172 (by decide) ?_
                              refine g_eq rfl ?_ rfl rfl (ih2 (i + 1) (by omega) (by omega))
                              rw [show cntN (fun i => (wA T S (-1)).testBit i && (c.testBit (T (14 + i)) && decide (T (32 + i) < v))) (i + 1) = cntN (fun i => (wA T S (-1)).testBit i && (c.testBit (T (14 + i)) && decide (T (32 + i) < v))) i + bn ((fun i => (wA T S (-1)).testBit i && (c.testBit (T (14 + i)) && decide (T (32 + i) < v))) i) from rfl, e1]
                              first | (rw [show ∀ x, x + bn true = x + 1 from fun _ => rfl, nI_succ (cntN (fun i => (wA T S (-1)).testBit i && (c.testBit (T (14 + i)) && decide (T (32 + i) < v))) i)]; rfl) | (rw [show ∀ x, x + bn false = x from fun _ => rfl, show nI (cntN (fun i => (wA T S (-1)).testBit i && (c.testBit (T (14 + i)) && decide (T (32 + i) < v))) i) + 0 = nI (cntN (fun i => (wA T S (-1)).testBit i && (c.testBit (T (14 + i)) && decide (T (32 + i) < v))) i) from Int32.add_zero _]; rfl)
                            · have g2 : c.testBit (T (14 + i)) = true := bn_one.mp q144
                              refine g_aload_n (pc := 147) o 0 dX4_cart_147 rfl rfl ?_
                              refine g_getR (pc := 148) o flRX4_13 rfl (by omega) y3 dX4_cart_148 ?_
                              refine g_bipush (pc := 151) (v := 32) o dX4_cart_151 (by decide) ?_
                              refine g_iload (pc := 153) o dX4_cart_153 rfl ?_
                              refine g_iadd (pc := 155) o dX4_cart_155 ?_
                              refine g_iald (pc := 156) o ((32 + i)) rfl (by omega) (nI_addE rfl rfl) (by omega) dX4_cart_156 ?_
                              rw [hT (32 + i) (by omega)]
                              refine g_iload_n (pc := 157) o 3 dX4_cart_157 rfl rfl ?_
                              refine g_icmp_ge (pc := 158) o 165 dX4_cart_158 (by decide) (fun q158 => ?_) (fun q158 => ?_)
                              · have g3 := (le_N (a := v) (by omega) (by omega) rfl rfl).mp q158
                                have e1 : (fun i => (wA T S (-1)).testBit i && (c.testBit (T (14 + i)) && decide (T (32 + i) < v))) i = false := by simp; intro _ _; omega
                                refine g_iconst (pc := 165) (v := 0) o dX4_cart_165 (by decide) ?_
                                refine g_iadd (pc := 166) o dX4_cart_166 ?_
                                refine g_istore (pc := 167) o dX4_cart_167 rfl ?_
                                refine g_incN (pc := 169) o (i) dX4_cart_169 rfl rfl ?_
                                refine g_goto (pc := 172) o 104 dX4_cart_172 (by decide) ?_
                                refine g_eq rfl ?_ rfl rfl (ih2 (i + 1) (by omega) (by omega))
                                rw [show cntN (fun i => (wA T S (-1)).testBit i && (c.testBit (T (14 + i)) && decide (T (32 + i) < v))) (i + 1) = cntN (fun i => (wA T S (-1)).testBit i && (c.testBit (T (14 + i)) && decide (T (32 + i) < v))) i + bn ((fun i => (wA T S (-1)).testBit i && (c.testBit (T (14 + i)) && decide (T (32 + i) < v))) i) from rfl, e1]
                                first | (rw [show ∀ x, x + bn true = x + 1 from fun _ => rfl, nI_succ (cntN (fun i => (wA T S (-1)).testBit i && (c.testBit (T (14 + i)) && decide (T (32 + i) < v))) i)]; rfl) | (rw [show ∀ x, x + bn false = x from fun _ => rfl, show nI (cntN (fun i => (wA T S (-1)).testBit i && (c.testBit (T (14 + i)) && decide (T (32 + i) < v))) i) + 0 = nI (cntN (fun i => (wA T S (-1)).testBit i && (c.testBit (T (14 + i)) && decide (T (32 + i) < v))) i) from Int32.add_zero _]; rfl)
                              · have g3 := mt (le_N (a := v) (by omega) (by omega) rfl rfl).mpr q158
                                have e1 : (fun i => (wA T S (-1)).testBit i && (c.testBit (T (14 + i)) && decide (T (32 + i) < v))) i = true := by simp [g1, g2]; omega
                                refine g_iconst (pc := 161) (v := 1) o dX4_cart_161 (by decide) ?_
                                refine g_goto (pc := 162) o 166 dX4_cart_162 (by decide) ?_
                                refine g_iadd (pc := 166) o dX4_cart_166 ?_
                                refine g_istore (pc := 167) o dX4_cart_167 rfl ?_
                                refine g_incN (pc := 169) o (i) dX4_cart_169 rfl rfl ?_
                                refine g_goto (pc := 172) o 104 dX4_cart_172 (by decide) ?_
                                refine g_eq rfl ?_ rfl rfl (ih2 (i + 1) (by omega) (by omega))
                                rw [show cntN (fun i => (wA T S (-1)).testBit i && (c.testBit (T (14 + i)) && decide (T (32 + i) < v))) (i + 1) = cntN (fun i => (wA T S (-1)).testBit i && (c.testBit (T (14 + i)) && decide (T (32 + i) < v))) i + bn ((fun i => (wA T S (-1)).testBit i && (c.testBit (T (14 + i)) && decide (T (32 + i) < v))) i) from rfl, e1]
                                first | (rw [show ∀ x, x + bn true = x + 1 from fun _ => rfl, nI_succ (cntN (fun i => (wA T S (-1)).testBit i && (c.testBit (T (14 + i)) && decide (T (32 + i) < v))) i)]; rfl) | (rw [show ∀ x, x + bn false = x from fun _ => rfl, show nI (cntN (fun i => (wA T S (-1)).testBit i && (c.testBit (T (14 + i)) && decide (T (32 + i) < v))) i) + 0 = nI (cntN (fun i => (wA T S (-1)).testBit i && (c.testBit (T (14 + i)) && decide (T (32 + i) < v))) i) from Int32.add_zero _]; rfl)
                    refine g_aload_n (pc := 88) o 0 dX4_cart_88 rfl rfl ?_
                    refine g_iload_n (pc := 89) o 1 dX4_cart_89 rfl rfl ?_
                    refine g_iload_n (pc := 90) o 2 dX4_cart_90 rfl rfl ?_
                    refine g_iload (pc := 91) o dX4_cart_91 rfl ?_
                    refine g_V3i (pc := 93) o lkRX4_190 cmX4_far (cX4far mb hfr hto hc16) rfl (by omega) rfl rfl ⟨Nat.le_refl _, Nat.le_refl _⟩ dX4_cart_93 ?_
                    refine g_istore (pc := 96) o dX4_cart_96 rfl ?_
                    refine g_iconst (pc := 98) (v := 0) o dX4_cart_98 (by decide) ?_
                    refine g_istore (pc := 99) o dX4_cart_99 rfl ?_
                    refine g_iconst (pc := 101) (v := 0) o dX4_cart_101 (by decide) ?_
                    refine g_istore (pc := 102) o dX4_cart_102 rfl ?_
                    exact inner (T 2 + 1) 0 (by omega) (by omega)
          refine g_aload_n (pc := 38) o 0 dX4_cart_38 rfl rfl ?_
          refine g_aload_n (pc := 39) o 0 dX4_cart_39 rfl rfl ?_
          refine g_V0i (pc := 40) o lkRX4_158 cmX4_calledNow (cX4calledNow mb) rfl (by omega) rfl rfl ⟨Nat.le_refl _, Nat.le_refl _⟩ dX4_cart_40 ?_
          refine g_V1i (pc := 43) o lkRX4_162 cmX4_asleep (cX4asleep mb mf (by have := calN6 (S := S) t2; omega)) rfl (by omega) rfl rfl ⟨Nat.le_refl _, Nat.le_refl _⟩ dX4_cart_43 ?_
          rw [mSl_1 ht]
          refine g_istore (pc := 46) o dX4_cart_46 rfl ?_
          refine g_bipush (pc := 48) (v := -9) o dX4_cart_48 (by decide) ?_
          refine g_istore (pc := 50) o dX4_cart_50 rfl ?_
          refine g_iconst (pc := 52) (v := 0) o dX4_cart_52 (by decide) ?_
          refine g_istore (pc := 53) o dX4_cart_53 rfl ?_
          exact outer (2 ^ T 0 + 1) 0 none none none (Nat.zero_le _) (by omega)
        · have hv : ¬ vCart T a1 a2 a3 wh := fun q => bi_z.mp q33 q.2.2.2
          refine g_iconst (pc := 36) (v := -1) o dX4_cart_36 (by decide) ?_
          exact g_iret (pc := 37) o f dX4_cart_37 rfl (by unfold aCart; rw [if_neg hv]) rfl

end M27
