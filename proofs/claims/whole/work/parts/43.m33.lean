section M33
variable {Λ : PL} {d n : Nat} {M : HM} {Rf : HR} {Lg : HL}

def swR (Rf : HR) (t sp : Nat) : HR := st2 (st2 Rf 0 1 (some sp)) 0 2 (some t)
def cyX (tl : Nat) (tx : Nat → Nat) (n : Nat) (M : HM) (Rf : HR) (Lg : HL) (t sp : Nat) (v : Option Value) (h : HP) : Prop := match rdT tl tx (tl + 1) iniT 0 with
  | .inl f => ∃ M', v = some (.int (-10 - nI f)) ∧ h = (n, M', Rf, Lg) ∧ frR sp M M' ∧ txM M' tl tx
  | .inr T' => ∃ M', v = some (.int (nI (T' 4))) ∧ h = (n, M', swR Rf t sp, Lg) ∧ okT T' ∧ T' 4 ≤ 200 ∧ cyT M' sp T' ∧ cyR M' sp T' ∧ nwS M' 28 (bgT T') (T' 2) ∧ M' 1 1 = 0 ∧ M' 0 7 = 0 ∧ M' 0 12 = 0 ∧ M' 38 0 = 0 ∧ M' 38 1 = 0 ∧ M' 0 6 = M 0 6 ∧ ∀ z, 96 ≤ z → M' z = M z
theorem sw_o {Rf : HR} {t sp z j : Nat} (h : ¬ (z = 0 ∧ (j = 1 ∨ j = 2))) : swR Rf t sp z j = Rf z j := by
  unfold swR
  rw [st2_ne2 _ _ (by omega), st2_ne2 _ _ (by omega)]
theorem neg10 {f : Nat} (h : f ≤ 200) : ¬ (0 : Int32) ≤ -10 - nI f := by
  intro q
  rw [Int32.le_iff_toInt_le, Int32.toInt_sub, nI_toInt (by omega), show (-10 : Int32).toInt = -10 from by decide, show (0 : Int32).toInt = 0 from by decide, Int.bmod_eq_of_le (by omega) (by omega)] at q
  omega
def ctC (M2 : HM) (sp c : Nat) : HM := fun z j => if z = 38 ∧ j < c then 0 else st2 (st2 (bgnM (st2 M2 1 1 0) 28 sp) 0 7 0) 0 12 0 z j
theorem ctC_s (M2 : HM) (sp c : Nat) : st2 (ctC M2 sp c) 38 c 0 = ctC M2 sp (c + 1) := by
  funext z j
  unfold ctC
  simp only [st2]
  grind
theorem ctC_0 (M2 : HM) (sp : Nat) : ctC M2 sp 0 = st2 (st2 (bgnM (st2 M2 1 1 0) 28 sp) 0 7 0) 0 12 0 := by
  funext z j; unfold ctC; rw [if_neg (by omega)]
theorem ctC_ne (M2 : HM) (sp c : Nat) {z : Nat} (h0 : z ≠ 0) (h1 : z ≠ 1) (h38 : z ≠ 38) (h : z < 28 ∨ 31 < z) : ctC M2 sp c z = M2 z := by
  funext j
  unfold ctC
  rw [if_neg (by omega), st2_ne _ _ _ h0, st2_ne _ _ _ h0, bgnM_ne _ _ _ (by omega), st2_ne _ _ _ h1]
theorem ct_now {M2 : HM} {sp : Nat} {T : Nat → Nat} (hs : sp = 4 ∨ sp = 16) (t2 : T 2 ≤ 6) (h : cyT M2 sp T) : nwS (ctC M2 sp 2) 28 (bgT T) (T 2) := by
  have e : ∀ z, 28 ≤ z → z ≤ 31 → ctC M2 sp 2 z = bgnM (st2 M2 1 1 0) 28 sp z := fun z h1 h2 => by
    funext j; unfold ctC; rw [if_neg (by omega), st2_ne _ _ _ (by omega), st2_ne _ _ _ (by omega)]
  unfold nwS
  rw [e 28 (by decide) (by decide), e (28 + 1) (by decide) (by decide), e (28 + 2) (by decide) (by decide), e (28 + 3) (by decide) (by decide)]
  unfold bgnM bgnC
  refine ⟨by rw [if_pos (by omega)]; rfl, by rw [if_pos (by omega)]; rfl, by rw [if_pos (by omega)]; rfl, fun i hi => ⟨?_, ?_, ?_⟩⟩
  · rw [if_neg (by omega), if_pos (by omega), st2_ne _ _ _ (by omega), (h.2.2.2.2.2.2.1 i hi).2.1]
    unfold bgT; rw [if_pos (by omega), show 17 + (3 + i) = 20 + i by omega]
  · rw [if_neg (by omega), if_neg (by omega), if_pos (by omega)]
    unfold bgT; rw [if_neg (by omega)]; rfl
  · rw [if_neg (by omega), if_neg (by omega), if_pos (by omega)]
    unfold bgT; rw [if_neg (by omega)]; rfl

theorem RX.city2 {Rf : HR} {t sp : Nat} (h : RX Rf t) (ht : sp = 4 ∨ sp = 16) : RCi Rf sp := by
  rcases ht with rfl | rfl
  · exact h.2.2.2.2.2.2.2.2.2.2.2.2.2.1
  · exact h.2.2.2.2.2.2.2.2.2.2.2.2.2.2.1
set_option maxHeartbeats 2000000 in
set_option maxRecDepth 20000 in
theorem cX3city {t sp b : Nat} {T S : Nat → Nat} (xb : XB M Rf n t T S b) (hsp : sp = 4 ∨ sp = 16) (x2 : Rf 0 2 = some sp) {tl : Nat} {tx : Nat → Nat} (htx : txM M tl tx) : RetE Λ (d + 5) mX3_city [.ref 0] (n, M, Rf, Lg) (cyX tl tx n M Rf Lg t sp) 0 0 := by
  refine RetE.of rfl rfl rfl (fun κ o f hin => ?_)
  obtain ⟨hx, hc, hn, ht, hm, hr, hs, os, hb9⟩ := id xb
  have rc := hx.city hc
  obtain ⟨x0, x1, x3, x4, x5, x8, x9, x10, x11, x13, x14, x15, xN, xC4, xC16, xP, xI, xT, xL, xNm⟩ := id hx
  have rcs := hx.city2 hsp
  refine g_aload_n (pc := 0) o 0 dX3_city_0 rfl rfl ?_
  refine g_getR (pc := 1) o flRX3_12 (by first | assumption | rfl) (by first | assumption | omega) x0 dX3_city_1 ?_
  refine g_aload_n (pc := 4) o 0 dX3_city_4 rfl rfl ?_
  refine g_getR (pc := 5) o flRX3_23 (by first | assumption | rfl) (by first | assumption | omega) x2 dX3_city_5 ?_
  refine e_V1i (pc := 8) o lkRX3_65 cmX2_readInto (cX2readInto hsp hn rcs xL xNm htx) (by first | assumption | rfl) (by first | assumption | omega) rfl rfl ⟨Nat.le_refl _, Nat.le_refl _⟩ dX3_city_8 (fun r M2 hp => ?_)
  refine g_istore_n (pc := 11) o 1 dX3_city_11 rfl rfl ?_
  refine g_iload_n (pc := 12) o 1 dX3_city_12 rfl rfl ?_
  refine g_if_ge (pc := 13) o 18 dX3_city_13 (by decide) (fun q13 => ?_) (fun q13 => ?_)
  · have hq : ∃ T', rdT tl tx (tl + 1) iniT 0 = .inr T' ∧ (r = nI (T' 4) ∧ cyT M2 sp T' ∧ cyR M2 sp T' ∧ okT T' ∧ T' 4 ≤ 200) := by
      have h2 := hp.2.2
      generalize rdT tl tx (tl + 1) iniT 0 = o9 at h2
      match o9, h2 with
      | .inl f9, h3 => exact absurd (by have := q13; rw [h3.1] at this; exact this) (neg10 h3.2)
      | .inr T', h3 => exact ⟨T', rfl, h3⟩
    obtain ⟨T', e1, h3⟩ := hq
    have hfr := hp
    have fin : ∀ c, c = 2 → cyX tl tx n M Rf Lg t sp (some (.int r)) (n, ctC M2 sp c, swR Rf t sp, Lg) := by
      intro c ec
      subst ec
      unfold cyX
      rw [e1]
      obtain ⟨er, c1, c2, c3, c4⟩ := h3
      refine ⟨_, by rw [er], rfl, c3, c4, c1.kept (fun z a b => ctC_ne _ _ _ (by omega) (by omega) (by omega) (by omega)), fun h hh => by rw [ctC_ne _ _ _ (by omega) (by omega) (by omega) (by omega)]; exact c2 h hh, ct_now hsp c3.2.2.1 c1, ?_, ?_, ?_, rfl, rfl, ?_, fun z hz => by rw [ctC_ne _ _ _ (by omega) (by omega) (by omega) (by omega)]; exact hfr.1 z (by omega) (by omega) (by omega)⟩
      · unfold ctC; rw [if_neg (by omega), st2_ne _ _ _ (by decide), st2_ne _ _ _ (by decide), bgnM_ne _ _ _ (by omega), st2_same]
      · unfold ctC; rw [if_neg (by omega), st2_ne2 _ _ (by omega), st2_same]
      · unfold ctC; rw [if_neg (by omega), st2_same]
      · unfold ctC; rw [if_neg (by omega), st2_ne2 _ _ (by omega), st2_ne2 _ _ (by omega), bgnM_ne _ _ _ (by omega), st2_ne _ _ _ (by decide), hfr.1 0 (by decide) (by decide) (by omega)]
    have loop : ∀ k c : Nat, c ≤ 2 → 2 < c + k → G (Λ, κ) 67 [some (.ref 0), some (.int r), some (.ref t), some (.int (nI c))] [] (n, ctC M2 sp c, swR Rf t sp, Lg) 0 0 := by
      intro k
      induction k with
      | zero => intro c h1 h2; exact absurd h2 (by omega)
      | succ k ih =>
        intro c h1 h2
        refine g_iload_n (pc := 67) o 3 dX3_city_67 rfl rfl ?_
        refine g_iconst (pc := 68) (v := 2) o dX3_city_68 (by decide) ?_
        refine g_icmp_ge (pc := 69) o 85 dX3_city_69 (by decide) (fun q69 => ?_) (fun q69 => ?_)
        · have ec : c = 2 := by have := (le_N (a := 2) (b := c) (by omega) (by omega) rfl rfl).mp q69; omega
          refine g_iload_n (pc := 85) o 1 dX3_city_85 rfl rfl ?_
          exact e_iret (pc := 86) o f dX3_city_86 rfl (fin c ec)
        · have hc1 : c < 2 := by have := mt (le_N (a := 2) (b := c) (by omega) (by omega) rfl rfl).mpr q69; omega
          refine g_aload_n (pc := 72) o 0 dX3_city_72 rfl rfl ?_
          refine g_getR (pc := 73) o flRX3_43 (by first | assumption | rfl) (by first | assumption | omega) (by rw [sw_o (by omega)]; exact x9) dX3_city_73 ?_
          refine g_iload_n (pc := 76) o 3 dX3_city_76 rfl rfl ?_
          refine g_iconst (pc := 77) (v := 0) o dX3_city_77 (by decide) ?_
          refine g_zast (pc := 78) o (c) (by first | assumption | rfl) (by first | assumption | omega) rfl (by omega) rfl dX3_city_78 ?_
          refine g_incN (pc := 79) o (c) dX3_city_79 rfl rfl ?_
          refine g_goto (pc := 82) o 67 dX3_city_82 (by decide) ?_
          exact g_eq rfl rfl rfl (by rw [ctC_s]) (ih (c + 1) (by omega) (by omega))
    refine g_aload_n (pc := 18) o 0 dX3_city_18 rfl rfl ?_
    refine g_getR (pc := 19) o flRX3_19 (by first | assumption | rfl) (by first | assumption | omega) x1 dX3_city_19 ?_
    refine g_astore_n (pc := 22) o 2 dX3_city_22 rfl rfl ?_
    refine g_aload_n (pc := 23) o 0 dX3_city_23 rfl rfl ?_
    refine g_aload_n (pc := 24) o 0 dX3_city_24 rfl rfl ?_
    refine g_getR (pc := 25) o flRX3_23 (by first | assumption | rfl) (by first | assumption | omega) x2 dX3_city_25 ?_
    refine g_putR (pc := 28) o flRX3_19 rfl (by first | assumption | rfl) (by first | assumption | omega) dX3_city_28 ?_
    refine g_aload_n (pc := 31) o 0 dX3_city_31 rfl rfl ?_
    refine g_aload_n (pc := 32) o 2 dX3_city_32 rfl rfl ?_
    refine g_putR (pc := 33) o flRX3_23 rfl (by first | assumption | rfl) (by first | assumption | omega) dX3_city_33 ?_
    show G _ _ _ _ (n, M2, swR Rf t sp, Lg) _ _
    refine g_aload_n (pc := 36) o 0 dX3_city_36 rfl rfl ?_
    refine g_getR (pc := 37) o flRX3_12 (by first | assumption | rfl) (by first | assumption | omega) (by rw [sw_o (by omega)]; exact x0) dX3_city_37 ?_
    refine g_iconst (pc := 40) (v := 0) o dX3_city_40 (by decide) ?_
    refine g_putI (pc := 41) o flRX3_73 rfl (by first | assumption | rfl) (by first | assumption | omega) rfl rfl dX3_city_41 ?_
    refine g_aload_n (pc := 44) o 0 dX3_city_44 rfl rfl ?_
    refine g_getR (pc := 45) o flRX3_29 (by first | assumption | rfl) (by first | assumption | omega) (by rw [sw_o (by omega)]; exact x3) dX3_city_45 ?_
    refine g_aload_n (pc := 48) o 0 dX3_city_48 rfl rfl ?_
    refine g_getR (pc := 49) o flRX3_19 (by first | assumption | rfl) (by first | assumption | omega) (by unfold swR; rw [st2_ne2 _ _ (by omega), st2_same]) dX3_city_49 ?_
    refine g_V1v (pc := 52) o lkRX3_69 cmX1_begin (cX1begin in28 (by have := xN 28 in28; unfold RNi at this ⊢; rw [sw_o (by omega), sw_o (by omega), sw_o (by omega)]; exact this) hsp hn (by rw [sw_o (by omega)]; exact rcs.2.2.2.1)) (by first | assumption | rfl) (by first | assumption | omega) rfl rfl ⟨Nat.le_refl _, Nat.le_refl _⟩ dX3_city_52 ?_
    refine g_aload_n (pc := 55) o 0 dX3_city_55 rfl rfl ?_
    refine g_iconst (pc := 56) (v := 0) o dX3_city_56 (by decide) ?_
    refine g_putI (pc := 57) o flRX3_81 rfl (by first | assumption | rfl) (by first | assumption | omega) rfl rfl dX3_city_57 ?_
    refine g_aload_n (pc := 60) o 0 dX3_city_60 rfl rfl ?_
    refine g_iconst (pc := 61) (v := 0) o dX3_city_61 (by decide) ?_
    refine g_putI (pc := 62) o flRX3_84 rfl (by first | assumption | rfl) (by first | assumption | omega) rfl rfl dX3_city_62 ?_
    rw [← ctC_0]
    refine g_iconst (pc := 65) (v := 0) o dX3_city_65 (by decide) ?_
    refine g_istore_n (pc := 66) o 3 dX3_city_66 rfl rfl ?_
    exact loop 3 0 (by omega) (by omega)
  · have hq : ∃ f9, rdT tl tx (tl + 1) iniT 0 = .inl f9 ∧ r = -10 - nI f9 := by
      have h2 := hp.2.2
      generalize rdT tl tx (tl + 1) iniT 0 = o9 at h2
      match o9, h2 with
      | .inl f9, h3 => exact ⟨f9, rfl, h3.1⟩
      | .inr T', h3 => exact absurd (by have h200 := h3.2.2.2.2; rw [h3.1]; exact (le_N (a := 0) (by decide) (by omega) rfl rfl).mpr (by omega)) q13
    obtain ⟨f9, e1, er⟩ := hq
    refine g_iload_n (pc := 16) o 1 dX3_city_16 rfl rfl ?_
    exact e_iret (pc := 17) o f dX3_city_17 rfl (by unfold cyX; rw [e1]; exact ⟨M2, by rw [er], rfl, hp.1, hp.2.1⟩)

end M33
