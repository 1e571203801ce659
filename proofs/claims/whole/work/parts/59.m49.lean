section M49
variable {K : KT} {d RC RS x y bb c L : Nat} {xs : Nat → Int32} {M : HM} {Rf : HR} {Lg : HL}

theorem INV_up {b b' : Nat} (h : INV b M Rf Lg) (hb : b ≤ b') (hb2 : b' ≤ 1000) : INV b' M Rf Lg := by
  obtain ⟨t, T, S, lat, pk, P, I, ik, cn, ch, cm, tl, tx, ic, im, hlg⟩ := h
  exact INV_mk ic im hb hb2 hlg
theorem sub5 {L c : Nat} (hL : L ≤ 320) (hc : c ≤ 64) : nI L - 5 < nI (5 * c) ↔ L < 5 * c + 5 := by
  rw [Int32.lt_iff_toInt_lt, Int32.toInt_sub, nI_toInt (by omega), nI_toInt (by omega), show (5 : Int32).toInt = 5 from by decide, Int.bmod_eq_of_le (by omega) (by omega)]
  omega
set_option maxHeartbeats 2000000 in
set_option maxRecDepth 20000 in
theorem L_loop (o : Ok K code R_law 4 (d + 9) RC RS) (hxy : x ≤ RC ∧ y ≤ RS) (hX : va_X bb L xs K.2.2.2.2.1 K.2.2.2.2.1.heap) (hbl : bb < K.2.2.2.2.1.heap.size) (hbA : bb < K.1.2.1) (hL : L ≤ 320) (fin : ∀ (h : HP) (c : Nat), G K 777 (lL bb c) [] h x y) : ∀ (k c : Nat) (M : HM) (Rf : HR) (Lg : HL), c + k = 65 → c ≤ 64 → INV c M Rf Lg → G K 18 (lL bb c) [] (109, M, Rf, Lg) x y := by
  intro k
  induction k with
  | zero => intro c M Rf Lg h1 h2; omega
  | succ k ih =>
    intro c M Rf Lg h1 h2 inv
    refine g_iload_n (pc := 18) o 3 dL_law_18 rfl rfl ?_
    refine g_aload_nX (pc := 19) o 0 dL_law_19 rfl rfl ?_
    refine g_slen (pc := 20) o hX hbl hbA dL_law_20 ?_
    refine g_iconst (pc := 21) (v := 5) o dL_law_21 (by decide) ?_
    refine g_isub (pc := 22) o dL_law_22 ?_
    refine g_icmp_gt (pc := 23) o 777 dL_law_23 (by decide) (fun _ => fin _ _) (fun q => ?_)
    have hc5 : ¬ L < 5 * c + 5 := fun h => q ((sub5 hL h2).mpr h)
    have hc : 5 * c + 4 < L := by omega
    have next : ∀ (M' : HM) (Rf' : HR) (Lg' : HL), INV (c + 1) M' Rf' Lg' → G K 771 (lL bb c) [] (109, M', Rf', Lg') x y := by
      intro M' Rf' Lg' inv'
      refine g_iinc (pc := 771) o dL_law_771 rfl ?_
      refine g_goto (pc := 774) o 18 dL_law_774 (by decide) ?_
      have e5 : nI (5 * c) + Int32.ofInt 5 = nI (5 * (c + 1)) := nI_addE rfl rfl
      have h9 := ih (c + 1) M' Rf' Lg' (by omega) (by omega) inv'
      unfold lL at h9 ⊢
      rw [← e5] at h9
      exact h9
    refine g_aload_nX (pc := 26) o 0 dL_law_26 rfl rfl ?_
    refine g_iload_n (pc := 27) o 3 dL_law_27 rfl rfl ?_
    refine g_sld (pc := 28) o hX hbl hbA (5 * c) rfl (by omega) (by omega) dL_law_28 ?_
    refine g_bipush (pc := 29) (v := 31) o dL_law_29 (by decide) ?_
    refine g_iand (pc := 31) o dL_law_31 ?_
    rcases sw_cases (xs (5 * c) &&& 31) 26 (by decide) with hsw | ⟨kk, hkk, e⟩
    · refine g_tabO (pc := 32) o 771 dL_law_32 (by first | exact hsw | omega) (by decide) ?_
      exact next _ _ _ (INV_up inv (by omega) (by omega))
    · rw [e]
      clear e
      match kk, hkk with
      | 0, _ =>
        refine g_tabI (pc := 32) o 152 dL_law_32 (by decide) (by decide) rfl (by decide) ?_
        exact L_type o hxy hX hbl hbA hc hL inv next
      | 1, _ =>
        refine g_tabI (pc := 32) o 175 dL_law_32 (by decide) (by decide) rfl (by decide) ?_
        exact L_clear o hxy hX hbl hbA hc hL inv next
      | 2, _ =>
        refine g_tabI (pc := 32) o 188 dL_law_32 (by decide) (by decide) rfl (by decide) ?_
        exact L_city o hxy hX hbl hbA hc hL inv next
      | 3, _ =>
        refine g_tabI (pc := 32) o 201 dL_law_32 (by decide) (by decide) rfl (by decide) ?_
        exact L_district o hxy hX hbl hbA hc hL inv next
      | 4, _ =>
        refine g_tabI (pc := 32) o 234 dL_law_32 (by decide) (by decide) rfl (by decide) ?_
        exact L_citizen o hxy hX hbl hbA hc hL inv next
      | 5, _ =>
        refine g_tabI (pc := 32) o 267 dL_law_32 (by decide) (by decide) rfl (by decide) ?_
        exact L_noise o hxy hX hbl hbA hc hL inv next
      | 6, _ =>
        refine g_tabI (pc := 32) o 300 dL_law_32 (by decide) (by decide) rfl (by decide) ?_
        exact L_now o hxy hX hbl hbA hc hL inv next
      | 7, _ =>
        refine g_tabI (pc := 32) o 323 dL_law_32 (by decide) (by decide) rfl (by decide) ?_
        exact L_calls o hxy hX hbl hbA hc hL inv next
      | 8, _ =>
        refine g_tabI (pc := 32) o 356 dL_law_32 (by decide) (by decide) rfl (by decide) ?_
        exact L_hour o hxy hX hbl hbA hc hL inv next
      | 9, _ =>
        refine g_tabI (pc := 32) o 369 dL_law_32 (by decide) (by decide) rfl (by decide) ?_
        exact L_undo o hxy hX hbl hbA hc hL inv next
      | 10, _ =>
        refine g_tabI (pc := 32) o 382 dL_law_32 (by decide) (by decide) rfl (by decide) ?_
        exact L_asleepIn o hxy hX hbl hbA hc hL inv next
      | 11, _ =>
        refine g_tabI (pc := 32) o 405 dL_law_32 (by decide) (by decide) rfl (by decide) ?_
        exact L_lapse o hxy hX hbl hbA hc hL inv next
      | 12, _ =>
        refine g_tabI (pc := 32) o 418 dL_law_32 (by decide) (by decide) rfl (by decide) ?_
        exact L_callUp o hxy hX hbl hbA hc hL inv next
      | 13, _ =>
        refine g_tabI (pc := 32) o 451 dL_law_32 (by decide) (by decide) rfl (by decide) ?_
        exact L_bears o hxy hX hbl hbA hc hL inv next
      | 14, _ =>
        refine g_tabI (pc := 32) o 464 dL_law_32 (by decide) (by decide) rfl (by decide) ?_
        exact L_cart o hxy hX hbl hbA hc hL inv next
      | 15, _ =>
        refine g_tabI (pc := 32) o 517 dL_law_32 (by decide) (by decide) rfl (by decide) ?_
        exact L_drum o hxy hX hbl hbA hc hL inv next
      | 16, _ =>
        refine g_tabI (pc := 32) o 540 dL_law_32 (by decide) (by decide) rfl (by decide) ?_
        exact L_wants o hxy hX hbl hbA hc hL inv next
      | 17, _ =>
        refine g_tabI (pc := 32) o 563 dL_law_32 (by decide) (by decide) rfl (by decide) ?_
        exact L_counted o hxy hX hbl hbA hc hL inv next
      | 18, _ =>
        refine g_tabI (pc := 32) o 596 dL_law_32 (by decide) (by decide) rfl (by decide) ?_
        exact L_forget o hxy hX hbl hbA hc hL inv next
      | 19, _ =>
        refine g_tabI (pc := 32) o 609 dL_law_32 (by decide) (by decide) rfl (by decide) ?_
        exact L_sham o hxy hX hbl hbA hc hL inv next
      | 20, _ =>
        refine g_tabI (pc := 32) o 622 dL_law_32 (by decide) (by decide) rfl (by decide) ?_
        exact L_odds o hxy hX hbl hbA hc hL inv next
      | 21, _ =>
        refine g_tabI (pc := 32) o 655 dL_law_32 (by decide) (by decide) rfl (by decide) ?_
        exact L_rate o hxy hX hbl hbA hc hL inv next
      | 22, _ =>
        refine g_tabI (pc := 32) o 688 dL_law_32 (by decide) (by decide) rfl (by decide) ?_
        exact L_keep o hxy hX hbl hbA hc hL inv next
      | 23, _ =>
        refine g_tabI (pc := 32) o 711 dL_law_32 (by decide) (by decide) rfl (by decide) ?_
        exact L_back o hxy hX hbl hbA hc hL inv next
      | 24, _ =>
        refine g_tabI (pc := 32) o 734 dL_law_32 (by decide) (by decide) rfl (by decide) ?_
        exact L_count o hxy hX hbl hbA hc hL inv next
      | 25, _ =>
        refine g_tabI (pc := 32) o 757 dL_law_32 (by decide) (by decide) rfl (by decide) ?_
        exact L_trace o hxy hX hbl hbA hc hL inv next
      | n + 26, h => exact absurd h (by omega)
theorem RX_kept {R2 : HR} {t : Nat} (h : RX Rf t) (e : ∀ z, z < 96 → R2 z = Rf z) : RX R2 t := by
  obtain ⟨a0, a1, a3, a4, a5, a8, a9, a10, a11, a13, a14, a15, b1, c1, c2, d1, d2, d3, e1, e2⟩ := h
  refine ⟨by rw [e 0 (by decide)]; exact a0, by rw [e 0 (by decide)]; exact a1, by rw [e 0 (by decide)]; exact a3, by rw [e 0 (by decide)]; exact a4, by rw [e 0 (by decide)]; exact a5, by rw [e 0 (by decide)]; exact a8, by rw [e 0 (by decide)]; exact a9, by rw [e 0 (by decide)]; exact a10, by rw [e 0 (by decide)]; exact a11, by rw [e 0 (by decide)]; exact a13, by rw [e 0 (by decide)]; exact a14, by rw [e 0 (by decide)]; exact a15, fun a ha => ?_, ?_, ?_, fun i hi => by rw [e 36 (by decide)]; exact d1 i hi, fun i hi => by rw [e 37 (by decide)]; exact d2 i hi, fun i hi => by rw [e 42 (by decide)]; exact d3 i hi, by rw [e 1 (by decide)]; exact e1, by rw [e 1 (by decide)]; exact e2⟩
  · have hm := now_mod ha
    have g := b1 a ha
    unfold RNi at g ⊢
    rw [e a (by omega)]
    exact g
  · unfold RCi at c1 ⊢
    rw [e 4 (by decide)]
    exact c1
  · unfold RCi at c2 ⊢
    rw [e 16 (by decide)]
    exact c2
/-- both as they are made -/
theorem INV_0 {M1 M2 : HM} {R1 R2 : HR} (xb : XB M1 R1 96 4 iniT (bgT iniT) 0) (r2 : R1 0 2 = some 16) (m0 : M1 0 = fun _ => 0) (m38 : M1 38 = fun _ => 0) (tx0 : txM M1 0 (fun _ => 0)) (er : ∀ z, z ≠ 96 → R2 z = R1 z) (em : ∀ z, z < 96 → M2 z = M1 z) (mb : MB M2 R2 109 iniT (bgT iniT) 0) (mf : MF M2 63 (-9) (-9) (-9) 0) (h7 : M2 96 7 = 0) (h11 : M2 96 11 = 0) (h30 : M2 103 0 = 0) (h31 : M2 103 1 = 0) (txn : txN M2 0 (fun _ => 0)) : INV 0 M2 R2 zL := by
  obtain ⟨a1, a2, a3, a4, a5, a6, a7, a8, a9⟩ := xb
  refine ⟨4, iniT, bgT iniT, 0, 0, fun _ _ => 0, fun _ _ => 0, fun _ => false, 0, fun _ => 0, fun _ => 0, 0, fun _ => 0, ⟨⟨RX_kept a1 (fun z hz => er z (by omega)), a2, by omega, a4, a5.kept (fun z g1 g2 => em z (by omega)), fun q hq => by rw [em (4 + 11) (by decide)]; exact a6 q hq, a7.kept (fun z g1 g2 => em z (by omega)), a8, a9⟩, by rw [er 0 (by decide)]; exact r2, ⟨by decide, by decide, by rw [em 0 (by decide), m0]; rfl, by rw [em 0 (by decide), m0]; rfl, fun i hi => by omega⟩, ⟨fun i hi => by rw [em 38 (by decide), m38]; rfl, fun i hi hk => by cases hk⟩, ⟨by rw [em 0 (by decide), m0]; rfl, by decide, fun i hi => by omega⟩, txM_kept tx0 (by rw [em 1 (by decide)]) (em 2 (by decide))⟩, ⟨mb, ⟨0, mf⟩, ⟨by rw [h7]; rfl, fun i hi => by omega⟩, ⟨fun i hi => ?_, fun i hi hk => by cases hk⟩, ⟨by rw [h11]; rfl, fun i hi => by omega⟩, txn⟩, rfl⟩
  match i, hi with
  | 0, _ => exact h30
  | 1, _ => exact h31
set_option maxHeartbeats 2000000 in
set_option maxRecDepth 20000 in
theorem L_start (o : Ok K code R_law 4 (d + 9) 600000 7302250) (hX : va_X bb L xs K.2.2.2.2.1 K.2.2.2.2.1.heap) (hbl : bb < K.2.2.2.2.1.heap.size) (hbA : bb < K.1.2.1) (hL : L ≤ 320) (fin : ∀ (h : HP) (c : Nat), G K 777 (lL bb c) [] h 109 1490) : G K 0 [some (.retAddr bb), none, none, none] [] (0, zM, zR, zL) 0 0 := by
  refine g_newC (pc := 0) o (t := 3) (N := 17) rfl (by decide) clR_law_7 ins_3 ini_3 rfl rfl rfl rfl (by decide) dL_law_0 ?_
  refine g_dup (pc := 3) o dL_law_3 rfl ?_
  refine e_callI (pc := 4) (As := []) o rfl lkR_law_9 cmX3_init cX3init rfl rfl rfl (by decide) dL_law_4 (fun v h' hq => ?_)
  obtain ⟨M1, R1, rfl, rfl, xb, r2, m0, m38, tx0, zm, zr⟩ := hq
  refine g_astore_n (pc := 7) o 1 dL_law_7 rfl rfl ?_
  refine g_newC (pc := 8) o (t := 4) (N := 26) rfl (by decide) clR_law_10 ins_4 ini_4 rfl (zm 96 (Nat.le_refl _)) (zr 96 (Nat.le_refl _)) rfl (by decide) dL_law_8 ?_
  refine g_dup (pc := 11) o dL_law_11 rfl ?_
  refine e_callI (pc := 12) (As := []) o rfl lkR_law_12 cmX4_init (cX4init zm) rfl rfl rfl (by decide) dL_law_12 (fun v h' hq => ?_)
  obtain ⟨M2, R2, rfl, rfl, er, em, mb, mf, h7, h11, h30, h31, txn⟩ := hq
  refine g_astore_n (pc := 15) o 2 dL_law_15 rfl rfl ?_
  refine g_iconst (pc := 16) (v := 0) o dL_law_16 (by decide) ?_
  refine g_istore_n (pc := 17) o 3 dL_law_17 rfl rfl ?_
  exact L_loop o (by decide) hX hbl hbA hL fin 65 0 M2 R2 zL (by decide) (by decide) (INV_0 xb r2 m0 m38 tx0 er em mb mf h7 h11 h30 h31 txn)
end M49
