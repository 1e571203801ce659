section M23
variable {Λ : PL} {d n : Nat} {M : HM} {Rf : HR} {Lg : HL}

def drM (M : HM) (T : Nat → Nat) (v : Int32) : HM := if inn v (T 0) then st2 M 96 20 (nI 9) else M
set_option maxHeartbeats 2000000 in
set_option maxRecDepth 20000 in
theorem cX4drum {b : Nat} {T S : Nat → Nat} (mb : MB M Rf n T S b) {dl : Nat} (mf : MF M 63 (-9) (-9) (-9) dl) {v : Int32} : Ret Λ (d + 2) mX4_drum [.ref 96, .int v] (n, M, Rf, Lg) (some (.int (drS T S v))) (n, drM M T v, Rf, Lg) 0 0 := by
  refine Ret.of rfl rfl rfl (fun κ o f hin => ?_)
  obtain ⟨rm, hn, ht, hT, hS, os, hb9⟩ := id mb
  obtain ⟨y1, y3, y4, y5, y6, y8, y9, y10, y21, y22, y23, y24⟩ := id rm
  obtain ⟨⟨t0, t0b⟩, t1, t2, t3, tD, tC, tN⟩ := id ht
  obtain ⟨os0, os1, os2, osc⟩ := id os
  obtain ⟨f16, hd6, f17, f18, f19, f20, hdl⟩ := id mf
  refine g_aload_n (pc := 0) o 0 dX4_drum_0 rfl rfl ?_
  refine g_iload_n (pc := 1) o 1 dX4_drum_1 rfl rfl ?_
  refine g_V1i (pc := 2) o lkRX4_133 cmX4_isDistrict (cX4isDistrict mb) rfl (by omega) rfl rfl ⟨Nat.le_refl _, Nat.le_refl _⟩ dX4_drum_2 ?_
  refine g_if_ne (pc := 5) o 10 dX4_drum_5 (by decide) (fun q5 => ?_) (fun q5 => ?_)
  · have g := bi_nz.mp q5
    obtain ⟨j, hj, rfl⟩ := inn_of g (by omega)
    have loop : ∀ (k c : Nat) (y : Int32), c ≤ 10 → 10 < c + k → (c = 10 → y = nI 9) → G (Λ, κ) 20 [some (.ref 96), some (.int (nI j)), some (.int (drmF T (wA T S (-1)) j c)), some (.int (nI c))] [] (n, (st2 (st2 M 96 19 (nI j)) 96 20 y), Rf, Lg) 0 0 := by
      intro k
      induction k with
      | zero => intro c y h1 h2; exact absurd h2 (by omega)
      | succ k ih =>
        intro c y h1 h2 hy9
        refine g_iload_n (pc := 20) o 3 dX4_drum_20 rfl rfl ?_
        refine g_bipush (pc := 21) (v := 10) o dX4_drum_21 (by decide) ?_
        refine g_icmp_ge (pc := 23) o 63 dX4_drum_23 (by decide) (fun q23 => ?_) (fun q23 => ?_)
        · have ec : c = 10 := by have := (le_N (a := 10) (b := c) (by omega) (by omega) rfl rfl).mp q23; omega
          refine g_aload_n (pc := 63) o 0 dX4_drum_63 rfl rfl ?_
          refine g_bipush (pc := 64) (v := -9) o dX4_drum_64 (by decide) ?_
          refine g_putI (pc := 66) o flRX4_45 rfl rfl (by omega) rfl rfl dX4_drum_66 ?_
          refine g_iload_n (pc := 69) o 2 dX4_drum_69 rfl rfl ?_
          exact g_iret (pc := 70) o f dX4_drum_70 rfl (by rw [ec]; unfold drS; rw [tbv_in hj (by omega)]) (hp_M (by unfold drM; rw [if_pos g, hy9 ec]; funext z j; unfold st2; have := f19; grind))
        · have hc1 : c < 10 := by have := mt (le_N (a := 10) (b := c) (by omega) (by omega) rfl rfl).mpr q23; omega
          have mbc : MB (st2 (st2 (st2 M 96 19 (nI j)) 96 20 y) 96 20 (nI c)) Rf n T S b := mb.kept (by rw [st2_ne _ _ _ (by decide), st2_ne _ _ _ (by decide), st2_ne _ _ _ (by decide)]) (by rw [st2_ne _ _ _ (by decide), st2_ne _ _ _ (by decide), st2_ne _ _ _ (by decide)])
          have mfc : MF (st2 (st2 (st2 M 96 19 (nI j)) 96 20 y) 96 20 (nI c)) 63 (-9) (-9) (nI j) c := by
            have e : ∀ i, i ≠ 19 → i ≠ 20 → (st2 (st2 (st2 M 96 19 (nI j)) 96 20 y) 96 20 (nI c)) 96 i = M 96 i := fun i h1 h2 => by rw [st2_ne2 _ _ (by omega), st2_ne2 _ _ (by omega), st2_ne2 _ _ (by omega)]
            unfold MF
            rw [e 16 (by decide) (by decide), e 17 (by decide) (by decide), e 18 (by decide) (by decide), st2_same, st2_ne2 _ _ (by omega), st2_ne2 _ _ (by omega), st2_same]
            exact ⟨mf.1, mf.2.1, mf.2.2.1, mf.2.2.2.1, rfl, rfl, by omega⟩
          have e98 : (st2 (st2 (st2 M 96 19 (nI j)) 96 20 y) 96 20 (nI c)) 98 1 = nI (T 1) := by rw [st2_ne _ _ _ (by decide), st2_ne _ _ _ (by decide), st2_ne _ _ _ (by decide)]; exact hT 1 (by decide)
          have pl := pop_le (dif (wA T S (-1)) (wkB T j c))
          refine g_aload_n (pc := 26) o 0 dX4_drum_26 rfl rfl ?_
          refine g_iload_n (pc := 27) o 3 dX4_drum_27 rfl rfl ?_
          refine g_putI (pc := 28) o flRX4_145 rfl rfl (by omega) rfl rfl dX4_drum_28 ?_
          refine g_aload_n (pc := 31) o 0 dX4_drum_31 rfl rfl ?_
          refine g_aload_n (pc := 32) o 0 dX4_drum_32 rfl rfl ?_
          refine g_V0i (pc := 33) o lkRX4_158 cmX4_calledNow (cX4calledNow mbc) rfl (by omega) rfl rfl ⟨Nat.le_refl _, Nat.le_refl _⟩ dX4_drum_33 ?_
          refine g_V1i (pc := 36) o lkRX4_162 cmX4_asleep (cX4asleep mbc mfc (by have := calN6 (S := S) t2; omega)) rfl (by omega) rfl rfl ⟨Nat.le_refl _, Nat.le_refl _⟩ dX4_drum_36 ?_
          rw [mSl_dr ht hj (by omega)]
          refine g_S1i (pc := 39) o lkRX4_155 cmX4_ones (cX4ones (by have := dif6 (b := wkB T j c) (wA6 (S := S) (ab := -1) t2); omega)) rfl rfl ⟨Nat.le_refl _, Nat.le_refl _⟩ dX4_drum_39 ?_
          refine g_aload_n (pc := 42) o 0 dX4_drum_42 rfl rfl ?_
          refine g_getR (pc := 43) o flRX4_13 rfl (by omega) y3 dX4_drum_43 ?_
          refine g_iconst (pc := 46) (v := 1) o dX4_drum_46 (by decide) ?_
          refine g_iald (pc := 47) o (1) rfl (by omega) rfl (by omega) dX4_drum_47 ?_
          refine g_icmp_lt (pc := 48) o 55 dX4_drum_48 (by decide) (fun q48 => ?_) (fun q48 => ?_)
          · have g2 := (lt_N (b := T 1) (by omega) (by omega) rfl e98).mp q48
            have e1 : drmF T (wA T S (-1)) j (c + 1) = drmF T (wA T S (-1)) j c := if_pos g2
            refine g_iload_n (pc := 55) o 2 dX4_drum_55 rfl rfl ?_
            refine g_istore_n (pc := 56) o 2 dX4_drum_56 rfl rfl ?_
            refine g_incN (pc := 57) o (c) dX4_drum_57 rfl rfl ?_
            refine g_goto (pc := 60) o 20 dX4_drum_60 (by decide) ?_
            refine g_eq rfl ?_ rfl (hp_M ?_) (ih (c + 1) (nI c) (by omega) (by omega) (fun _ => by rw [show c = 9 by omega]))
            · rw [e1]; rfl
            · rw [st2_st2]
          · have g2 := mt (lt_N (b := T 1) (by omega) (by omega) rfl e98).mpr q48
            have e1 : drmF T (wA T S (-1)) j (c + 1) = nI c := if_neg g2
            refine g_iload_n (pc := 51) o 3 dX4_drum_51 rfl rfl ?_
            refine g_goto (pc := 52) o 56 dX4_drum_52 (by decide) ?_
            refine g_istore_n (pc := 56) o 2 dX4_drum_56 rfl rfl ?_
            refine g_incN (pc := 57) o (c) dX4_drum_57 rfl rfl ?_
            refine g_goto (pc := 60) o 20 dX4_drum_60 (by decide) ?_
            refine g_eq rfl ?_ rfl (hp_M ?_) (ih (c + 1) (nI c) (by omega) (by omega) (fun _ => by rw [show c = 9 by omega]))
            · rw [e1]; rfl
            · rw [st2_st2]
    refine g_aload_n (pc := 10) o 0 dX4_drum_10 rfl rfl ?_
    refine g_iload_n (pc := 11) o 1 dX4_drum_11 rfl rfl ?_
    refine g_putI (pc := 12) o flRX4_45 rfl rfl (by omega) rfl rfl dX4_drum_12 ?_
    refine g_bipush (pc := 15) (v := -9) o dX4_drum_15 (by decide) ?_
    refine g_istore_n (pc := 17) o 2 dX4_drum_17 rfl rfl ?_
    refine g_iconst (pc := 18) (v := 0) o dX4_drum_18 (by decide) ?_
    refine g_istore_n (pc := 19) o 3 dX4_drum_19 rfl rfl ?_
    have h9 := loop 11 0 (nI dl) (by omega) (by omega) (fun h => absurd h (by decide))
    rw [show st2 (st2 M 96 19 (nI j)) 96 20 (nI dl) = st2 M 96 19 (nI j) from by rw [← f20, show M 96 20 = st2 M 96 19 (nI j) 96 20 from (st2_ne2 _ _ (by omega)).symm, st2_self]] at h9
    exact h9
  · have g := bi_z.mp q5
    refine g_iconst (pc := 8) (v := -1) o dX4_drum_8 (by decide) ?_
    exact g_iret (pc := 9) o f dX4_drum_9 rfl (by unfold drS; rw [tbv_out g]) (hp_M (by unfold drM; rw [if_neg g]))

theorem cal_bit {T S : Nat → Nat} {c : Nat} (h : c < T 2) : (calN T S).testBit c = (S (9 + c)).testBit (S 1) := by
  unfold calN; rw [mk_bit]; simp [h]
theorem cou_t {T S : Nat → Nat} {c : Nat} {ht : okT T} (hc : c < T 2) (h : (calN T S).testBit c = true ∧ ¬ nI c = (-9 : Int32) ∧ (T (26 + c)).testBit (S 1) = false ∧ 0 < S (3 + c)) : cou T S c = true := by
  unfold cou
  rw [cal_bit hc] at h
  simp [h.1, h.2.2.1, h.2.2.2]
theorem cou_f {T S : Nat → Nat} {c : Nat} {ht : okT T} (hc : c < T 2) (h : ¬ ((calN T S).testBit c = true ∧ ¬ nI c = (-9 : Int32) ∧ (T (26 + c)).testBit (S 1) = false ∧ 0 < S (3 + c))) : cou T S c = false := by
  have t2 := ht.2.2.1
  cases e : cou T S c with
  | false => rfl
  | true =>
    exfalso; apply h
    unfold cou at e
    simp at e
    rw [cal_bit hc]
    exact ⟨e.1.1, ne9 (by omega), e.1.2, e.2⟩
theorem want_pop {T S : Nat → Nat} {j : Nat} (t2 : T 2 ≤ 6) : cntN (fun i => T (14 + i) == j && cou T S i) (T 2) = pop (mk (cou T S) (T 2) &&& liv T j) := by
  unfold liv
  rw [mk_and, pop_mk _ (by omega)]
  congr 1
  funext i
  exact Bool.and_comm _ _
set_option maxHeartbeats 2000000 in
set_option maxRecDepth 20000 in
theorem cX4wants {b : Nat} {T S : Nat → Nat} (mb : MB M Rf n T S b) {dl : Nat} (mf : MF M 63 (-9) (-9) (-9) dl) {v : Int32} : Ret Λ (d + 2) mX4_wants [.ref 96, .int v] (n, M, Rf, Lg) (some (.int (tbv v (T 0) (fun j => nI (pop (mk (cou T S) (T 2) &&& liv T j))) (-1)))) (n, M, Rf, Lg) 0 0 := by
  refine Ret.of rfl rfl rfl (fun κ o f hin => ?_)
  obtain ⟨rm, hn, ht, hT, hS, os, hb9⟩ := id mb
  obtain ⟨y1, y3, y4, y5, y6, y8, y9, y10, y21, y22, y23, y24⟩ := id rm
  obtain ⟨⟨t0, t0b⟩, t1, t2, t3, tD, tC, tN⟩ := id ht
  obtain ⟨os0, os1, os2, osc⟩ := id os
  obtain ⟨f16, hd6, f17, f18, f19, f20, hdl⟩ := id mf
  refine g_aload_n (pc := 0) o 0 dX4_wants_0 rfl rfl ?_
  refine g_iload_n (pc := 1) o 1 dX4_wants_1 rfl rfl ?_
  refine g_V1i (pc := 2) o lkRX4_133 cmX4_isDistrict (cX4isDistrict mb) rfl (by omega) rfl rfl ⟨Nat.le_refl _, Nat.le_refl _⟩ dX4_wants_2 ?_
  refine g_if_ne (pc := 5) o 10 dX4_wants_5 (by decide) (fun q5 => ?_) (fun q5 => ?_)
  · have g := bi_nz.mp q5
    obtain ⟨j, hj, rfl⟩ := inn_of g (by omega)
    have loop : ∀ k c : Nat, c ≤ T 2 → T 2 < c + k → G (Λ, κ) 20 [some (.ref 96), some (.int (nI j)), some (.int (nI (cntN (fun i => T (14 + i) == j && cou T S i) c))), some (.int (nI (calN T S))), some (.int (nI c))] [] (n, M, Rf, Lg) 0 0 := by
      intro k
      induction k with
      | zero => intro c h1 h2; exact absurd h2 (by omega)
      | succ k ih =>
        intro c h1 h2
        refine g_iload (pc := 20) o dX4_wants_20 rfl ?_
        refine g_aload_n (pc := 22) o 0 dX4_wants_22 rfl rfl ?_
        refine g_getR (pc := 23) o flRX4_13 rfl (by omega) y3 dX4_wants_23 ?_
        refine g_iconst (pc := 26) (v := 2) o dX4_wants_26 (by decide) ?_
        refine g_iald (pc := 27) o (2) rfl (by omega) rfl (by omega) dX4_wants_27 ?_
        refine g_icmp_ge (pc := 28) o 83 dX4_wants_28 (by decide) (fun q28 => ?_) (fun q28 => ?_)
        · have ec : c = T 2 := by have := (le_N (a := T 2) (b := c) (by omega) (by omega) (hT 2 (by decide)) rfl).mp q28; omega
          refine g_iload_n (pc := 83) o 2 dX4_wants_83 rfl rfl ?_
          exact g_iret (pc := 84) o f dX4_wants_84 rfl (by rw [ec, tbv_in hj (by omega)]; exact congrArg nI (want_pop t2)) rfl
        · have hc1 : c < T 2 := by have := mt (le_N (a := T 2) (b := c) (by omega) (by omega) (hT 2 (by decide)) rfl).mpr q28; omega
          have hx := tC c hc1
          have hc6 := calN6 (S := S) t2
          refine g_iload_n (pc := 31) o 2 dX4_wants_31 rfl rfl ?_
          refine g_aload_n (pc := 32) o 0 dX4_wants_32 rfl rfl ?_
          refine g_getR (pc := 33) o flRX4_13 rfl (by omega) y3 dX4_wants_33 ?_
          refine g_bipush (pc := 36) (v := 14) o dX4_wants_36 (by decide) ?_
          refine g_iload (pc := 38) o dX4_wants_38 rfl ?_
          refine g_iadd (pc := 40) o dX4_wants_40 ?_
          refine g_iald (pc := 41) o ((14 + c)) rfl (by omega) (nI_addE rfl rfl) (by omega) dX4_wants_41 ?_
          rw [hT (14 + c) (by omega)]
          refine g_iload_n (pc := 42) o 1 dX4_wants_42 rfl rfl ?_
          refine g_icmp_ne (pc := 43) o 74 dX4_wants_43 (by decide) (fun q43 => ?_) (fun q43 => ?_)
          · have g2 := mt (eq_N (by omega) (by omega) rfl rfl).mpr q43
            have e1 : (fun i => T (14 + i) == j && cou T S i) c = false := by simp [g2]
            refine g_iconst (pc := 74) (v := 0) o dX4_wants_74 (by decide) ?_
            refine g_iadd (pc := 75) o dX4_wants_75 ?_
            refine g_istore_n (pc := 76) o 2 dX4_wants_76 rfl rfl ?_
            refine g_incN (pc := 77) o (c) dX4_wants_77 rfl rfl ?_
            refine g_goto (pc := 80) o 20 dX4_wants_80 (by decide) ?_
            refine g_eq rfl ?_ rfl rfl (ih (c + 1) (by omega) (by omega))
            rw [show cntN (fun i => T (14 + i) == j && cou T S i) (c + 1) = cntN (fun i => T (14 + i) == j && cou T S i) c + bn ((fun i => T (14 + i) == j && cou T S i) c) from rfl, e1]
            first | (rw [show ∀ x, x + bn true = x + 1 from fun _ => rfl, nI_succ (cntN (fun i => T (14 + i) == j && cou T S i) c)]; rfl) | (rw [show ∀ x, x + bn false = x from fun _ => rfl]; rw [show ∀ x : Nat, nI x + 0 = nI x from fun x => Int32.add_zero _]; rfl)
          · have g2 := (eq_N (by omega) (by omega) rfl rfl).mp q43
            refine g_aload_n (pc := 46) o 0 dX4_wants_46 rfl rfl ?_
            refine g_iload (pc := 47) o dX4_wants_47 rfl ?_
            refine g_iload_n (pc := 49) o 3 dX4_wants_49 rfl rfl ?_
            refine g_iload (pc := 50) o dX4_wants_50 rfl ?_
            refine g_ishr (pc := 52) o dX4_wants_52 ?_
            refine g_iconst (pc := 53) (v := 1) o dX4_wants_53 (by decide) ?_
            refine g_iand (pc := 54) o dX4_wants_54 ?_
            rw [n_bit (by omega) (by omega)]
            refine g_iconst (pc := 55) (v := 1) o dX4_wants_55 (by decide) ?_
            refine g_icmp_ne (pc := 56) o 63 dX4_wants_56 (by decide) (fun q56 => ?_) (fun q56 => ?_)
            · have g1 : (calN T S).testBit c = false := by have h := mt bn_one.mpr q56; simpa using h
              have hb1 : (0 : Int32) = bi ((calN T S).testBit c = true) := (bi_f (by rw [g1]; decide)).symm
              refine g_iconst (pc := 63) (v := 0) o dX4_wants_63 (by decide) ?_
              refine g_V2i (pc := 64) o lkRX4_148 cmX4_could (by rw [hb1]; exact cX4could mb mf hc1) rfl (by omega) rfl rfl ⟨Nat.le_refl _, Nat.le_refl _⟩ dX4_wants_64 ?_
              refine g_if_eq (pc := 67) o 74 dX4_wants_67 (by decide) (fun q67 => ?_) (fun q67 => ?_)
              · have g3 := bi_z.mp q67
                have e1 : (fun i => T (14 + i) == j && cou T S i) c = false := by have := cou_f (ht := ht) hc1 g3; simp [this]
                refine g_iconst (pc := 74) (v := 0) o dX4_wants_74 (by decide) ?_
                refine g_iadd (pc := 75) o dX4_wants_75 ?_
                refine g_istore_n (pc := 76) o 2 dX4_wants_76 rfl rfl ?_
                refine g_incN (pc := 77) o (c) dX4_wants_77 rfl rfl ?_
                refine g_goto (pc := 80) o 20 dX4_wants_80 (by decide) ?_
                refine g_eq rfl ?_ rfl rfl (ih (c + 1) (by omega) (by omega))
                rw [show cntN (fun i => T (14 + i) == j && cou T S i) (c + 1) = cntN (fun i => T (14 + i) == j && cou T S i) c + bn ((fun i => T (14 + i) == j && cou T S i) c) from rfl, e1]
                first | (rw [show ∀ x, x + bn true = x + 1 from fun _ => rfl, nI_succ (cntN (fun i => T (14 + i) == j && cou T S i) c)]; rfl) | (rw [show ∀ x, x + bn false = x from fun _ => rfl]; rw [show ∀ x : Nat, nI x + 0 = nI x from fun x => Int32.add_zero _]; rfl)
              · have g3 := bi_nz.mp q67
                have e1 : (fun i => T (14 + i) == j && cou T S i) c = true := by have := cou_t (ht := ht) hc1 g3; simp [this, g2]
                refine g_iconst (pc := 70) (v := 1) o dX4_wants_70 (by decide) ?_
                refine g_goto (pc := 71) o 75 dX4_wants_71 (by decide) ?_
                refine g_iadd (pc := 75) o dX4_wants_75 ?_
                refine g_istore_n (pc := 76) o 2 dX4_wants_76 rfl rfl ?_
                refine g_incN (pc := 77) o (c) dX4_wants_77 rfl rfl ?_
                refine g_goto (pc := 80) o 20 dX4_wants_80 (by decide) ?_
                refine g_eq rfl ?_ rfl rfl (ih (c + 1) (by omega) (by omega))
                rw [show cntN (fun i => T (14 + i) == j && cou T S i) (c + 1) = cntN (fun i => T (14 + i) == j && cou T S i) c + bn ((fun i => T (14 + i) == j && cou T S i) c) from rfl, e1]
                first | (rw [show ∀ x, x + bn true = x + 1 from fun _ => rfl, nI_succ (cntN (fun i => T (14 + i) == j && cou T S i) c)]; rfl) | (rw [show ∀ x, x + bn false = x from fun _ => rfl]; rw [show ∀ x : Nat, nI x + 0 = nI x from fun x => Int32.add_zero _]; rfl)
            · have g1 : (calN T S).testBit c = true := bn_one.mp (by first | exact q56 | exact Decidable.not_not.mp q56)
              have hb1 : (1 : Int32) = bi ((calN T S).testBit c = true) := (bi_t g1).symm
              refine g_iconst (pc := 59) (v := 1) o dX4_wants_59 (by decide) ?_
              refine g_goto (pc := 60) o 64 dX4_wants_60 (by decide) ?_
              refine g_V2i (pc := 64) o lkRX4_148 cmX4_could (by rw [hb1]; exact cX4could mb mf hc1) rfl (by omega) rfl rfl ⟨Nat.le_refl _, Nat.le_refl _⟩ dX4_wants_64 ?_
              refine g_if_eq (pc := 67) o 74 dX4_wants_67 (by decide) (fun q67 => ?_) (fun q67 => ?_)
              · have g3 := bi_z.mp q67
                have e1 : (fun i => T (14 + i) == j && cou T S i) c = false := by have := cou_f (ht := ht) hc1 g3; simp [this]
                refine g_iconst (pc := 74) (v := 0) o dX4_wants_74 (by decide) ?_
                refine g_iadd (pc := 75) o dX4_wants_75 ?_
                refine g_istore_n (pc := 76) o 2 dX4_wants_76 rfl rfl ?_
                refine g_incN (pc := 77) o (c) dX4_wants_77 rfl rfl ?_
                refine g_goto (pc := 80) o 20 dX4_wants_80 (by decide) ?_
                refine g_eq rfl ?_ rfl rfl (ih (c + 1) (by omega) (by omega))
                rw [show cntN (fun i => T (14 + i) == j && cou T S i) (c + 1) = cntN (fun i => T (14 + i) == j && cou T S i) c + bn ((fun i => T (14 + i) == j && cou T S i) c) from rfl, e1]
                first | (rw [show ∀ x, x + bn true = x + 1 from fun _ => rfl, nI_succ (cntN (fun i => T (14 + i) == j && cou T S i) c)]; rfl) | (rw [show ∀ x, x + bn false = x from fun _ => rfl]; rw [show ∀ x : Nat, nI x + 0 = nI x from fun x => Int32.add_zero _]; rfl)
              · have g3 := bi_nz.mp q67
                have e1 : (fun i => T (14 + i) == j && cou T S i) c = true := by have := cou_t (ht := ht) hc1 g3; simp [this, g2]
                refine g_iconst (pc := 70) (v := 1) o dX4_wants_70 (by decide) ?_
                refine g_goto (pc := 71) o 75 dX4_wants_71 (by decide) ?_
                refine g_iadd (pc := 75) o dX4_wants_75 ?_
                refine g_istore_n (pc := 76) o 2 dX4_wants_76 rfl rfl ?_
                refine g_incN (pc := 77) o (c) dX4_wants_77 rfl rfl ?_
                refine g_goto (pc := 80) o 20 dX4_wants_80 (by decide) ?_
                refine g_eq rfl ?_ rfl rfl (ih (c + 1) (by omega) (by omega))
                rw [show cntN (fun i => T (14 + i) == j && cou T S i) (c + 1) = cntN (fun i => T (14 + i) == j && cou T S i) c + bn ((fun i => T (14 + i) == j && cou T S i) c) from rfl, e1]
                first | (rw [show ∀ x, x + bn true = x + 1 from fun _ => rfl, nI_succ (cntN (fun i => T (14 + i) == j && cou T S i) c)]; rfl) | (rw [show ∀ x, x + bn false = x from fun _ => rfl]; rw [show ∀ x : Nat, nI x + 0 = nI x from fun x => Int32.add_zero _]; rfl)
    refine g_iconst (pc := 10) (v := 0) o dX4_wants_10 (by decide) ?_
    refine g_istore_n (pc := 11) o 2 dX4_wants_11 rfl rfl ?_
    refine g_aload_n (pc := 12) o 0 dX4_wants_12 rfl rfl ?_
    refine g_V0i (pc := 13) o lkRX4_158 cmX4_calledNow (cX4calledNow mb) rfl (by omega) rfl rfl ⟨Nat.le_refl _, Nat.le_refl _⟩ dX4_wants_13 ?_
    refine g_istore_n (pc := 16) o 3 dX4_wants_16 rfl rfl ?_
    refine g_iconst (pc := 17) (v := 0) o dX4_wants_17 (by decide) ?_
    refine g_istore (pc := 18) o dX4_wants_18 rfl ?_
    exact loop (T 2 + 1) 0 (by omega) (by omega)
  · have g := bi_z.mp q5
    refine g_iconst (pc := 8) (v := -1) o dX4_wants_8 (by decide) ?_
    exact g_iret (pc := 9) o f dX4_wants_9 rfl (by rw [tbv_out g]) rfl

/-- the hours of a trial from the first on, as the reference has them -/
def soS (T S : Nat → Nat) : Nat → Nat := fun k => if k = 1 then 0 else if 3 ≤ k ∧ k < 9 then T (17 + k) else S k
def soR (T S : Nat → Nat) (x : Nat) : Nat → Nat → Nat
  | 0 => soS T S
  | i + 1 => stepS T (soR T S x i) (dif (wA T (soR T S x i) (-1)) (2 ^ x))
def soW (T S : Nat → Nat) (x i : Nat) : Nat := dif (wA T (soR T S x i) (-1)) (2 ^ x)
theorem soS_ok {T S : Nat → Nat} {b : Nat} (ht : okT T) (h : okS S (T 2) b) : okS (soS T S) (T 2) b := by
  obtain ⟨h0, h1, h2, hc⟩ := h
  obtain ⟨⟨t0, t0b⟩, t1, t2, t3, tD, tC, tN⟩ := ht
  refine ⟨?_, ?_, ?_, fun i hi => ⟨?_, ?_, ?_⟩⟩
  · exact h0
  · show (if 1 = 1 then 0 else _) < 8; rw [if_pos rfl]; decide
  · exact h2
  · unfold soS; rw [if_neg (by omega), if_pos (by omega), show 17 + (3 + i) = 20 + i by omega]; exact (tC i hi).2.1
  · unfold soS; rw [if_neg (by omega), if_neg (by omega)]; exact (hc i hi).2.1
  · unfold soS; rw [if_neg (by omega), if_neg (by omega)]; exact (hc i hi).2.2
theorem soR_ok {T S : Nat → Nat} {b x : Nat} (ht : okT T) (h : okS S (T 2) b) (i : Nat) : okS (soR T S x i) (T 2) (b + i) := by
  induction i with
  | zero => exact soS_ok ht h
  | succ i ih => exact step_ok _ ht.2.2.1 ih
theorem soW6 {T S : Nat → Nat} {x i : Nat} (h : T 2 ≤ 6) : soW T S x i < 64 := dif6 (wA6 h)
def soB (T S ch cm : Nat → Nat) (cn x : Nat) : Nat → Bool := allN (fun i => asC ch cm i (pop (soW T S x i)) cn)
theorem rn_rn (M : HM) (S S' : Nat → Nat) : rnM (rnM M S) S' = rnM M S' := rowM_rowM _ _ _ _ _
theorem so_0 {M : HM} {T S : Nat → Nat} (hT : mR M 98 56 T) (hS : mR M 100 21 S) : st2 (fun z j => if z = 100 ∧ 3 ≤ j ∧ j < 3 + 6 then M 98 (17 + j) else M z j) 100 1 0 = rnM M (soS T S) := by
  funext z j
  unfold st2 rnM rowM soS
  dsimp only
  by_cases hz : z = 100
  · subst hz
    by_cases j1 : j = 1
    · subst j1; simp; rfl
    · by_cases h39 : 3 ≤ j ∧ j < 9
      · simp [j1, h39, show j < 21 by omega]; exact hT (17 + j) (by omega)
      · by_cases h21 : j < 21
        · rw [if_neg (by omega), if_neg (by omega), if_pos ⟨rfl, h21⟩, if_neg j1, if_neg h39]; exact hS j h21
        · rw [if_neg (by omega), if_neg (by omega), if_neg (by omega)]
  · rw [if_neg (fun h => hz h.1), if_neg (fun h => hz h.1), if_neg (fun h => hz h.1)]
theorem MB.rn1 {b b' : Nat} {T S S' : Nat → Nat} (h : MB M Rf n T S b) (os : okS S' (T 2) b') (hb : b' ≤ 2000) : MB (rnM M S') Rf n T S' b' := ⟨h.1, h.2.1, h.2.2.1, h.2.2.2.1.kept (by rw [rn_ne _ _ (by decide)]), fun k hk => rowM_in _ _ _ hk, os, hb⟩
theorem MF.rn1 {hd dl : Nat} {nv sh di : Int32} {S' : Nat → Nat} (h : MF M hd nv sh di dl) : MF (rnM M S') hd nv sh di dl := h.kept (fun j _ _ => by rw [rn_ne _ _ (by decide)])
def soC (M : HM) (c : Nat) : HM := fun z j => if z = 100 ∧ 3 ≤ j ∧ j < 3 + c then M 98 (17 + j) else M z j
theorem soC_0 (M : HM) : soC M 0 = M := by
  funext z j; unfold soC; rw [if_neg (by omega)]
theorem soC_s (M : HM) (c : Nat) : st2 (soC M c) 100 (3 + c) (soC M c 98 (20 + c)) = soC M (c + 1) := by
  funext z j; unfold soC st2
  dsimp only
  by_cases e : z = 100 ∧ j = 3 + c
  · obtain ⟨rfl, rfl⟩ := e
    simp; rw [show 17 + (3 + c) = 20 + c by omega]
  · rw [if_neg e]
    by_cases g : z = 100 ∧ 3 ≤ j ∧ j < 3 + c
    · rw [if_pos g, if_pos (by omega)]
    · rw [if_neg g, if_neg (by omega)]
set_option maxHeartbeats 2000000 in
set_option maxRecDepth 20000 in
theorem cX4isSo {b : Nat} {T S : Nat → Nat} (mb : MB M Rf n T S b) (hb1 : b ≤ 1000) {dl x : Nat} (hx6 : x < 6) (mf : MF M 63 (-9) (nI x) (-9) dl) {cn : Nat} {ch cm : Nat → Nat} (hcn : M 96 11 = nI cn) (hc6 : cn ≤ 6) (hch : ∀ i, i < cn → M 104 i = nI (8 * ch i + cm i) ∧ ch i ≤ 20 ∧ cm i ≤ 6) : Ret Λ (d + 2) mX4_isSo [.ref 96] (n, M, Rf, Lg) (some (.int (bi (soB T S ch cm cn x 21 = true)))) (n, rnM M (soR T S x 21), Rf, Lg) 0 0 := by
  refine Ret.of rfl rfl rfl (fun κ o f hin => ?_)
  obtain ⟨rm, hn, ht, hT, hS, os, hb9⟩ := id mb
  obtain ⟨y1, y3, y4, y5, y6, y8, y9, y10, y21, y22, y23, y24⟩ := id rm
  obtain ⟨⟨t0, t0b⟩, t1, t2, t3, tD, tC, tN⟩ := id ht
  obtain ⟨os0, os1, os2, osc⟩ := id os
  have outer : ∀ (k i : Nat) (x3 x4), i ≤ 21 → 21 < i + k → G (Λ, κ) 42 [some (.ref 96), some (.int (bi (soB T S ch cm cn x i = true))), some (.int (nI i)), x3, x4] [] (n, rnM M (soR T S x i), Rf, Lg) 0 0 := by
    intro k
    induction k with
    | zero => intro i x3 x4 h1 h2; exact absurd h2 (by omega)
    | succ k ih =>
      intro i x3 x4 h1 h2
      refine g_iload_n (pc := 42) o 2 dX4_isSo_42 rfl rfl ?_
      refine g_bipush (pc := 43) (v := 21) o dX4_isSo_43 (by decide) ?_
      refine g_icmp_ge (pc := 45) o 128 dX4_isSo_45 (by decide) (fun q45 => ?_) (fun q45 => ?_)
      · have ei : i = 21 := by have := (le_N (a := 21) (b := i) (by omega) (by omega) rfl rfl).mp q45; omega
        refine g_iload_n (pc := 128) o 1 dX4_isSo_128 rfl rfl ?_
        exact g_iret (pc := 129) o f dX4_isSo_129 bi_nar (by rw [ei]) (hp_M (by rw [ei]))
      · have hi1 : i < 21 := by have := mt (le_N (a := 21) (b := i) (by omega) (by omega) rfl rfl).mpr q45; omega
        have mbi := mb.rn1 (soR_ok (x := x) ht os i) (by omega)
        have mfi := mf.rn1 (S' := soR T S x i)
        have h11 : rnM M (soR T S x i) 96 11 = nI cn := by rw [rn_ne _ _ (by decide)]; exact hcn
        have inner : ∀ k c : Nat, c ≤ cn → cn < c + k → G (Λ, κ) 60 [some (.ref 96), some (.int (bi (soB T S ch cm cn x i = true ∧ asC ch cm i (pop (soW T S x i)) c = true))), some (.int (nI i)), some (.int (nI (soW T S x i))), some (.int (nI c))] [] (n, rnM M (soR T S x i), Rf, Lg) 0 0 := by
          intro k
          induction k with
          | zero => intro c h1 h2; exact absurd h2 (by omega)
          | succ k ih2 =>
            intro c h1 h2
            refine g_iload (pc := 60) o dX4_isSo_60 rfl ?_
            refine g_aload_n (pc := 62) o 0 dX4_isSo_62 rfl rfl ?_
            refine g_getI (pc := 63) o flRX4_130 rfl (by omega) dX4_isSo_63 ?_
            refine g_icmp_ge (pc := 66) o 116 dX4_isSo_66 (by decide) (fun q66 => ?_) (fun q66 => ?_)
            · have ec : c = cn := by have := (le_N (a := cn) (b := c) (by omega) (by omega) h11 rfl).mp q66; omega
              refine g_aload_n (pc := 116) o 0 dX4_isSo_116 rfl rfl ?_
              refine g_iload_n (pc := 117) o 3 dX4_isSo_117 rfl rfl ?_
              refine g_V1i (pc := 118) o lkRX4_165 cmX4_goes (cX4goes mbi (by have := soW6 (S := S) (x := x) (i := i) t2; omega)) rfl (by omega) rfl rfl ⟨Nat.le_refl _, Nat.le_refl _⟩ dX4_isSo_118 ?_
              refine g_pop (pc := 121) o dX4_isSo_121 rfl ?_
              refine g_incN (pc := 122) o (i) dX4_isSo_122 rfl rfl ?_
              refine g_goto (pc := 125) o 42 dX4_isSo_125 (by decide) ?_
              rw [go_rn]
              refine g_eq rfl ?_ rfl rfl (ih (i + 1) (some (.int (nI (soW T S x i)))) (some (.int (nI c))) (by omega) (by omega))
              rw [bi_cong (p := soB T S ch cm cn x (i + 1) = true) (q := soB T S ch cm cn x i = true ∧ asC ch cm i (pop (soW T S x i)) c = true) (by rw [ec]; exact Bool.and_eq_true_iff)]
              rfl
            · have hc1 : c < cn := by have := mt (le_N (a := cn) (b := c) (by omega) (by omega) h11 rfl).mpr q66; omega
              have hx := hch c hc1
              have h104 : rnM M (soR T S x i) 104 c = nI (8 * ch c + cm c) := by rw [rn_ne _ _ (by decide)]; exact hx.1
              refine g_iload_n (pc := 69) o 1 dX4_isSo_69 rfl rfl ?_
              refine g_if_eq (pc := 70) o 108 dX4_isSo_70 (by decide) (fun q70 => ?_) (fun q70 => ?_)
              · have g0 := bi_z.mp q70
                have e1 : ¬ (soB T S ch cm cn x i = true ∧ asC ch cm i (pop (soW T S x i)) (c + 1) = true) := fun h => g0 ⟨h.1, asC_mono _ _ (by omega) h.2⟩
                refine g_iconst (pc := 108) (v := 0) o dX4_isSo_108 (by decide) ?_
                refine g_istore_n (pc := 109) o 1 dX4_isSo_109 rfl rfl ?_
                refine g_incN (pc := 110) o (c) dX4_isSo_110 rfl rfl ?_
                refine g_goto (pc := 113) o 60 dX4_isSo_113 (by decide) ?_
                refine g_eq rfl ?_ rfl rfl (ih2 (c + 1) (by omega) (by omega))
                first | (rw [bi_t e1]; rfl) | (rw [bi_f e1]; rfl) | (rw [bi_f e1, ← bi_f g0]; rfl)
              · have g0 := bi_nz.mp q70
                refine g_aload_n (pc := 73) o 0 dX4_isSo_73 rfl rfl ?_
                refine g_getR (pc := 74) o flRX4_32 rfl (by omega) y10 dX4_isSo_74 ?_
                refine g_iload (pc := 77) o dX4_isSo_77 rfl ?_
                refine g_iald (pc := 79) o (c) rfl (by omega) rfl (by omega) dX4_isSo_79 ?_
                refine g_bipush (pc := 80) (v := 8) o dX4_isSo_80 (by decide) ?_
                refine g_idiv (pc := 82) o dX4_isSo_82 (by decide) ?_
                rw [h104, show nI (8 * ch c + cm c) / 8 = nI ((8 * ch c + cm c) / 8) from pk_div (by omega) (by decide) (by decide), show (8 * ch c + cm c) / 8 = ch c by omega]
                refine g_iload_n (pc := 83) o 2 dX4_isSo_83 rfl rfl ?_
                refine g_icmp_ne (pc := 84) o 104 dX4_isSo_84 (by decide) (fun q84 => ?_) (fun q84 => ?_)
                · have g1 := mt (eq_N (by omega) (by omega) rfl rfl).mpr q84
                  have e1 : soB T S ch cm cn x i = true ∧ asC ch cm i (pop (soW T S x i)) (c + 1) = true := ⟨g0.1, by show (_ && _) = true; rw [g0.2]; simp [g1]⟩
                  refine g_iconst (pc := 104) (v := 1) o dX4_isSo_104 (by decide) ?_
                  refine g_goto (pc := 105) o 109 dX4_isSo_105 (by decide) ?_
                  refine g_istore_n (pc := 109) o 1 dX4_isSo_109 rfl rfl ?_
                  refine g_incN (pc := 110) o (c) dX4_isSo_110 rfl rfl ?_
                  refine g_goto (pc := 113) o 60 dX4_isSo_113 (by decide) ?_
                  refine g_eq rfl ?_ rfl rfl (ih2 (c + 1) (by omega) (by omega))
                  first | (rw [bi_t e1]; rfl) | (rw [bi_f e1]; rfl) | (rw [bi_f e1, ← bi_f g0]; rfl)
                · have g1 := (eq_N (by omega) (by omega) rfl rfl).mp q84
                  refine g_aload_n (pc := 87) o 0 dX4_isSo_87 rfl rfl ?_
                  refine g_getR (pc := 88) o flRX4_32 rfl (by omega) y10 dX4_isSo_88 ?_
                  refine g_iload (pc := 91) o dX4_isSo_91 rfl ?_
                  refine g_iald (pc := 93) o (c) rfl (by omega) rfl (by omega) dX4_isSo_93 ?_
                  refine g_bipush (pc := 94) (v := 8) o dX4_isSo_94 (by decide) ?_
                  refine g_irem (pc := 96) o dX4_isSo_96 (by decide) ?_
                  rw [h104, show nI (8 * ch c + cm c) - nI (8 * ch c + cm c) / 8 * 8 = nI ((8 * ch c + cm c) % 8) from pk_rem (by omega) (by decide) (by decide), show (8 * ch c + cm c) % 8 = cm c by omega]
                  refine g_iload_n (pc := 97) o 3 dX4_isSo_97 rfl rfl ?_
                  refine g_S1i (pc := 98) o lkRX4_155 cmX4_ones (cX4ones (by have := soW6 (S := S) (x := x) (i := i) t2; omega)) rfl rfl ⟨Nat.le_refl _, Nat.le_refl _⟩ dX4_isSo_98 ?_
                  refine g_icmp_ne (pc := 101) o 108 dX4_isSo_101 (by decide) (fun q101 => ?_) (fun q101 => ?_)
                  · have g2 := mt (eq_N (by omega) (by have := pop_le (soW T S x i); omega) rfl rfl).mpr q101
                    have e1 : ¬ (soB T S ch cm cn x i = true ∧ asC ch cm i (pop (soW T S x i)) (c + 1) = true) := fun h => by have h2 : (_ && _) = true := h.2; rw [g0.2] at h2; simp [g1, g2] at h2
                    refine g_iconst (pc := 108) (v := 0) o dX4_isSo_108 (by decide) ?_
                    refine g_istore_n (pc := 109) o 1 dX4_isSo_109 rfl rfl ?_
                    refine g_incN (pc := 110) o (c) dX4_isSo_110 rfl rfl ?_
                    refine g_goto (pc := 113) o 60 dX4_isSo_113 (by decide) ?_
                    refine g_eq rfl ?_ rfl rfl (ih2 (c + 1) (by omega) (by omega))
                    first | (rw [bi_t e1]; rfl) | (rw [bi_f e1]; rfl) | (rw [bi_f e1, ← bi_f g0]; rfl)
                  · have g2 := (eq_N (by omega) (by have := pop_le (soW T S x i); omega) rfl rfl).mp q101
                    have e1 : soB T S ch cm cn x i = true ∧ asC ch cm i (pop (soW T S x i)) (c + 1) = true := ⟨g0.1, by show (_ && _) = true; rw [g0.2]; simp [g1, g2]⟩
                    refine g_iconst (pc := 104) (v := 1) o dX4_isSo_104 (by decide) ?_
                    refine g_goto (pc := 105) o 109 dX4_isSo_105 (by decide) ?_
                    refine g_istore_n (pc := 109) o 1 dX4_isSo_109 rfl rfl ?_
                    refine g_incN (pc := 110) o (c) dX4_isSo_110 rfl rfl ?_
                    refine g_goto (pc := 113) o 60 dX4_isSo_113 (by decide) ?_
                    refine g_eq rfl ?_ rfl rfl (ih2 (c + 1) (by omega) (by omega))
                    first | (rw [bi_t e1]; rfl) | (rw [bi_f e1]; rfl) | (rw [bi_f e1, ← bi_f g0]; rfl)
        refine g_aload_n (pc := 48) o 0 dX4_isSo_48 rfl rfl ?_
        refine g_aload_n (pc := 49) o 0 dX4_isSo_49 rfl rfl ?_
        refine g_V0i (pc := 50) o lkRX4_158 cmX4_calledNow (cX4calledNow mbi) rfl (by omega) rfl rfl ⟨Nat.le_refl _, Nat.le_refl _⟩ dX4_isSo_50 ?_
        refine g_V1i (pc := 53) o lkRX4_162 cmX4_asleep (cX4asleep mbi mfi (by have := calN6 (S := soR T S x i) t2; omega)) rfl (by omega) rfl rfl ⟨Nat.le_refl _, Nat.le_refl _⟩ dX4_isSo_53 ?_
        rw [mSl_sh ht hx6]
        refine g_istore_n (pc := 56) o 3 dX4_isSo_56 rfl rfl ?_
        refine g_iconst (pc := 57) (v := 0) o dX4_isSo_57 (by decide) ?_
        refine g_istore (pc := 58) o dX4_isSo_58 rfl ?_
        have h9 := inner (cn + 1) 0 (by omega) (by omega)
        rw [show bi (soB T S ch cm cn x i = true ∧ asC ch cm i (pop (soW T S x i)) 0 = true) = bi (soB T S ch cm cn x i = true) from bi_cong ⟨fun h => h.1, fun h => ⟨h, rfl⟩⟩] at h9
        exact h9
  have loop : ∀ k c : Nat, c ≤ 6 → 6 < c + k → G (Λ, κ) 2 [some (.ref 96), some (.int (nI c)), none, none, none] [] (n, soC M c, Rf, Lg) 0 0 := by
    intro k
    induction k with
    | zero => intro c h1 h2; exact absurd h2 (by omega)
    | succ k ih =>
      intro c h1 h2
      refine g_iload_n (pc := 2) o 1 dX4_isSo_2 rfl rfl ?_
      refine g_bipush (pc := 3) (v := 6) o dX4_isSo_3 (by decide) ?_
      refine g_icmp_ge (pc := 5) o 31 dX4_isSo_5 (by decide) (fun q5 => ?_) (fun q5 => ?_)
      · have ec : c = 6 := by have := (le_N (a := 6) (b := c) (by omega) (by omega) rfl rfl).mp q5; omega
        refine g_aload_n (pc := 31) o 0 dX4_isSo_31 rfl rfl ?_
        refine g_getR (pc := 32) o flRX4_19 rfl (by omega) y5 dX4_isSo_32 ?_
        refine g_iconst (pc := 35) (v := 1) o dX4_isSo_35 (by decide) ?_
        refine g_iconst (pc := 36) (v := 0) o dX4_isSo_36 (by decide) ?_
        refine g_iast (pc := 37) o (1) rfl (by omega) rfl (by omega) dX4_isSo_37 ?_
        refine g_iconst (pc := 38) (v := 1) o dX4_isSo_38 (by decide) ?_
        refine g_istore_n (pc := 39) o 1 dX4_isSo_39 rfl rfl ?_
        refine g_iconst (pc := 40) (v := 0) o dX4_isSo_40 (by decide) ?_
        refine g_istore_n (pc := 41) o 2 dX4_isSo_41 rfl rfl ?_
        subst ec
        have e0 : st2 (soC M 6) 100 1 0 = rnM M (soS T S) := so_0 hT hS
        rw [e0]
        exact outer 22 0 none none (by omega) (by omega)
      · have hc1 : c < 6 := by have := mt (le_N (a := 6) (b := c) (by omega) (by omega) rfl rfl).mpr q5; omega
        refine g_aload_n (pc := 8) o 0 dX4_isSo_8 rfl rfl ?_
        refine g_getR (pc := 9) o flRX4_19 rfl (by omega) y5 dX4_isSo_9 ?_
        refine g_iconst (pc := 12) (v := 3) o dX4_isSo_12 (by decide) ?_
        refine g_iload_n (pc := 13) o 1 dX4_isSo_13 rfl rfl ?_
        refine g_iadd (pc := 14) o dX4_isSo_14 ?_
        refine g_aload_n (pc := 15) o 0 dX4_isSo_15 rfl rfl ?_
        refine g_getR (pc := 16) o flRX4_13 rfl (by omega) y3 dX4_isSo_16 ?_
        refine g_bipush (pc := 19) (v := 20) o dX4_isSo_19 (by decide) ?_
        refine g_iload_n (pc := 21) o 1 dX4_isSo_21 rfl rfl ?_
        refine g_iadd (pc := 22) o dX4_isSo_22 ?_
        refine g_iald (pc := 23) o ((20 + c)) rfl (by omega) (nI_addE rfl rfl) (by omega) dX4_isSo_23 ?_
        refine g_iast (pc := 24) o ((3 + c)) rfl (by omega) (nI_addE rfl rfl) (by omega) dX4_isSo_24 ?_
        refine g_incN (pc := 25) o (c) dX4_isSo_25 rfl rfl ?_
        refine g_goto (pc := 28) o 2 dX4_isSo_28 (by decide) ?_
        exact g_eq rfl rfl rfl (hp_M (soC_s M c)) (ih (c + 1) (by omega) (by omega))
  refine g_iconst (pc := 0) (v := 0) o dX4_isSo_0 (by decide) ?_
  refine g_istore_n (pc := 1) o 1 dX4_isSo_1 rfl rfl ?_
  have h9 := loop 7 0 (by omega) (by omega)
  rw [soC_0] at h9
  exact h9

end M23
