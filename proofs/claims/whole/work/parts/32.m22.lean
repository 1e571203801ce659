section M22
variable {Λ : PL} {d n : Nat} {M : HM} {Rf : HR} {Lg : HL}

def hldM (M : HM) : HM := rowM M 105 21 (fun j => M 100 j)
/-- the hours put into the row -/
def rnM (M : HM) (S : Nat → Nat) : HM := rowM M 100 21 (fun j => nI (S j))
theorem rowM_rowM (M : HM) (a N : Nat) (f g : Nat → Int32) : rowM (rowM M a N f) a N g = rowM M a N g := by
  funext z j; unfold rowM; by_cases h : z = a ∧ j < N
  · rw [if_pos h, if_pos h]
  · rw [if_neg h, if_neg h, if_neg h]
theorem rowM_self {M : HM} {a N : Nat} {f : Nat → Int32} (h : ∀ j, j < N → M a j = f j) : rowM M a N f = M := by
  funext z j; unfold rowM; by_cases q : z = a ∧ j < N
  · rw [if_pos q, q.1, h j q.2]
  · rw [if_neg q]
theorem go_rn (M : HM) (T S S' : Nat → Nat) (w : Nat) : goM (rnM M S') T S w = rnM M (stepS T S w) := rowM_rowM _ _ _ _ _
theorem rn_ne (M : HM) (S : Nat → Nat) {z : Nat} (h : z ≠ 100) : rnM M S z = M z := by funext j; exact rowM_ne _ _ _ h j
theorem hld_ne (M : HM) {z : Nat} (h : z ≠ 105) : hldM M z = M z := by funext j; exact rowM_ne _ _ _ h j
theorem lets_rn {M : HM} {S S' : Nat → Nat} (h : mR M 100 21 S) : rowM (rnM (hldM M) S') 100 21 (fun j => rnM (hldM M) S' 105 j) = hldM M := by
  unfold rnM
  rw [rowM_rowM]
  refine rowM_self (fun j hj => ?_)
  rw [rowM_ne _ _ _ (by decide)]
  unfold hldM
  rw [rowM_ne _ _ _ (by decide), rowM_in _ _ _ hj]
theorem MB.rn {b b' : Nat} {T S S' : Nat → Nat} (h : MB M Rf n T S b) (os : okS S' (T 2) b') (hb : b' ≤ 2000) : MB (rnM (hldM M) S') Rf n T S' b' := ⟨h.1, h.2.1, h.2.2.1, h.2.2.2.1.kept (by rw [rn_ne _ _ (by decide), hld_ne _ (by decide)]), fun k hk => rowM_in _ _ _ hk, os, hb⟩
theorem MF.rn {hd dl : Nat} {nv sh di : Int32} {S' : Nat → Nat} (h : MF M hd nv sh di dl) : MF (rnM (hldM M) S') hd nv sh di dl := h.kept (fun j _ _ => by rw [rn_ne _ _ (by decide), hld_ne _ (by decide)])
theorem rn_self {M : HM} {S : Nat → Nat} (h : mR M 100 21 S) : rnM (hldM M) S = hldM M := rowM_self (fun j hj => by rw [hld_ne _ (by decide)]; exact h j hj)
theorem hld_hld (M : HM) : hldM (hldM M) = hldM M := by
  unfold hldM
  rw [rowM_rowM]
  congr 1

def inM (M : HM) (v : Int32) : HM := if inn v 81 then hldM M else M
set_option maxHeartbeats 2000000 in
set_option maxRecDepth 20000 in
theorem cX4asleepIn {b : Nat} {T S : Nat → Nat} (mb : MB M Rf n T S b) (hb1 : b ≤ 1000) {dl : Nat} (mf : MF M 63 (-9) (-9) (-9) dl) {v : Int32} : Ret Λ (d + 2) mX4_asleepIn [.ref 96, .int v] (n, M, Rf, Lg) (some (.int (aAsleepIn T S v))) (n, inM M v, Rf, Lg) 0 0 := by
  refine Ret.of rfl rfl rfl (fun κ o f hin => ?_)
  obtain ⟨rm, hn, ht, hT, hS, os, hb9⟩ := id mb
  obtain ⟨y1, y3, y4, y5, y6, y8, y9, y10, y21, y22, y23, y24⟩ := id rm
  obtain ⟨⟨t0, t0b⟩, t1, t2, t3, tD, tC, tN⟩ := id ht
  obtain ⟨os0, os1, os2, osc⟩ := id os
  refine g_iload_n (pc := 0) o 1 dX4_asleepIn_0 rfl rfl ?_
  refine g_iconst (pc := 1) (v := 0) o dX4_asleepIn_1 (by decide) ?_
  refine g_bipush (pc := 2) (v := 80) o dX4_asleepIn_2 (by decide) ?_
  refine g_S3i (pc := 4) o lkRX4_67 cmX4_in (cX4inN 81 (by decide) rfl) rfl rfl ⟨Nat.le_refl _, Nat.le_refl _⟩ dX4_asleepIn_4 ?_
  refine g_if_ne (pc := 7) o 12 dX4_asleepIn_7 (by decide) (fun q7 => ?_) (fun q7 => ?_)
  · have g := bi_nz.mp q7
    obtain ⟨k9, hk9, rfl⟩ := inn_of g (by omega)
    have loop : ∀ k c : Nat, c ≤ k9 → k9 < c + k → G (Λ, κ) 18 [some (.ref 96), some (.int (nI k9)), some (.int (nI c))] [] (n, rnM (hldM M) (runS T (-1) S c), Rf, Lg) 0 0 := by
      intro k
      induction k with
      | zero => intro c h1 h2; exact absurd h2 (by omega)
      | succ k ih =>
        intro c h1 h2
        refine g_iload_n (pc := 18) o 2 dX4_asleepIn_18 rfl rfl ?_
        refine g_iload_n (pc := 19) o 1 dX4_asleepIn_19 rfl rfl ?_
        have mbc := mb.rn (run_ok (-1) t2 os c) (by omega)
        have mfc := mf.rn (S' := runS T (-1) S c)
        refine g_icmp_ge (pc := 20) o 42 dX4_asleepIn_20 (by decide) (fun q20 => ?_) (fun q20 => ?_)
        · have ec : c = k9 := by have := (le_N (a := k9) (b := c) (by omega) (by omega) rfl rfl).mp q20; omega
          refine g_aload_n (pc := 42) o 0 dX4_asleepIn_42 rfl rfl ?_
          refine g_aload_n (pc := 43) o 0 dX4_asleepIn_43 rfl rfl ?_
          refine g_V0i (pc := 44) o lkRX4_158 cmX4_calledNow (cX4calledNow mbc) rfl (by omega) rfl rfl ⟨Nat.le_refl _, Nat.le_refl _⟩ dX4_asleepIn_44 ?_
          refine g_V1i (pc := 47) o lkRX4_162 cmX4_asleep (cX4asleep mbc mfc (by have := calN6 (S := runS T (-1) S c) t2; omega)) rfl (by omega) rfl rfl ⟨Nat.le_refl _, Nat.le_refl _⟩ dX4_asleepIn_47 ?_
          refine g_istore_n (pc := 50) o 2 dX4_asleepIn_50 rfl rfl ?_
          refine g_aload_n (pc := 51) o 0 dX4_asleepIn_51 rfl rfl ?_
          refine g_V0v (pc := 52) o lkRX4_171 cmX4_lets (cX4lets rm hn) rfl (by omega) rfl rfl ⟨Nat.le_refl _, Nat.le_refl _⟩ dX4_asleepIn_52 ?_
          refine g_iload_n (pc := 55) o 2 dX4_asleepIn_55 rfl rfl ?_
          exact g_iret (pc := 56) o f dX4_asleepIn_56 rfl (by unfold aAsleepIn; rw [if_pos g, nI_clamp (by omega), mSl_1 ht, ec]) (hp_M (by rw [lets_rn hS]; unfold inM; rw [if_pos g]))
        · have hc1 : c < k9 := by have := mt (le_N (a := k9) (b := c) (by omega) (by omega) rfl rfl).mpr q20; omega
          refine g_aload_n (pc := 23) o 0 dX4_asleepIn_23 rfl rfl ?_
          refine g_aload_n (pc := 24) o 0 dX4_asleepIn_24 rfl rfl ?_
          refine g_aload_n (pc := 25) o 0 dX4_asleepIn_25 rfl rfl ?_
          refine g_V0i (pc := 26) o lkRX4_158 cmX4_calledNow (cX4calledNow mbc) rfl (by omega) rfl rfl ⟨Nat.le_refl _, Nat.le_refl _⟩ dX4_asleepIn_26 ?_
          refine g_V1i (pc := 29) o lkRX4_162 cmX4_asleep (cX4asleep mbc mfc (by have := calN6 (S := runS T (-1) S c) t2; omega)) rfl (by omega) rfl rfl ⟨Nat.le_refl _, Nat.le_refl _⟩ dX4_asleepIn_29 ?_
          refine g_V1i (pc := 32) o lkRX4_165 cmX4_goes (cX4goes mbc (by have := mSl6 (S := runS T (-1) S c) (hd := 63) (nv := -9) (sh := -9) (di := -9) (dl := dl) (cal := calN T (runS T (-1) S c)) t2; omega)) rfl (by omega) rfl rfl ⟨Nat.le_refl _, Nat.le_refl _⟩ dX4_asleepIn_32 ?_
          refine g_pop (pc := 35) o dX4_asleepIn_35 rfl ?_
          refine g_incN (pc := 36) o (c) dX4_asleepIn_36 rfl rfl ?_
          refine g_goto (pc := 39) o 18 dX4_asleepIn_39 (by decide) ?_
          refine g_eq rfl rfl rfl (hp_M ?_) (ih (c + 1) (by omega) (by omega))
          rw [go_rn, mSl_1 ht]; rfl
    refine g_aload_n (pc := 12) o 0 dX4_asleepIn_12 rfl rfl ?_
    refine g_V0v (pc := 13) o lkRX4_168 cmX4_holds (cX4holds rm hn) rfl (by omega) rfl rfl ⟨Nat.le_refl _, Nat.le_refl _⟩ dX4_asleepIn_13 ?_
    refine g_iconst (pc := 16) (v := 0) o dX4_asleepIn_16 (by decide) ?_
    refine g_istore_n (pc := 17) o 2 dX4_asleepIn_17 rfl rfl ?_
    have h9 := loop (k9 + 1) 0 (by omega) (by omega)
    rw [show runS T (-1) S 0 = S from rfl, rn_self hS] at h9
    exact h9
  · have g := bi_z.mp q7
    refine g_iconst (pc := 10) (v := -1) o dX4_asleepIn_10 (by decide) ?_
    exact g_iret (pc := 11) o f dX4_asleepIn_11 rfl (by unfold aAsleepIn; rw [if_neg g]) (hp_M (by unfold inM; rw [if_neg g]))

set_option maxHeartbeats 2000000 in
set_option maxRecDepth 20000 in
theorem cX4lapseIn {b : Nat} {T S : Nat → Nat} (mb : MB M Rf n T S b) (hb1 : b ≤ 1000) {dl : Nat} {nv ab : Int32} (mf : MF M 63 nv (-9) (-9) dl) (hab : ∀ i, i < T 2 → (nI i = nv ↔ nI i = ab)) {k9 : Nat} (hk9 : k9 < 900) : Ret Λ (d + 2) mX4_lapseIn [.ref 96, .int (nI k9)] (n, M, Rf, Lg) (some (.int (frs T ab S 0 k9))) (n, hldM M, Rf, Lg) 0 0 := by
  refine Ret.of rfl rfl rfl (fun κ o f hin => ?_)
  obtain ⟨rm, hn, ht, hT, hS, os, hb9⟩ := id mb
  obtain ⟨y1, y3, y4, y5, y6, y8, y9, y10, y21, y22, y23, y24⟩ := id rm
  obtain ⟨⟨t0, t0b⟩, t1, t2, t3, tD, tC, tN⟩ := id ht
  obtain ⟨os0, os1, os2, osc⟩ := id os
  have fin : ∀ (v : Int32) (c : Nat), v = frs T ab S 0 k9 → G (Λ, κ) 47 [some (.ref 96), some (.int (nI k9)), some (.int v), some (.int (nI c))] [] (n, rnM (hldM M) (runS T ab S c), Rf, Lg) 0 0 := by
    intro v c hv
    refine g_aload_n (pc := 47) o 0 dX4_lapseIn_47 rfl rfl ?_
    refine g_V0v (pc := 48) o lkRX4_171 cmX4_lets (cX4lets rm hn) rfl (by omega) rfl rfl ⟨Nat.le_refl _, Nat.le_refl _⟩ dX4_lapseIn_48 ?_
    refine g_iload_n (pc := 51) o 2 dX4_lapseIn_51 rfl rfl ?_
    exact g_iret (pc := 52) o f dX4_lapseIn_52 rfl hv (hp_M (lets_rn hS))
  have out1 : ∀ c : Nat, frs T ab S 0 k9 = nI c → c < k9 → G (Λ, κ) 9 [some (.ref 96), some (.int (nI k9)), some (.int (nI c)), some (.int (nI (c + 1)))] [] (n, rnM (hldM M) (runS T ab S (c + 1)), Rf, Lg) 0 0 := by
    intro c hv hck
    refine g_iload_n (pc := 9) o 3 dX4_lapseIn_9 rfl rfl ?_
    refine g_iload_n (pc := 10) o 1 dX4_lapseIn_10 rfl rfl ?_
    refine g_icmp_ge (pc := 11) o 47 dX4_lapseIn_11 (by decide) (fun q11 => ?_) (fun q11 => ?_)
    · exact fin _ (c + 1) hv.symm
    · refine g_iload_n (pc := 14) o 2 dX4_lapseIn_14 rfl rfl ?_
      refine g_bipush (pc := 15) (v := -9) o dX4_lapseIn_15 (by decide) ?_
      refine g_icmp_ne (pc := 17) o 47 dX4_lapseIn_17 (by decide) (fun q17 => ?_) (fun q17 => ?_)
      · exact fin _ (c + 1) hv.symm
      · exact absurd (by first | exact q17 | exact Decidable.not_not.mp q17) (ne9 (show c < 1000 by omega))
  have loop : ∀ k c : Nat, c ≤ k9 → k9 < c + k → frs T ab S 0 k9 = frs T ab S c (k9 - c) → G (Λ, κ) 9 [some (.ref 96), some (.int (nI k9)), some (.int (-9)), some (.int (nI c))] [] (n, rnM (hldM M) (runS T ab S c), Rf, Lg) 0 0 := by
    intro k
    induction k with
    | zero => intro c h1 h2; exact absurd h2 (by omega)
    | succ k ih =>
      intro c h1 h2 hf
      refine g_iload_n (pc := 9) o 3 dX4_lapseIn_9 rfl rfl ?_
      refine g_iload_n (pc := 10) o 1 dX4_lapseIn_10 rfl rfl ?_
      refine g_icmp_ge (pc := 11) o 47 dX4_lapseIn_11 (by decide) (fun q11 => ?_) (fun q11 => ?_)
      · have ec : c = k9 := by have := (le_N (a := k9) (b := c) (by omega) (by omega) rfl rfl).mp q11; omega
        exact fin _ c (by rw [hf, ec, Nat.sub_self]; rfl)
      · have hc1 : c < k9 := by have := mt (le_N (a := k9) (b := c) (by omega) (by omega) rfl rfl).mpr q11; omega
        have mbc := mb.rn (run_ok ab t2 os c) (by omega)
        have mfc := mf.rn (S' := runS T ab S c)
        refine g_iload_n (pc := 14) o 2 dX4_lapseIn_14 rfl rfl ?_
        refine g_bipush (pc := 15) (v := -9) o dX4_lapseIn_15 (by decide) ?_
        refine g_icmp_ne (pc := 17) o 47 dX4_lapseIn_17 (by decide) (fun q17 => ?_) (fun q17 => ?_)
        · exact absurd rfl q17
        · refine g_aload_n (pc := 20) o 0 dX4_lapseIn_20 rfl rfl ?_
          refine g_aload_n (pc := 21) o 0 dX4_lapseIn_21 rfl rfl ?_
          refine g_aload_n (pc := 22) o 0 dX4_lapseIn_22 rfl rfl ?_
          refine g_V0i (pc := 23) o lkRX4_158 cmX4_calledNow (cX4calledNow mbc) rfl (by omega) rfl rfl ⟨Nat.le_refl _, Nat.le_refl _⟩ dX4_lapseIn_23 ?_
          refine g_V1i (pc := 26) o lkRX4_162 cmX4_asleep (cX4asleep mbc mfc (by have := calN6 (S := runS T ab S c) t2; omega)) rfl (by omega) rfl rfl ⟨Nat.le_refl _, Nat.le_refl _⟩ dX4_lapseIn_26 ?_
          refine g_V1i (pc := 29) o lkRX4_165 cmX4_goes (cX4goes mbc (by have := mSl6 (S := runS T ab S c) (hd := 63) (nv := nv) (sh := -9) (di := -9) (dl := dl) (cal := calN T (runS T ab S c)) t2; omega)) rfl (by omega) rfl rfl ⟨Nat.le_refl _, Nat.le_refl _⟩ dX4_lapseIn_29 ?_
          rw [mSl_wA ht hab, go_rn, show stepS T (runS T ab S c) (wA T (runS T ab S c) ab) = runS T ab S (c + 1) from rfl]
          refine g_if_eq (pc := 32) o 39 dX4_lapseIn_32 (by decide) (fun q32 => ?_) (fun q32 => ?_)
          · have g := bi_z.mp q32
            have e2 : frs T ab S c (k9 - c) = frs T ab S (c + 1) (k9 - (c + 1)) := by rw [show k9 - c = (k9 - (c + 1)) + 1 by omega]; exact if_neg g
            refine g_iload_n (pc := 39) o 2 dX4_lapseIn_39 rfl rfl ?_
            refine g_istore_n (pc := 40) o 2 dX4_lapseIn_40 rfl rfl ?_
            refine g_incN (pc := 41) o (c) dX4_lapseIn_41 rfl rfl ?_
            refine g_goto (pc := 44) o 9 dX4_lapseIn_44 (by decide) ?_
            first | exact ih (c + 1) (by omega) (by omega) (hf.trans e2) | exact out1 c (hf.trans e2) hc1
          · have g := bi_nz.mp q32
            have e2 : frs T ab S c (k9 - c) = nI c := by rw [show k9 - c = (k9 - (c + 1)) + 1 by omega]; exact if_pos g
            refine g_iload_n (pc := 35) o 3 dX4_lapseIn_35 rfl rfl ?_
            refine g_goto (pc := 36) o 40 dX4_lapseIn_36 (by decide) ?_
            refine g_istore_n (pc := 40) o 2 dX4_lapseIn_40 rfl rfl ?_
            refine g_incN (pc := 41) o (c) dX4_lapseIn_41 rfl rfl ?_
            refine g_goto (pc := 44) o 9 dX4_lapseIn_44 (by decide) ?_
            first | exact ih (c + 1) (by omega) (by omega) (hf.trans e2) | exact out1 c (hf.trans e2) hc1
  refine g_aload_n (pc := 0) o 0 dX4_lapseIn_0 rfl rfl ?_
  refine g_V0v (pc := 1) o lkRX4_168 cmX4_holds (cX4holds rm hn) rfl (by omega) rfl rfl ⟨Nat.le_refl _, Nat.le_refl _⟩ dX4_lapseIn_1 ?_
  refine g_bipush (pc := 4) (v := -9) o dX4_lapseIn_4 (by decide) ?_
  refine g_istore_n (pc := 6) o 2 dX4_lapseIn_6 rfl rfl ?_
  refine g_iconst (pc := 7) (v := 0) o dX4_lapseIn_7 (by decide) ?_
  refine g_istore_n (pc := 8) o 3 dX4_lapseIn_8 rfl rfl ?_
  have h9 := loop (k9 + 1) 0 (by omega) (by omega) rfl
  rw [show runS T ab S 0 = S from rfl, rn_self hS] at h9
  exact h9

set_option maxHeartbeats 2000000 in
set_option maxRecDepth 20000 in
theorem cX4lapse {b : Nat} {T S : Nat → Nat} (mb : MB M Rf n T S b) (hb1 : b ≤ 1000) {dl : Nat} (mf : MF M 63 (-9) (-9) (-9) dl) : Ret Λ (d + 3) mX4_lapse [.ref 96] (n, M, Rf, Lg) (some (.int (frs T (-1) S 0 81))) (n, hldM M, Rf, Lg) 0 0 := by
  refine Ret.of rfl rfl rfl (fun κ o f hin => ?_)
  obtain ⟨rm, hn, ht, hT, hS, os, hb9⟩ := id mb
  obtain ⟨y1, y3, y4, y5, y6, y8, y9, y10, y21, y22, y23, y24⟩ := id rm
  obtain ⟨⟨t0, t0b⟩, t1, t2, t3, tD, tC, tN⟩ := id ht
  obtain ⟨os0, os1, os2, osc⟩ := id os
  refine g_aload_n (pc := 0) o 0 dX4_lapse_0 rfl rfl ?_
  refine g_bipush (pc := 1) (v := 81) o dX4_lapse_1 (by decide) ?_
  refine g_V1i (pc := 3) o lkRX4_174 cmX4_lapseIn (cX4lapseIn mb hb1 mf (n1i ht) (k9 := 81) (by decide)) rfl (by omega) rfl rfl ⟨Nat.le_refl _, Nat.le_refl _⟩ dX4_lapse_3 ?_
  exact g_iret (pc := 6) o f dX4_lapse_6 rfl rfl rfl

theorem st2_st2 {α : Type} (M : Nat → Nat → α) (k j : Nat) (v v2 : α) : st2 (st2 M k j v) k j v2 = st2 M k j v2 := by
  funext x y; unfold st2; by_cases h : x = k ∧ y = j
  · rw [if_pos h, if_pos h]
  · rw [if_neg h, if_neg h]; exact (if_neg h).symm
theorem st2_self {α : Type} (M : Nat → Nat → α) (k j : Nat) : st2 M k j (M k j) = M := by
  funext x y; unfold st2; by_cases h : x = k ∧ y = j
  · rw [if_pos h, h.1, h.2]
  · rw [if_neg h]
theorem hld_st (M : HM) (j : Nat) (v : Int32) : hldM (st2 M 96 j v) = st2 (hldM M) 96 j v := by
  funext x y; unfold hldM rowM st2; grind
set_option maxHeartbeats 2000000 in
set_option maxRecDepth 20000 in
theorem cX4bears {b : Nat} {T S : Nat → Nat} (mb : MB M Rf n T S b) (hb1 : b ≤ 1000) {dl : Nat} (mf : MF M 63 (-9) (-9) (-9) dl) : Ret Λ (d + 3) mX4_bears [.ref 96] (n, M, Rf, Lg) (some (.int (aBears T S))) (n, hldM M, Rf, Lg) 0 0 := by
  refine Ret.of rfl rfl rfl (fun κ o f hin => ?_)
  obtain ⟨rm, hn, ht, hT, hS, os, hb9⟩ := id mb
  obtain ⟨y1, y3, y4, y5, y6, y8, y9, y10, y21, y22, y23, y24⟩ := id rm
  obtain ⟨⟨t0, t0b⟩, t1, t2, t3, tD, tC, tN⟩ := id ht
  obtain ⟨os0, os1, os2, osc⟩ := id os
  obtain ⟨f16, hd6, f17, f18, f19, f20, hdl⟩ := id mf
  have mbh : ∀ (y y2 : Int32), MB (st2 (st2 (hldM M) 96 17 y) 96 17 y2) Rf n T S b := fun y y2 => mb.kept (by rw [st2_ne _ _ _ (by decide), st2_ne _ _ _ (by decide), hld_ne _ (by decide)]) (by rw [st2_ne _ _ _ (by decide), st2_ne _ _ _ (by decide), hld_ne _ (by decide)])
  have mfh : ∀ (y y2 : Int32), MF (st2 (st2 (hldM M) 96 17 y) 96 17 y2) 63 y2 (-9) (-9) dl := by
    intro y y2
    have e : ∀ j, j ≠ 17 → st2 (st2 (hldM M) 96 17 y) 96 17 y2 96 j = M 96 j := fun j hj => by rw [st2_ne2 _ _ (by omega), st2_ne2 _ _ (by omega), hld_ne _ (by decide)]
    unfold MF
    rw [e 16 (by decide), e 18 (by decide), e 19 (by decide), e 20 (by decide), st2_same]
    exact ⟨mf.1, mf.2.1, rfl, mf.2.2.2.1, mf.2.2.2.2.1, mf.2.2.2.2.2.1, mf.2.2.2.2.2.2⟩
  have loop : frs T (-1) S 0 8 = -9 → ∀ (k c : Nat) (y : Int32), c ≤ T 2 → T 2 < c + k → G (Λ, κ) 17 [some (.ref 96), some (.int (nI (mk (fun c => decide (frs T (nI c) S 0 8 = -9)) c))), some (.int (nI c))] [] (n, (st2 (hldM M) 96 17 y), Rf, Lg) 0 0 := by
    intro g0 k
    induction k with
    | zero => intro c y h1 h2; exact absurd h2 (by omega)
    | succ k ih =>
      intro c y h1 h2
      refine g_iload_n (pc := 17) o 2 dX4_bears_17 rfl rfl ?_
      refine g_aload_n (pc := 18) o 0 dX4_bears_18 rfl rfl ?_
      refine g_getR (pc := 19) o flRX4_13 rfl (by omega) y3 dX4_bears_19 ?_
      refine g_iconst (pc := 22) (v := 2) o dX4_bears_22 (by decide) ?_
      refine g_iald (pc := 23) o (2) rfl (by omega) rfl (by omega) dX4_bears_23 ?_
      refine g_icmp_ge (pc := 24) o 59 dX4_bears_24 (by decide) (fun q24 => ?_) (fun q24 => ?_)
      · have ec : c = T 2 := by have := (le_N (a := T 2) (b := c) (by omega) (by omega) (by rw [st2_ne2 _ _ (by omega), hld_ne _ (by decide)]; exact hT 2 (by decide)) rfl).mp q24; omega
        refine g_aload_n (pc := 59) o 0 dX4_bears_59 rfl rfl ?_
        refine g_bipush (pc := 60) (v := -9) o dX4_bears_60 (by decide) ?_
        refine g_putI (pc := 62) o flRX4_39 rfl rfl (by omega) rfl rfl dX4_bears_62 ?_
        refine g_iload_n (pc := 65) o 1 dX4_bears_65 rfl rfl ?_
        exact g_iret (pc := 66) o f dX4_bears_66 rfl (by rw [ec]; unfold aBears; rw [if_pos g0]) (hp_M (by rw [st2_st2, ← f17, ← hld_ne M (z := 96) (by decide), st2_self]))
      · have hc1 : c < T 2 := by have := mt (le_N (a := T 2) (b := c) (by omega) (by omega) (by rw [st2_ne2 _ _ (by omega), hld_ne _ (by decide)]; exact hT 2 (by decide)) rfl).mpr q24; omega
        refine g_aload_n (pc := 27) o 0 dX4_bears_27 rfl rfl ?_
        refine g_iload_n (pc := 28) o 2 dX4_bears_28 rfl rfl ?_
        refine g_putI (pc := 29) o flRX4_39 rfl rfl (by omega) rfl rfl dX4_bears_29 ?_
        refine g_iload_n (pc := 32) o 1 dX4_bears_32 rfl rfl ?_
        refine g_aload_n (pc := 33) o 0 dX4_bears_33 rfl rfl ?_
        refine g_bipush (pc := 34) (v := 8) o dX4_bears_34 (by decide) ?_
        refine g_V1i (pc := 36) o lkRX4_174 cmX4_lapseIn (cX4lapseIn (mbh y (nI c)) hb1 (mfh y (nI c)) (ab := nI c) (fun i _ => Iff.rfl) (k9 := 8) (by decide)) rfl (by omega) rfl rfl ⟨Nat.le_refl _, Nat.le_refl _⟩ dX4_bears_36 ?_
        refine g_bipush (pc := 39) (v := -9) o dX4_bears_39 (by decide) ?_
        refine g_icmp_ne (pc := 41) o 50 dX4_bears_41 (by decide) (fun q41 => ?_) (fun q41 => ?_)
        · have e1 := mk_f (p := fun c => decide (frs T (nI c) S 0 8 = -9)) (n := c) (by simpa using q41)
          refine g_iconst (pc := 50) (v := 0) o dX4_bears_50 (by decide) ?_
          refine g_ior (pc := 51) o dX4_bears_51 ?_
          refine g_istore_n (pc := 52) o 1 dX4_bears_52 rfl rfl ?_
          refine g_incN (pc := 53) o (c) dX4_bears_53 rfl rfl ?_
          refine g_goto (pc := 56) o 17 dX4_bears_56 (by decide) ?_
          refine g_eq rfl ?_ rfl (hp_M ?_) (ih (c + 1) (nI c) (by omega) (by omega))
          · first | (rw [e1, or0]; rfl) | (rw [← e1]; rfl)
          · rw [st2_st2, hld_st, hld_hld]
        · have e1 := mk_t (p := fun c => decide (frs T (nI c) S 0 8 = -9)) (n := c) (by simpa using q41) (by omega)
          refine g_iconst (pc := 44) (v := 1) o dX4_bears_44 (by decide) ?_
          refine g_iload_n (pc := 45) o 2 dX4_bears_45 rfl rfl ?_
          refine g_ishl (pc := 46) o dX4_bears_46 ?_
          refine g_goto (pc := 47) o 51 dX4_bears_47 (by decide) ?_
          refine g_ior (pc := 51) o dX4_bears_51 ?_
          refine g_istore_n (pc := 52) o 1 dX4_bears_52 rfl rfl ?_
          refine g_incN (pc := 53) o (c) dX4_bears_53 rfl rfl ?_
          refine g_goto (pc := 56) o 17 dX4_bears_56 (by decide) ?_
          refine g_eq rfl ?_ rfl (hp_M ?_) (ih (c + 1) (nI c) (by omega) (by omega))
          · first | (rw [e1, or0]; rfl) | (rw [← e1]; rfl)
          · rw [st2_st2, hld_st, hld_hld]
  refine g_aload_n (pc := 0) o 0 dX4_bears_0 rfl rfl ?_
  refine g_bipush (pc := 1) (v := 8) o dX4_bears_1 (by decide) ?_
  refine g_V1i (pc := 3) o lkRX4_174 cmX4_lapseIn (cX4lapseIn mb hb1 mf (n1i ht) (k9 := 8) (by decide)) rfl (by omega) rfl rfl ⟨Nat.le_refl _, Nat.le_refl _⟩ dX4_bears_3 ?_
  refine g_bipush (pc := 6) (v := -9) o dX4_bears_6 (by decide) ?_
  refine g_icmp_eq (pc := 8) o 13 dX4_bears_8 (by decide) (fun q8 => ?_) (fun q8 => ?_)
  · have g : frs T (-1) S 0 8 = -9 := q8
    refine g_iconst (pc := 13) (v := 0) o dX4_bears_13 (by decide) ?_
    refine g_istore_n (pc := 14) o 1 dX4_bears_14 rfl rfl ?_
    refine g_iconst (pc := 15) (v := 0) o dX4_bears_15 (by decide) ?_
    refine g_istore_n (pc := 16) o 2 dX4_bears_16 rfl rfl ?_
    have h9 := loop g (T 2 + 1) 0 (-9) (by omega) (by omega)
    rw [show st2 (hldM M) 96 17 (-9) = hldM M from by rw [← f17, ← hld_ne M (z := 96) (by decide), st2_self]] at h9
    exact h9
  · have g : ¬ frs T (-1) S 0 8 = -9 := q8
    refine g_iconst (pc := 11) (v := 0) o dX4_bears_11 (by decide) ?_
    exact g_iret (pc := 12) o f dX4_bears_12 rfl (by unfold aBears; rw [if_neg g]) rfl

end M22
