section M32
variable {Λ : PL} {d n : Nat} {M : HM} {Rf : HR} {Lg : HL}

def bgF (M : HM) (k : Nat) : Int32 := if 3 ≤ k ∧ k ≤ 8 then M 98 (17 + k) else 0
/-- the hours as they begin -/
def bgT (T : Nat → Nat) : Nat → Nat := fun k => if 3 ≤ k ∧ k < 9 then T (17 + k) else 0
def tlM (M : HM) : HM := st2 (st2 (st2 (st2 (rowM (rowM M 98 56 (fun j => M 99 j)) 100 21 (bgF (rowM M 98 56 (fun j => M 99 j)))) 96 7 0) 96 11 0) 103 0 0) 103 1 0
theorem tlM_ne (M : HM) {z : Nat} (h1 : z ≠ 96) (h2 : z ≠ 98) (h3 : z ≠ 100) (h4 : z ≠ 103) : tlM M z = M z := by
  funext j
  unfold tlM
  rw [st2_ne _ _ _ h4, st2_ne _ _ _ h4, st2_ne _ _ _ h1, st2_ne _ _ _ h1, rowM_ne _ _ _ h3, rowM_ne _ _ _ h2]
theorem tlM_96 (M : HM) {j : Nat} (h1 : j ≠ 7) (h2 : j ≠ 11) : tlM M 96 j = M 96 j := by
  unfold tlM
  rw [st2_ne _ _ _ (by decide), st2_ne _ _ _ (by decide), st2_ne2 _ _ (by omega), st2_ne2 _ _ (by omega), rowM_ne _ _ _ (by decide), rowM_ne _ _ _ (by decide)]
theorem tlM_98 {M : HM} {T : Nat → Nat} (h : mR M 99 56 T) : mR (tlM M) 98 56 T := by
  intro k hk
  unfold tlM
  rw [st2_ne _ _ _ (by decide), st2_ne _ _ _ (by decide), st2_ne _ _ _ (by decide), st2_ne _ _ _ (by decide), rowM_ne _ _ _ (by decide), rowM_in _ _ _ hk]
  exact h k hk
theorem tlM_100 {M : HM} {T : Nat → Nat} (h : mR M 99 56 T) : mR (tlM M) 100 21 (bgT T) := by
  intro k hk
  unfold tlM
  rw [st2_ne _ _ _ (by decide), st2_ne _ _ _ (by decide), st2_ne _ _ _ (by decide), st2_ne _ _ _ (by decide), rowM_in _ _ _ hk]
  unfold bgF bgT
  by_cases q : 3 ≤ k ∧ k ≤ 8
  · rw [if_pos q, if_pos (by omega), rowM_in _ _ _ (by omega)]; exact h (17 + k) (by omega)
  · rw [if_neg q, if_neg (by omega)]; rfl
theorem tlM_o (M : HM) : tlM M 96 7 = 0 ∧ tlM M 96 11 = 0 ∧ tlM M 103 0 = 0 ∧ tlM M 103 1 = 0 := by
  unfold tlM
  refine ⟨?_, ?_, ?_, ?_⟩
  · rw [st2_ne _ _ _ (by decide), st2_ne _ _ _ (by decide), st2_ne2 _ _ (by omega), st2_same]
  · rw [st2_ne _ _ _ (by decide), st2_ne _ _ _ (by decide), st2_same]
  · rw [st2_ne2 _ _ (by omega), st2_same]
  · rw [st2_same]

theorem bgi {c : Nat} (h : 3 ≤ c) : (20 : Int32) + nI c - 3 = nI (17 + c) := by
  rw [show (20 : Int32) + nI c = nI (20 + c) from nI_addE rfl rfl, show 20 + c = 17 + c + 3 by omega, ← nI_add (17 + c) 3, show (3 : Int32) = nI 3 from rfl, Int32.add_sub_cancel]
set_option maxHeartbeats 2000000 in
set_option maxRecDepth 20000 in
theorem cX4begins (rm : RM Rf) (hn : 109 ≤ n) : Ret Λ (d + 1) mX4_begins [.ref 96] (n, M, Rf, Lg) none (n, rowM M 100 21 (bgF M), Rf, Lg) 0 0 := by
  refine Ret.of rfl rfl rfl (fun κ o f hin => ?_)
  obtain ⟨y1, y3, y4, y5, y6, y8, y9, y10, y21, y22, y23, y24⟩ := id rm
  have loop : ∀ k c : Nat, c ≤ 21 → 21 < c + k → G (Λ, κ) 2 [some (.ref 96), some (.int (nI c))] [] (n, rowM M 100 c (bgF M), Rf, Lg) 0 0 := by
    intro k
    induction k with
    | zero => intro c h1 h2; exact absurd h2 (by omega)
    | succ k ih =>
      intro c h1 h2
      refine g_iload_n (pc := 2) o 1 dX4_begins_2 rfl rfl ?_
      refine g_bipush (pc := 3) (v := 21) o dX4_begins_3 (by decide) ?_
      refine g_icmp_ge (pc := 5) o 45 dX4_begins_5 (by decide) (fun q5 => ?_) (fun q5 => ?_)
      · have ec : c = 21 := by have := (le_N (a := 21) (b := c) (by omega) (by omega) rfl rfl).mp q5; omega
        exact g_vret (pc := 45) o f dX4_begins_45 (by rw [ec])
      · have hc1 : c < 21 := by have := mt (le_N (a := 21) (b := c) (by omega) (by omega) rfl rfl).mpr q5; omega
        refine g_aload_n (pc := 8) o 0 dX4_begins_8 rfl rfl ?_
        refine g_getR (pc := 9) o flRX4_19 rfl (by omega) y5 dX4_begins_9 ?_
        refine g_iload_n (pc := 12) o 1 dX4_begins_12 rfl rfl ?_
        refine g_iload_n (pc := 13) o 1 dX4_begins_13 rfl rfl ?_
        refine g_iconst (pc := 14) (v := 3) o dX4_begins_14 (by decide) ?_
        refine g_bipush (pc := 15) (v := 8) o dX4_begins_15 (by decide) ?_
        refine g_S3i (pc := 17) o lkRX4_67 cmX4_in (cX4inNN (v := c) (a := 3) (b := 8) (by omega) (by decide) (by decide)) rfl rfl ⟨Nat.le_refl _, Nat.le_refl _⟩ dX4_begins_17 ?_
        refine g_if_eq (pc := 20) o 37 dX4_begins_20 (by decide) (fun q20 => ?_) (fun q20 => ?_)
        · have g := bi_z.mp q20
          have e1 : (0 : Int32) = bgF M c := (if_neg g).symm
          refine g_iconst (pc := 37) (v := 0) o dX4_begins_37 (by decide) ?_
          refine g_iast (pc := 38) o (c) rfl (by omega) rfl (by omega) dX4_begins_38 ?_
          refine g_incN (pc := 39) o (c) dX4_begins_39 rfl rfl ?_
          refine g_goto (pc := 42) o 2 dX4_begins_42 (by decide) ?_
          exact g_eq rfl rfl rfl (hp_M (rowM_s M 100 c (bgF M) e1)) (ih (c + 1) (by omega) (by omega))
        · have g := bi_nz.mp q20
          have e1 : rowM M 100 c (bgF M) 98 (17 + c) = bgF M c := by rw [rowM_ne _ _ _ (by decide)]; exact (if_pos g).symm
          refine g_aload_n (pc := 23) o 0 dX4_begins_23 rfl rfl ?_
          refine g_getR (pc := 24) o flRX4_13 rfl (by omega) y3 dX4_begins_24 ?_
          refine g_bipush (pc := 27) (v := 20) o dX4_begins_27 (by decide) ?_
          refine g_iload_n (pc := 29) o 1 dX4_begins_29 rfl rfl ?_
          refine g_iadd (pc := 30) o dX4_begins_30 ?_
          refine g_iconst (pc := 31) (v := 3) o dX4_begins_31 (by decide) ?_
          refine g_isub (pc := 32) o dX4_begins_32 ?_
          refine g_iald (pc := 33) o (17 + c) rfl (by omega) (bgi (by omega)) (by omega) dX4_begins_33 ?_
          refine g_goto (pc := 34) o 38 dX4_begins_34 (by decide) ?_
          refine g_iast (pc := 38) o (c) rfl (by omega) rfl (by omega) dX4_begins_38 ?_
          refine g_incN (pc := 39) o (c) dX4_begins_39 rfl rfl ?_
          refine g_goto (pc := 42) o 2 dX4_begins_42 (by decide) ?_
          exact g_eq rfl rfl rfl (hp_M (rowM_s M 100 c (bgF M) e1)) (ih (c + 1) (by omega) (by omega))
  refine g_iconst (pc := 0) (v := 0) o dX4_begins_0 (by decide) ?_
  refine g_istore_n (pc := 1) o 1 dX4_begins_1 rfl rfl ?_
  have h9 := loop 22 0 (by omega) (by omega)
  rw [rowM_0] at h9
  exact h9

set_option maxHeartbeats 2000000 in
set_option maxRecDepth 20000 in
theorem cX4tells (rm : RM Rf) (hn : 109 ≤ n) : Ret Λ (d + 2) mX4_tells [.ref 96] (n, M, Rf, Lg) none (n, tlM M, Rf, Lg) 0 0 := by
  refine Ret.of rfl rfl rfl (fun κ o f hin => ?_)
  obtain ⟨y1, y3, y4, y5, y6, y8, y9, y10, y21, y22, y23, y24⟩ := id rm
  have loop : ∀ k c : Nat, c ≤ 56 → 56 < c + k → G (Λ, κ) 2 [some (.ref 96), some (.int (nI c))] [] (n, rowM M 98 c (fun j => M 99 j), Rf, Lg) 0 0 := by
    intro k
    induction k with
    | zero => intro c h1 h2; exact absurd h2 (by omega)
    | succ k ih =>
      intro c h1 h2
      refine g_iload_n (pc := 2) o 1 dX4_tells_2 rfl rfl ?_
      refine g_bipush (pc := 3) (v := 56) o dX4_tells_3 (by decide) ?_
      refine g_icmp_ge (pc := 5) o 26 dX4_tells_5 (by decide) (fun q5 => ?_) (fun q5 => ?_)
      · have ec : c = 56 := by have := (le_N (a := 56) (b := c) (by omega) (by omega) rfl rfl).mp q5; omega
        refine g_aload_n (pc := 26) o 0 dX4_tells_26 rfl rfl ?_
        refine g_V0v (pc := 27) o lkRX4_124 cmX4_begins (cX4begins rm hn) rfl (by omega) rfl rfl ⟨Nat.le_refl _, Nat.le_refl _⟩ dX4_tells_27 ?_
        subst ec
        refine g_aload_n (pc := 30) o 0 dX4_tells_30 rfl rfl ?_
        refine g_iconst (pc := 31) (v := 0) o dX4_tells_31 (by decide) ?_
        refine g_putI (pc := 32) o flRX4_127 rfl rfl (by omega) rfl rfl dX4_tells_32 ?_
        refine g_aload_n (pc := 35) o 0 dX4_tells_35 rfl rfl ?_
        refine g_iconst (pc := 36) (v := 0) o dX4_tells_36 (by decide) ?_
        refine g_putI (pc := 37) o flRX4_130 rfl rfl (by omega) rfl rfl dX4_tells_37 ?_
        refine g_aload_n (pc := 40) o 0 dX4_tells_40 rfl rfl ?_
        refine g_getR (pc := 41) o flRX4_28 rfl (by omega) y9 dX4_tells_41 ?_
        refine g_iconst (pc := 44) (v := 0) o dX4_tells_44 (by decide) ?_
        refine g_iconst (pc := 45) (v := 0) o dX4_tells_45 (by decide) ?_
        refine g_zast (pc := 46) o (0) rfl (by omega) rfl (by omega) rfl dX4_tells_46 ?_
        refine g_aload_n (pc := 47) o 0 dX4_tells_47 rfl rfl ?_
        refine g_getR (pc := 48) o flRX4_28 rfl (by omega) y9 dX4_tells_48 ?_
        refine g_iconst (pc := 51) (v := 1) o dX4_tells_51 (by decide) ?_
        refine g_iconst (pc := 52) (v := 0) o dX4_tells_52 (by decide) ?_
        refine g_zast (pc := 53) o (1) rfl (by omega) rfl (by omega) rfl dX4_tells_53 ?_
        exact g_vret (pc := 54) o f dX4_tells_54 rfl
      · have hc1 : c < 56 := by have := mt (le_N (a := 56) (b := c) (by omega) (by omega) rfl rfl).mpr q5; omega
        refine g_aload_n (pc := 8) o 0 dX4_tells_8 rfl rfl ?_
        refine g_getR (pc := 9) o flRX4_13 rfl (by omega) y3 dX4_tells_9 ?_
        refine g_iload_n (pc := 12) o 1 dX4_tells_12 rfl rfl ?_
        refine g_aload_n (pc := 13) o 0 dX4_tells_13 rfl rfl ?_
        refine g_getR (pc := 14) o flRX4_16 rfl (by omega) y4 dX4_tells_14 ?_
        refine g_iload_n (pc := 17) o 1 dX4_tells_17 rfl rfl ?_
        refine g_iald (pc := 18) o (c) rfl (by omega) rfl (by omega) dX4_tells_18 ?_
        refine g_iast (pc := 19) o (c) rfl (by omega) rfl (by omega) dX4_tells_19 ?_
        refine g_incN (pc := 20) o (c) dX4_tells_20 rfl rfl ?_
        refine g_goto (pc := 23) o 2 dX4_tells_23 (by decide) ?_
        exact g_eq rfl rfl rfl (hp_M (rowM_s M 98 c _ (rowM_ne _ _ _ (by decide) _))) (ih (c + 1) (by omega) (by omega))
  refine g_iconst (pc := 0) (v := 0) o dX4_tells_0 (by decide) ?_
  refine g_istore_n (pc := 1) o 1 dX4_tells_1 rfl rfl ?_
  have h9 := loop 57 0 (by omega) (by omega)
  rw [rowM_0] at h9
  exact h9

/-- what city comes to -/
def cyQ (tl : Nat) (tx : Nat → Nat) (M : HM) (r : Int32) (M' : HM) : Prop := match rdT tl tx (tl + 1) iniT 0 with
  | .inl f => r = -10 - nI f ∧ frK M M'
  | .inr T' => r = nI (T' 4) ∧ okT T' ∧ T' 4 ≤ 200 ∧ ∃ M2, frK M M2 ∧ mR M2 99 56 T' ∧ M' = st2 (tlM M2) 96 2 0
set_option maxHeartbeats 2000000 in
set_option maxRecDepth 20000 in
theorem cX4city (rm : RM Rf) (hn : 109 ≤ n) {tl : Nat} {tx : Nat → Nat} (htx : txN M tl tx) : RetE Λ (d + 7) mX4_city [.ref 96] (n, M, Rf, Lg) (pI n Rf Lg (fun r M' => cyQ tl tx M r M')) 0 0 := by
  refine RetE.of rfl rfl rfl (fun κ o f hin => ?_)
  obtain ⟨y1, y3, y4, y5, y6, y8, y9, y10, y21, y22, y23, y24⟩ := id rm
  refine g_aload_n (pc := 0) o 0 dX4_city_0 rfl rfl ?_
  refine e_V0i (pc := 1) o lkRX4_60 cmX4_reads (cX4reads rm hn htx) rfl (by omega) rfl rfl ⟨Nat.le_refl _, Nat.le_refl _⟩ dX4_city_1 (fun r M2 hp => ?_)
  refine g_if_ne (pc := 4) o 15 dX4_city_4 (by decide) (fun q4 => ?_) (fun q4 => ?_)
  · have hq : ∃ T', rdT tl tx (tl + 1) iniT 0 = .inr T' ∧ mR M2 99 56 T' ∧ okT T' ∧ T' 4 ≤ 200 := by
      obtain ⟨fk, h2⟩ := hp
      generalize rdT tl tx (tl + 1) iniT 0 = o9 at h2
      match o9, h2 with
      | .inl f, h3 => exact absurd h3.1 q4
      | .inr T', h3 => exact ⟨T', rfl, h3.2⟩
    obtain ⟨T', e1, hR, hok, h200⟩ := hq
    refine g_aload_n (pc := 15) o 0 dX4_city_15 rfl rfl ?_
    refine g_V0v (pc := 16) o lkRX4_64 cmX4_tells (cX4tells rm hn) rfl (by omega) rfl rfl ⟨Nat.le_refl _, Nat.le_refl _⟩ dX4_city_16 ?_
    refine g_aload_n (pc := 19) o 0 dX4_city_19 rfl rfl ?_
    refine g_iconst (pc := 20) (v := 0) o dX4_city_20 (by decide) ?_
    refine g_putI (pc := 21) o flRX4_71 rfl rfl (by omega) rfl rfl dX4_city_21 ?_
    refine g_aload_n (pc := 24) o 0 dX4_city_24 rfl rfl ?_
    refine g_getR (pc := 25) o flRX4_13 rfl (by omega) y3 dX4_city_25 ?_
    refine g_iconst (pc := 28) (v := 4) o dX4_city_28 (by decide) ?_
    refine g_iald (pc := 29) o (4) rfl (by omega) rfl (by omega) dX4_city_29 ?_
    exact e_iret (pc := 30) o f dX4_city_30 rfl (pI.of (by unfold cyQ; rw [e1]; exact ⟨by rw [st2_ne _ _ _ (by decide)]; exact tlM_98 hR 4 (by decide), hok, h200, M2, hp.1, hR, rfl⟩))
  · have hq : ∃ f, rdT tl tx (tl + 1) iniT 0 = .inl f ∧ M2 96 14 = nI f := by
      obtain ⟨fk, h2⟩ := hp
      generalize rdT tl tx (tl + 1) iniT 0 = o9 at h2
      match o9, h2 with
      | .inl f, h3 => exact ⟨f, rfl, h3.2.1⟩
      | .inr T', h3 => have := h3.1; rw [q4] at this; exact absurd this (by decide)
    obtain ⟨f9, e1, h14⟩ := hq
    refine g_bipush (pc := 7) (v := -10) o dX4_city_7 (by decide) ?_
    refine g_aload_n (pc := 9) o 0 dX4_city_9 rfl rfl ?_
    refine g_getI (pc := 10) o flRX4_81 rfl (by omega) dX4_city_10 ?_
    refine g_isub (pc := 13) o dX4_city_13 ?_
    exact e_iret (pc := 14) o f dX4_city_14 rfl (pI.of (by unfold cyQ; rw [e1, h14]; exact ⟨rfl, hp.1⟩))

end M32
