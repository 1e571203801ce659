section M20
variable {Λ : PL} {d n : Nat} {M : HM} {Rf : HR} {Lg : HL}

def blkM (M : HM) (a o N : Nat) (f : Nat → Int32) : HM := fun z j => if z = a ∧ o ≤ j ∧ j < o + N then f (j - o) else M z j
theorem blkM_0 (M : HM) (a o : Nat) (f : Nat → Int32) : blkM M a o 0 f = M := by
  funext z j; unfold blkM; rw [if_neg (by omega)]
theorem blkM_s (M : HM) (a o c : Nat) (f : Nat → Int32) {v : Int32} (h : v = f c) : st2 (blkM M a o c f) a (o + c) v = blkM M a o (c + 1) f := by
  funext z j
  unfold blkM st2
  subst h
  by_cases e : z = a ∧ j = o + c
  · obtain ⟨rfl, rfl⟩ := e
    simp
  · rw [if_neg e]
    show (if z = a ∧ o ≤ j ∧ j < o + c then f (j - o) else M z j) = _
    by_cases g : z = a ∧ o ≤ j ∧ j < o + c
    · rw [if_pos g, if_pos ⟨g.1, g.2.1, by omega⟩]
    · rw [if_neg g, if_neg (by omega)]
theorem blkM_ne (M : HM) {a : Nat} (o N : Nat) (f : Nat → Int32) {z : Nat} (h : z ≠ a) (j : Nat) : blkM M a o N f z j = M z j := by
  unfold blkM; rw [if_neg (fun q => h q.1)]
theorem blkM_in (M : HM) (a o : Nat) {N : Nat} (f : Nat → Int32) {j : Nat} (h : j < N) : blkM M a o N f a (o + j) = f j := by
  unfold blkM; rw [if_pos ⟨rfl, by omega, by omega⟩, show o + j - o = j by omega]
theorem blkM_out (M : HM) (a o N : Nat) (f : Nat → Int32) {j : Nat} (h : j < o ∨ o + N ≤ j) : blkM M a o N f a j = M a j := by
  unfold blkM; rw [if_neg (by omega)]
theorem MF.kept {M M' : HM} {hd dl : Nat} {nv sh di : Int32} (h : MF M hd nv sh di dl) (e : ∀ j, 16 ≤ j → j ≤ 20 → M' 96 j = M 96 j) : MF M' hd nv sh di dl := by
  unfold MF
  rw [e 16 (by decide) (by decide), e 17 (by decide) (by decide), e 18 (by decide) (by decide), e 19 (by decide) (by decide), e 20 (by decide) (by decide)]
  exact h

set_option maxHeartbeats 2000000 in
set_option maxRecDepth 20000 in
theorem cX4holds (rm : RM Rf) (hn : 109 ≤ n) : Ret Λ (d) mX4_holds [.ref 96] (n, M, Rf, Lg) none (n, rowM M 105 21 (fun j => M 100 j), Rf, Lg) 0 0 := by
  refine Ret.of rfl rfl rfl (fun κ o f hin => ?_)
  obtain ⟨y1, y3, y4, y5, y6, y8, y9, y10, y21, y22, y23, y24⟩ := id rm
  have loop : ∀ k c : Nat, c ≤ 21 → 21 < c + k → G (Λ, κ) 2 [some (.ref 96), some (.int (nI c))] [] (n, rowM M 105 c (fun j => M 100 j), Rf, Lg) 0 0 := by
    intro k
    induction k with
    | zero => intro c h1 h2; exact absurd h2 (by omega)
    | succ k ih =>
      intro c h1 h2
      refine g_iload_n (pc := 2) o 1 dX4_holds_2 rfl rfl ?_
      refine g_bipush (pc := 3) (v := 21) o dX4_holds_3 (by decide) ?_
      refine g_icmp_ge (pc := 5) o 26 dX4_holds_5 (by decide) (fun q5 => ?_) (fun q5 => ?_)
      · have ec : c = 21 := by have := (le_N (a := 21) (b := c) (by omega) (by omega) rfl rfl).mp q5; omega
        exact g_vret (pc := 26) o f dX4_holds_26 (by rw [ec])
      · have hc1 : c < 21 := by have := mt (le_N (a := 21) (b := c) (by omega) (by omega) rfl rfl).mpr q5; omega
        refine g_aload_n (pc := 8) o 0 dX4_holds_8 rfl rfl ?_
        refine g_getR (pc := 9) o flRX4_48 rfl (by omega) y21 dX4_holds_9 ?_
        refine g_iload_n (pc := 12) o 1 dX4_holds_12 rfl rfl ?_
        refine g_aload_n (pc := 13) o 0 dX4_holds_13 rfl rfl ?_
        refine g_getR (pc := 14) o flRX4_19 rfl (by omega) y5 dX4_holds_14 ?_
        refine g_iload_n (pc := 17) o 1 dX4_holds_17 rfl rfl ?_
        refine g_iald (pc := 18) o (c) rfl (by omega) rfl (by omega) dX4_holds_18 ?_
        refine g_iast (pc := 19) o (c) rfl (by omega) rfl (by omega) dX4_holds_19 ?_
        refine g_incN (pc := 20) o (c) dX4_holds_20 rfl rfl ?_
        refine g_goto (pc := 23) o 2 dX4_holds_23 (by decide) ?_
        exact g_eq rfl rfl rfl (hp_M (rowM_s M 105 c _ (rowM_ne _ _ _ (by decide) _))) (ih (c + 1) (by omega) (by omega))
  refine g_iconst (pc := 0) (v := 0) o dX4_holds_0 (by decide) ?_
  refine g_istore_n (pc := 1) o 1 dX4_holds_1 rfl rfl ?_
  rw [← rowM_0 M 105 (fun j => M 100 j)]
  exact loop 22 0 (by omega) (by omega)

set_option maxHeartbeats 2000000 in
set_option maxRecDepth 20000 in
theorem cX4lets (rm : RM Rf) (hn : 109 ≤ n) : Ret Λ (d) mX4_lets [.ref 96] (n, M, Rf, Lg) none (n, rowM M 100 21 (fun j => M 105 j), Rf, Lg) 0 0 := by
  refine Ret.of rfl rfl rfl (fun κ o f hin => ?_)
  obtain ⟨y1, y3, y4, y5, y6, y8, y9, y10, y21, y22, y23, y24⟩ := id rm
  have loop : ∀ k c : Nat, c ≤ 21 → 21 < c + k → G (Λ, κ) 2 [some (.ref 96), some (.int (nI c))] [] (n, rowM M 100 c (fun j => M 105 j), Rf, Lg) 0 0 := by
    intro k
    induction k with
    | zero => intro c h1 h2; exact absurd h2 (by omega)
    | succ k ih =>
      intro c h1 h2
      refine g_iload_n (pc := 2) o 1 dX4_lets_2 rfl rfl ?_
      refine g_bipush (pc := 3) (v := 21) o dX4_lets_3 (by decide) ?_
      refine g_icmp_ge (pc := 5) o 26 dX4_lets_5 (by decide) (fun q5 => ?_) (fun q5 => ?_)
      · have ec : c = 21 := by have := (le_N (a := 21) (b := c) (by omega) (by omega) rfl rfl).mp q5; omega
        exact g_vret (pc := 26) o f dX4_lets_26 (by rw [ec])
      · have hc1 : c < 21 := by have := mt (le_N (a := 21) (b := c) (by omega) (by omega) rfl rfl).mpr q5; omega
        refine g_aload_n (pc := 8) o 0 dX4_lets_8 rfl rfl ?_
        refine g_getR (pc := 9) o flRX4_19 rfl (by omega) y5 dX4_lets_9 ?_
        refine g_iload_n (pc := 12) o 1 dX4_lets_12 rfl rfl ?_
        refine g_aload_n (pc := 13) o 0 dX4_lets_13 rfl rfl ?_
        refine g_getR (pc := 14) o flRX4_48 rfl (by omega) y21 dX4_lets_14 ?_
        refine g_iload_n (pc := 17) o 1 dX4_lets_17 rfl rfl ?_
        refine g_iald (pc := 18) o (c) rfl (by omega) rfl (by omega) dX4_lets_18 ?_
        refine g_iast (pc := 19) o (c) rfl (by omega) rfl (by omega) dX4_lets_19 ?_
        refine g_incN (pc := 20) o (c) dX4_lets_20 rfl rfl ?_
        refine g_goto (pc := 23) o 2 dX4_lets_23 (by decide) ?_
        exact g_eq rfl rfl rfl (hp_M (rowM_s M 100 c _ (rowM_ne _ _ _ (by decide) _))) (ih (c + 1) (by omega) (by omega))
  refine g_iconst (pc := 0) (v := 0) o dX4_lets_0 (by decide) ?_
  refine g_istore_n (pc := 1) o 1 dX4_lets_1 rfl rfl ?_
  rw [← rowM_0 M 100 (fun j => M 105 j)]
  exact loop 22 0 (by omega) (by omega)

set_option maxHeartbeats 2000000 in
set_option maxRecDepth 20000 in
theorem cX4puts (rm : RM Rf) (hn : 109 ≤ n) {p : Nat} (hp : p < 3) : Ret Λ (d) mX4_puts [.ref 96, .int (nI p)] (n, M, Rf, Lg) none (n, blkM M 106 (21 * p) 21 (fun j => M 100 j), Rf, Lg) 0 0 := by
  refine Ret.of rfl rfl rfl (fun κ o f hin => ?_)
  obtain ⟨y1, y3, y4, y5, y6, y8, y9, y10, y21, y22, y23, y24⟩ := id rm
  have loop : ∀ k c : Nat, c ≤ 21 → 21 < c + k → G (Λ, κ) 2 [some (.ref 96), some (.int (nI p)), some (.int (nI c))] [] (n, blkM M 106 (21 * p) c (fun j => M 100 j), Rf, Lg) 0 0 := by
    intro k
    induction k with
    | zero => intro c h1 h2; exact absurd h2 (by omega)
    | succ k ih =>
      intro c h1 h2
      refine g_iload_n (pc := 2) o 2 dX4_puts_2 rfl rfl ?_
      refine g_bipush (pc := 3) (v := 21) o dX4_puts_3 (by decide) ?_
      refine g_icmp_ge (pc := 5) o 31 dX4_puts_5 (by decide) (fun q5 => ?_) (fun q5 => ?_)
      · have ec : c = 21 := by have := (le_N (a := 21) (b := c) (by omega) (by omega) rfl rfl).mp q5; omega
        exact g_vret (pc := 31) o f dX4_puts_31 (by rw [ec])
      · have hc1 : c < 21 := by have := mt (le_N (a := 21) (b := c) (by omega) (by omega) rfl rfl).mpr q5; omega
        refine g_aload_n (pc := 8) o 0 dX4_puts_8 rfl rfl ?_
        refine g_getR (pc := 9) o flRX4_51 rfl (by omega) y22 dX4_puts_9 ?_
        refine g_bipush (pc := 12) (v := 21) o dX4_puts_12 (by decide) ?_
        refine g_iload_n (pc := 14) o 1 dX4_puts_14 rfl rfl ?_
        refine g_imul (pc := 15) o dX4_puts_15 ?_
        refine g_iload_n (pc := 16) o 2 dX4_puts_16 rfl rfl ?_
        refine g_iadd (pc := 17) o dX4_puts_17 ?_
        refine g_aload_n (pc := 18) o 0 dX4_puts_18 rfl rfl ?_
        refine g_getR (pc := 19) o flRX4_19 rfl (by omega) y5 dX4_puts_19 ?_
        refine g_iload_n (pc := 22) o 2 dX4_puts_22 rfl rfl ?_
        refine g_iald (pc := 23) o (c) rfl (by omega) rfl (by omega) dX4_puts_23 ?_
        refine g_iast (pc := 24) o (((21 * p) + c)) rfl (by omega) (nI_addE (nI_mulE rfl rfl) rfl) (by omega) dX4_puts_24 ?_
        refine g_incN (pc := 25) o (c) dX4_puts_25 rfl rfl ?_
        refine g_goto (pc := 28) o 2 dX4_puts_28 (by decide) ?_
        exact g_eq rfl rfl rfl (hp_M (blkM_s M 106 (21 * p) c _ (blkM_ne _ _ _ _ (by decide) _))) (ih (c + 1) (by omega) (by omega))
  refine g_iconst (pc := 0) (v := 0) o dX4_puts_0 (by decide) ?_
  refine g_istore_n (pc := 1) o 2 dX4_puts_1 rfl rfl ?_
  rw [← blkM_0 M 106 (21 * p) (fun j => M 100 j)]
  exact loop 22 0 (by omega) (by omega)

set_option maxHeartbeats 2000000 in
set_option maxRecDepth 20000 in
theorem cX4takes (rm : RM Rf) (hn : 109 ≤ n) {p : Nat} (hp : p < 3) : Ret Λ (d) mX4_takes [.ref 96, .int (nI p)] (n, M, Rf, Lg) none (n, rowM M 100 21 (fun j => M 106 (21 * p + j)), Rf, Lg) 0 0 := by
  refine Ret.of rfl rfl rfl (fun κ o f hin => ?_)
  obtain ⟨y1, y3, y4, y5, y6, y8, y9, y10, y21, y22, y23, y24⟩ := id rm
  have loop : ∀ k c : Nat, c ≤ 21 → 21 < c + k → G (Λ, κ) 2 [some (.ref 96), some (.int (nI p)), some (.int (nI c))] [] (n, rowM M 100 c (fun j => M 106 (21 * p + j)), Rf, Lg) 0 0 := by
    intro k
    induction k with
    | zero => intro c h1 h2; exact absurd h2 (by omega)
    | succ k ih =>
      intro c h1 h2
      refine g_iload_n (pc := 2) o 2 dX4_takes_2 rfl rfl ?_
      refine g_bipush (pc := 3) (v := 21) o dX4_takes_3 (by decide) ?_
      refine g_icmp_ge (pc := 5) o 31 dX4_takes_5 (by decide) (fun q5 => ?_) (fun q5 => ?_)
      · have ec : c = 21 := by have := (le_N (a := 21) (b := c) (by omega) (by omega) rfl rfl).mp q5; omega
        exact g_vret (pc := 31) o f dX4_takes_31 (by rw [ec])
      · have hc1 : c < 21 := by have := mt (le_N (a := 21) (b := c) (by omega) (by omega) rfl rfl).mpr q5; omega
        refine g_aload_n (pc := 8) o 0 dX4_takes_8 rfl rfl ?_
        refine g_getR (pc := 9) o flRX4_19 rfl (by omega) y5 dX4_takes_9 ?_
        refine g_iload_n (pc := 12) o 2 dX4_takes_12 rfl rfl ?_
        refine g_aload_n (pc := 13) o 0 dX4_takes_13 rfl rfl ?_
        refine g_getR (pc := 14) o flRX4_51 rfl (by omega) y22 dX4_takes_14 ?_
        refine g_bipush (pc := 17) (v := 21) o dX4_takes_17 (by decide) ?_
        refine g_iload_n (pc := 19) o 1 dX4_takes_19 rfl rfl ?_
        refine g_imul (pc := 20) o dX4_takes_20 ?_
        refine g_iload_n (pc := 21) o 2 dX4_takes_21 rfl rfl ?_
        refine g_iadd (pc := 22) o dX4_takes_22 ?_
        refine g_iald (pc := 23) o (((21 * p) + c)) rfl (by omega) (nI_addE (nI_mulE rfl rfl) rfl) (by omega) dX4_takes_23 ?_
        refine g_iast (pc := 24) o (c) rfl (by omega) rfl (by omega) dX4_takes_24 ?_
        refine g_incN (pc := 25) o (c) dX4_takes_25 rfl rfl ?_
        refine g_goto (pc := 28) o 2 dX4_takes_28 (by decide) ?_
        exact g_eq rfl rfl rfl (hp_M (rowM_s M 100 c _ (rowM_ne _ _ _ (by decide) _))) (ih (c + 1) (by omega) (by omega))
  refine g_iconst (pc := 0) (v := 0) o dX4_takes_0 (by decide) ?_
  refine g_istore_n (pc := 1) o 2 dX4_takes_1 rfl rfl ?_
  rw [← rowM_0 M 100 (fun j => M 106 (21 * p + j))]
  exact loop 22 0 (by omega) (by omega)

def shf (M : HM) : HM := rowM M 101 189 (fun j => M 101 (21 + j))
def kpM (M : HM) (pk : Nat) : HM := if pk = 10 then st2 (blkM (st2 (shf M) 96 7 (nI 9)) 101 (21 * 9) 21 (fun j => M 100 j)) 96 7 (nI (9 + 1)) else st2 (blkM M 101 (21 * pk) 21 (fun j => M 100 j)) 96 7 (nI (pk + 1))
theorem kpM_ne (M : HM) (pk : Nat) {z : Nat} (h : z ≠ 96) (h2 : z ≠ 101) : kpM M pk z = M z := by
  funext j
  unfold kpM
  split
  · rw [st2_ne2 _ _ (fun q => h q.1), blkM_ne _ _ _ _ h2, st2_ne2 _ _ (fun q => h q.1)]; exact rowM_ne _ _ _ h2 _
  · rw [st2_ne2 _ _ (fun q => h q.1), blkM_ne _ _ _ _ h2]
theorem kpM_96 (M : HM) (pk : Nat) {j : Nat} (h : j ≠ 7) : kpM M pk 96 j = M 96 j := by
  unfold kpM
  split
  · rw [st2_ne2 _ _ (fun q => h q.2), blkM_ne _ _ _ _ (by decide), st2_ne2 _ _ (fun q => h q.2)]; exact rowM_ne _ _ _ (by decide) _
  · rw [st2_ne2 _ _ (fun q => h q.2), blkM_ne _ _ _ _ (by decide)]
theorem kpM_7 (M : HM) {pk : Nat} (h : pk ≤ 10) : kpM M pk 96 7 = nI (min (pk + 1) 10) := by
  unfold kpM
  split
  · rw [st2_same, show min (pk + 1) 10 = 9 + 1 by omega]
  · rw [st2_same, show min (pk + 1) 10 = pk + 1 by omega]

set_option maxHeartbeats 2000000 in
set_option maxRecDepth 20000 in
theorem cX4keeps (rm : RM Rf) (hn : 109 ≤ n) {pk : Nat} (hpk : M 96 7 = nI pk) (hp10 : pk ≤ 10) : Ret Λ (d) mX4_keeps [.ref 96] (n, M, Rf, Lg) none (n, kpM M pk, Rf, Lg) 0 0 := by
  refine Ret.of rfl rfl rfl (fun κ o f hin => ?_)
  obtain ⟨y1, y3, y4, y5, y6, y8, y9, y10, y21, y22, y23, y24⟩ := id rm
  have tail : ∀ (M1 : HM) (x) (p : Nat), p ≤ 9 → M1 96 7 = nI p → st2 (blkM M1 101 (21 * p) 21 (fun j => M1 100 j)) 96 7 (nI (p + 1)) = kpM M pk → G (Λ, κ) 49 [some (.ref 96), x] [] (n, M1, Rf, Lg) 0 0 := by
    intro M1 x p hp9 hp he
    have loop : ∀ k c : Nat, c ≤ 21 → 21 < c + k → G (Λ, κ) 51 [some (.ref 96), some (.int (nI c))] [] (n, blkM M1 101 (21 * p) c (fun j => M1 100 j), Rf, Lg) 0 0 := by
      intro k
      induction k with
      | zero => intro c h1 h2; exact absurd h2 (by omega)
      | succ k ih =>
        intro c h1 h2
        refine g_iload_n (pc := 51) o 1 dX4_keeps_51 rfl rfl ?_
        refine g_bipush (pc := 52) (v := 21) o dX4_keeps_52 (by decide) ?_
        refine g_icmp_ge (pc := 54) o 83 dX4_keeps_54 (by decide) (fun q54 => ?_) (fun q54 => ?_)
        · have ec : c = 21 := by have := (le_N (a := 21) (b := c) (by omega) (by omega) rfl rfl).mp q54; omega
          have hp2 : blkM M1 101 (21 * p) c (fun j => M1 100 j) 96 7 = nI p := by rw [blkM_ne _ _ _ _ (by decide)]; exact hp
          refine g_aload_n (pc := 83) o 0 dX4_keeps_83 rfl rfl ?_
          refine g_dup (pc := 84) o dX4_keeps_84 rfl ?_
          refine g_getI (pc := 85) o flRX4_127 rfl (by omega) dX4_keeps_85 ?_
          refine g_iconst (pc := 88) (v := 1) o dX4_keeps_88 (by decide) ?_
          refine g_iadd (pc := 89) o dX4_keeps_89 ?_
          refine g_putI (pc := 90) o flRX4_127 rfl rfl (by omega) rfl rfl dX4_keeps_90 ?_
          exact g_vret (pc := 93) o f dX4_keeps_93 (hp_M (by rw [hp2, ec, ← nI_succ]; exact he))
        · have hc1 : c < 21 := by have := mt (le_N (a := 21) (b := c) (by omega) (by omega) rfl rfl).mpr q54; omega
          have hp1 : blkM M1 101 (21 * p) c (fun j => M1 100 j) 96 7 = nI p := by rw [blkM_ne _ _ _ _ (by decide)]; exact hp
          refine g_aload_n (pc := 57) o 0 dX4_keeps_57 rfl rfl ?_
          refine g_getR (pc := 58) o flRX4_22 rfl (by omega) y6 dX4_keeps_58 ?_
          refine g_bipush (pc := 61) (v := 21) o dX4_keeps_61 (by decide) ?_
          refine g_aload_n (pc := 63) o 0 dX4_keeps_63 rfl rfl ?_
          refine g_getI (pc := 64) o flRX4_127 rfl (by omega) dX4_keeps_64 ?_
          refine g_imul (pc := 67) o dX4_keeps_67 ?_
          refine g_iload_n (pc := 68) o 1 dX4_keeps_68 rfl rfl ?_
          refine g_iadd (pc := 69) o dX4_keeps_69 ?_
          refine g_aload_n (pc := 70) o 0 dX4_keeps_70 rfl rfl ?_
          refine g_getR (pc := 71) o flRX4_19 rfl (by omega) y5 dX4_keeps_71 ?_
          refine g_iload_n (pc := 74) o 1 dX4_keeps_74 rfl rfl ?_
          refine g_iald (pc := 75) o (c) rfl (by omega) rfl (by omega) dX4_keeps_75 ?_
          refine g_iast (pc := 76) o (21 * p + c) rfl (by omega) (nI_addE (nI_mulE rfl hp1) rfl) (by omega) dX4_keeps_76 ?_
          refine g_incN (pc := 77) o (c) dX4_keeps_77 rfl rfl ?_
          refine g_goto (pc := 80) o 51 dX4_keeps_80 (by decide) ?_
          exact g_eq rfl rfl rfl (hp_M (blkM_s M1 101 (21 * p) c _ (blkM_ne _ _ _ _ (by decide) _))) (ih (c + 1) (by omega) (by omega))
    refine g_iconst (pc := 49) (v := 0) o dX4_keeps_49 (by decide) ?_
    refine g_istore_n (pc := 50) o 1 dX4_keeps_50 rfl rfl ?_
    have h9 := loop 22 0 (by omega) (by omega)
    rw [blkM_0] at h9
    exact h9
  have loop0 : pk = 10 → ∀ k c : Nat, c ≤ 189 → 189 < c + k → G (Λ, κ) 11 [some (.ref 96), some (.int (nI c))] [] (n, rowM M 101 c (fun j => M 101 (21 + j)), Rf, Lg) 0 0 := by
    intro hk
    intro k
    induction k with
    | zero => intro c h1 h2; exact absurd h2 (by omega)
    | succ k ih =>
      intro c h1 h2
      refine g_iload_n (pc := 11) o 1 dX4_keeps_11 rfl rfl ?_
      refine g_sipush (pc := 12) (v := 189) o dX4_keeps_12 (by decide) ?_
      refine g_icmp_ge (pc := 15) o 39 dX4_keeps_15 (by decide) (fun q15 => ?_) (fun q15 => ?_)
      · have ec : c = 189 := by have := (le_N (a := 189) (b := c) (by omega) (by omega) rfl rfl).mp q15; omega
        refine g_aload_n (pc := 39) o 0 dX4_keeps_39 rfl rfl ?_
        refine g_dup (pc := 40) o dX4_keeps_40 rfl ?_
        refine g_getI (pc := 41) o flRX4_127 rfl (by omega) dX4_keeps_41 ?_
        refine g_iconst (pc := 44) (v := 1) o dX4_keeps_44 (by decide) ?_
        refine g_isub (pc := 45) o dX4_keeps_45 ?_
        refine g_putI (pc := 46) o flRX4_127 rfl rfl (by omega) rfl rfl dX4_keeps_46 ?_
        have e9 : rowM M 101 189 (fun j => M 101 (21 + j)) 96 7 - 1 = nI 9 := by rw [rowM_ne _ _ _ (by decide), hpk, hk]; rfl
        subst ec
        rw [e9]
        refine tail _ _ 9 (by decide) (st2_same _ _ _ _) ?_
        unfold kpM
        rw [if_pos hk]
        have e8 : (fun j => st2 (shf M) 96 7 (nI 9) 100 j) = (fun j => M 100 j) := by funext j; rw [st2_ne2 _ _ (by omega)]; exact rowM_ne _ _ _ (by decide) _
        show st2 (blkM (st2 (shf M) 96 7 (nI 9)) 101 (21 * 9) 21 (fun j => st2 (shf M) 96 7 (nI 9) 100 j)) 96 7 (nI (9 + 1)) = _
        rw [e8]
      · have hc1 : c < 189 := by have := mt (le_N (a := 189) (b := c) (by omega) (by omega) rfl rfl).mpr q15; omega
        refine g_aload_n (pc := 18) o 0 dX4_keeps_18 rfl rfl ?_
        refine g_getR (pc := 19) o flRX4_22 rfl (by omega) y6 dX4_keeps_19 ?_
        refine g_iload_n (pc := 22) o 1 dX4_keeps_22 rfl rfl ?_
        refine g_aload_n (pc := 23) o 0 dX4_keeps_23 rfl rfl ?_
        refine g_getR (pc := 24) o flRX4_22 rfl (by omega) y6 dX4_keeps_24 ?_
        refine g_iload_n (pc := 27) o 1 dX4_keeps_27 rfl rfl ?_
        refine g_bipush (pc := 28) (v := 21) o dX4_keeps_28 (by decide) ?_
        refine g_iadd (pc := 30) o dX4_keeps_30 ?_
        refine g_iald (pc := 31) o (21 + c) rfl (by omega) (by rw [Nat.add_comm]; exact nI_addE rfl rfl) (by omega) dX4_keeps_31 ?_
        refine g_iast (pc := 32) o (c) rfl (by omega) rfl (by omega) dX4_keeps_32 ?_
        refine g_incN (pc := 33) o (c) dX4_keeps_33 rfl rfl ?_
        refine g_goto (pc := 36) o 11 dX4_keeps_36 (by decide) ?_
        exact g_eq rfl rfl rfl (hp_M (rowM_s M 101 c _ (by unfold rowM; rw [if_neg (by omega)]))) (ih (c + 1) (by omega) (by omega))
  refine g_aload_n (pc := 0) o 0 dX4_keeps_0 rfl rfl ?_
  refine g_getI (pc := 1) o flRX4_127 rfl (by omega) dX4_keeps_1 ?_
  refine g_bipush (pc := 4) (v := 10) o dX4_keeps_4 (by decide) ?_
  refine g_icmp_ne (pc := 6) o 49 dX4_keeps_6 (by decide) (fun q6 => ?_) (fun q6 => ?_)
  · have g := mt (eq_N (a := pk) (b := 10) (by omega) (by decide) hpk rfl).mpr q6
    exact tail M _ pk (by omega) hpk (by unfold kpM; rw [if_neg g])
  · have g := (eq_N (a := pk) (b := 10) (by omega) (by decide) hpk rfl).mp q6
    refine g_iconst (pc := 9) (v := 0) o dX4_keeps_9 (by decide) ?_
    refine g_istore_n (pc := 10) o 1 dX4_keeps_10 rfl rfl ?_
    have h9 := loop0 g 190 0 (by omega) (by omega)
    rw [rowM_0] at h9
    exact h9

def unM (M : HM) (pk : Nat) : HM := if pk = 0 then M else rowM (st2 M 96 7 (nI (pk - 1))) 100 21 (fun j => M 101 (21 * (pk - 1) + j))
set_option maxHeartbeats 2000000 in
set_option maxRecDepth 20000 in
theorem cX4undo (rm : RM Rf) (hn : 109 ≤ n) {pk : Nat} (hpk : M 96 7 = nI pk) (hp10 : pk ≤ 10) : Ret Λ (d) mX4_undo [.ref 96] (n, M, Rf, Lg) (some (.int (aUndo pk))) (n, unM M pk, Rf, Lg) 0 0 := by
  refine Ret.of rfl rfl rfl (fun κ o f hin => ?_)
  obtain ⟨y1, y3, y4, y5, y6, y8, y9, y10, y21, y22, y23, y24⟩ := id rm
  have loop : pk ≠ 0 → ∀ k c : Nat, c ≤ 21 → 21 < c + k → G (Λ, κ) 22 [some (.ref 96), some (.int (nI c))] [] (n, rowM (st2 M 96 7 (nI (pk - 1))) 100 c (fun j => M 101 (21 * (pk - 1) + j)), Rf, Lg) 0 0 := by
    intro h0
    intro k
    induction k with
    | zero => intro c h1 h2; exact absurd h2 (by omega)
    | succ k ih =>
      intro c h1 h2
      refine g_iload_n (pc := 22) o 1 dX4_undo_22 rfl rfl ?_
      refine g_bipush (pc := 23) (v := 21) o dX4_undo_23 (by decide) ?_
      have hp1 : rowM (st2 M 96 7 (nI (pk - 1))) 100 c (fun j => M 101 (21 * (pk - 1) + j)) 96 7 = nI (pk - 1) := by rw [rowM_ne _ _ _ (by decide)]; exact st2_same _ _ _ _
      refine g_icmp_ge (pc := 25) o 54 dX4_undo_25 (by decide) (fun q25 => ?_) (fun q25 => ?_)
      · have ec : c = 21 := by have := (le_N (a := 21) (b := c) (by omega) (by omega) rfl rfl).mp q25; omega
        refine g_aload_n (pc := 54) o 0 dX4_undo_54 rfl rfl ?_
        refine g_getI (pc := 55) o flRX4_127 rfl (by omega) dX4_undo_55 ?_
        exact g_iret (pc := 58) o f dX4_undo_58 rfl (by rw [hp1]; unfold aUndo; rw [if_neg h0]) (hp_M (by rw [ec]; unfold unM; rw [if_neg h0]))
      · have hc1 : c < 21 := by have := mt (le_N (a := 21) (b := c) (by omega) (by omega) rfl rfl).mpr q25; omega
        refine g_aload_n (pc := 28) o 0 dX4_undo_28 rfl rfl ?_
        refine g_getR (pc := 29) o flRX4_19 rfl (by omega) y5 dX4_undo_29 ?_
        refine g_iload_n (pc := 32) o 1 dX4_undo_32 rfl rfl ?_
        refine g_aload_n (pc := 33) o 0 dX4_undo_33 rfl rfl ?_
        refine g_getR (pc := 34) o flRX4_22 rfl (by omega) y6 dX4_undo_34 ?_
        refine g_bipush (pc := 37) (v := 21) o dX4_undo_37 (by decide) ?_
        refine g_aload_n (pc := 39) o 0 dX4_undo_39 rfl rfl ?_
        refine g_getI (pc := 40) o flRX4_127 rfl (by omega) dX4_undo_40 ?_
        refine g_imul (pc := 43) o dX4_undo_43 ?_
        refine g_iload_n (pc := 44) o 1 dX4_undo_44 rfl rfl ?_
        refine g_iadd (pc := 45) o dX4_undo_45 ?_
        refine g_iald (pc := 46) o (21 * (pk - 1) + c) rfl (by omega) (nI_addE (nI_mulE rfl hp1) rfl) (by omega) dX4_undo_46 ?_
        refine g_iast (pc := 47) o (c) rfl (by omega) rfl (by omega) dX4_undo_47 ?_
        refine g_incN (pc := 48) o (c) dX4_undo_48 rfl rfl ?_
        refine g_goto (pc := 51) o 22 dX4_undo_51 (by decide) ?_
        exact g_eq rfl rfl rfl (hp_M (rowM_s (st2 M 96 7 (nI (pk - 1))) 100 c (fun j => M 101 (21 * (pk - 1) + j)) (by rw [rowM_ne _ _ _ (by decide)]; rfl))) (ih (c + 1) (by omega) (by omega))
  refine g_aload_n (pc := 0) o 0 dX4_undo_0 rfl rfl ?_
  refine g_getI (pc := 1) o flRX4_127 rfl (by omega) dX4_undo_1 ?_
  refine g_if_ne (pc := 4) o 10 dX4_undo_4 (by decide) (fun q4 => ?_) (fun q4 => ?_)
  · have g : pk ≠ 0 := fun h => q4 (by rw [hpk, h]; rfl)
    refine g_aload_n (pc := 10) o 0 dX4_undo_10 rfl rfl ?_
    refine g_dup (pc := 11) o dX4_undo_11 rfl ?_
    refine g_getI (pc := 12) o flRX4_127 rfl (by omega) dX4_undo_12 ?_
    refine g_iconst (pc := 15) (v := 1) o dX4_undo_15 (by decide) ?_
    refine g_isub (pc := 16) o dX4_undo_16 ?_
    refine g_putI (pc := 17) o flRX4_127 rfl rfl (by omega) rfl rfl dX4_undo_17 ?_
    refine g_iconst (pc := 20) (v := 0) o dX4_undo_20 (by decide) ?_
    refine g_istore_n (pc := 21) o 1 dX4_undo_21 rfl rfl ?_
    rw [hpk, n_sub1 (by omega)]
    have h9 := loop g 22 0 (by omega) (by omega)
    rw [rowM_0] at h9
    exact h9
  · have g : pk = 0 := (eq_N (a := pk) (b := 0) (by omega) (by decide) hpk rfl).mp q4
    refine g_bipush (pc := 7) (v := -2) o dX4_undo_7 (by decide) ?_
    exact g_iret (pc := 9) o f dX4_undo_9 rfl (by unfold aUndo; rw [if_pos g]) (hp_M (by unfold unM; rw [if_pos g]))

theorem MB.kp {b pk : Nat} {T S : Nat → Nat} (h : MB M Rf n T S b) : MB (kpM M pk) Rf n T S b := h.kept (kpM_ne _ _ (by decide) (by decide)) (kpM_ne _ _ (by decide) (by decide))
theorem MF.kp {hd dl pk : Nat} {nv sh di : Int32} (h : MF M hd nv sh di dl) : MF (kpM M pk) hd nv sh di dl := h.kept (fun j h1 _ => kpM_96 _ _ (by omega))
def nCalls (T : Nat → Nat) (M : HM) (pk : Nat) (v w : Int32) : HM := if inn v (T 2) ∧ inn w 256 then st2 (kpM M pk) 100 (9 + v.toNatClampNeg) w else M
def nHour (T S : Nat → Nat) (M : HM) (pk dl : Nat) (nv sh di : Int32) : HM := if S 0 = 99 then M else goM (kpM M pk) T S (mSl T S 63 nv sh di dl (calN T S))
theorem calN6 {T S : Nat → Nat} (h : T 2 ≤ 6) : calN T S < 64 := mk6 _ h
set_option maxHeartbeats 2000000 in
set_option maxRecDepth 20000 in
theorem cX4calls {b : Nat} {T S : Nat → Nat} (mb : MB M Rf n T S b) {pk : Nat} (hpk : M 96 7 = nI pk) (hp10 : pk ≤ 10) {v w : Int32} : Ret Λ (d + 2) mX4_calls [.ref 96, .int v, .int w] (n, M, Rf, Lg) (some (.int (aCalls T S v w))) (n, nCalls T M pk v w, Rf, Lg) 0 0 := by
  refine Ret.of rfl rfl rfl (fun κ o f hin => ?_)
  obtain ⟨rm, hn, ht, hT, hS, os, hb9⟩ := id mb
  obtain ⟨y1, y3, y4, y5, y6, y8, y9, y10, y21, y22, y23, y24⟩ := id rm
  obtain ⟨⟨t0, t0b⟩, t1, t2, t3, tD, tC, tN⟩ := id ht
  obtain ⟨os0, os1, os2, osc⟩ := id os
  refine g_aload_n (pc := 0) o 0 dX4_calls_0 rfl rfl ?_
  refine g_iload_n (pc := 1) o 1 dX4_calls_1 rfl rfl ?_
  refine g_V1i (pc := 2) o lkRX4_136 cmX4_isCitizen (cX4isCitizen mb) rfl (by omega) rfl rfl ⟨Nat.le_refl _, Nat.le_refl _⟩ dX4_calls_2 ?_
  refine g_if_eq (pc := 5) o 19 dX4_calls_5 (by decide) (fun q5 => ?_) (fun q5 => ?_)
  · have g := bi_z.mp q5
    refine g_iconst (pc := 19) (v := -1) o dX4_calls_19 (by decide) ?_
    exact g_iret (pc := 20) o f dX4_calls_20 rfl (by unfold aCalls; rw [if_neg (by intro hh; first | exact g hh.1 | exact g2 hh.2)]) (hp_M (by unfold nCalls; rw [if_neg (by intro hh; first | exact g hh.1 | exact g2 hh.2)]))
  · have g0 := bi_nz.mp q5
    obtain ⟨j, hj, rfl⟩ := inn_of g0 (by omega)
    refine g_iload_n (pc := 8) o 2 dX4_calls_8 rfl rfl ?_
    refine g_iconst (pc := 9) (v := 0) o dX4_calls_9 (by decide) ?_
    refine g_sipush (pc := 10) (v := 255) o dX4_calls_10 (by decide) ?_
    refine g_S3i (pc := 13) o lkRX4_67 cmX4_in (cX4inN 256 (by decide) rfl) rfl rfl ⟨Nat.le_refl _, Nat.le_refl _⟩ dX4_calls_13 ?_
    refine g_if_ne (pc := 16) o 21 dX4_calls_16 (by decide) (fun q16 => ?_) (fun q16 => ?_)
    · have g2 := bi_nz.mp q16
      refine g_aload_n (pc := 21) o 0 dX4_calls_21 rfl rfl ?_
      refine g_V0v (pc := 22) o lkRX4_142 cmX4_keeps (cX4keeps rm hn hpk hp10) rfl (by omega) rfl rfl ⟨Nat.le_refl _, Nat.le_refl _⟩ dX4_calls_22 ?_
      refine g_aload_n (pc := 25) o 0 dX4_calls_25 rfl rfl ?_
      refine g_getR (pc := 26) o flRX4_19 rfl (by omega) y5 dX4_calls_26 ?_
      refine g_bipush (pc := 29) (v := 9) o dX4_calls_29 (by decide) ?_
      refine g_iload_n (pc := 31) o 1 dX4_calls_31 rfl rfl ?_
      refine g_iadd (pc := 32) o dX4_calls_32 ?_
      refine g_iald (pc := 33) o ((9 + j)) rfl (by omega) (nI_addE rfl rfl) (by omega) dX4_calls_33 ?_
      refine g_istore_n (pc := 34) o 3 dX4_calls_34 rfl rfl ?_
      refine g_aload_n (pc := 35) o 0 dX4_calls_35 rfl rfl ?_
      refine g_getR (pc := 36) o flRX4_19 rfl (by omega) y5 dX4_calls_36 ?_
      refine g_bipush (pc := 39) (v := 9) o dX4_calls_39 (by decide) ?_
      refine g_iload_n (pc := 41) o 1 dX4_calls_41 rfl rfl ?_
      refine g_iadd (pc := 42) o dX4_calls_42 ?_
      refine g_iload_n (pc := 43) o 2 dX4_calls_43 rfl rfl ?_
      refine g_iast (pc := 44) o ((9 + j)) rfl (by omega) (nI_addE rfl rfl) (by omega) dX4_calls_44 ?_
      refine g_iload_n (pc := 45) o 3 dX4_calls_45 rfl rfl ?_
      exact g_iret (pc := 46) o f dX4_calls_46 rfl (by unfold aCalls; rw [if_pos ⟨g0, g2⟩, nI_clamp (by omega), kpM_ne _ _ (by decide) (by decide), hS (9 + j) (by omega)]) (hp_M (by unfold nCalls; rw [if_pos ⟨g0, g2⟩, nI_clamp (by omega)]))
    · have g2 := bi_z.mp q16
      refine g_iconst (pc := 19) (v := -1) o dX4_calls_19 (by decide) ?_
      exact g_iret (pc := 20) o f dX4_calls_20 rfl (by unfold aCalls; rw [if_neg (by intro hh; first | exact g hh.1 | exact g2 hh.2)]) (hp_M (by unfold nCalls; rw [if_neg (by intro hh; first | exact g hh.1 | exact g2 hh.2)]))

set_option maxHeartbeats 2000000 in
set_option maxRecDepth 20000 in
theorem cX4hour {b : Nat} {T S : Nat → Nat} (mb : MB M Rf n T S b) {dl : Nat} {nv sh di : Int32} (mf : MF M 63 nv sh di dl) {pk : Nat} (hpk : M 96 7 = nI pk) (hp10 : pk ≤ 10) : Ret Λ (d + 2) mX4_hour [.ref 96] (n, M, Rf, Lg) (some (.int (if S 0 = 99 then -2 else nI (mSl T S 63 nv sh di dl (calN T S))))) (n, nHour T S M pk dl nv sh di, Rf, Lg) 0 0 := by
  refine Ret.of rfl rfl rfl (fun κ o f hin => ?_)
  obtain ⟨rm, hn, ht, hT, hS, os, hb9⟩ := id mb
  obtain ⟨y1, y3, y4, y5, y6, y8, y9, y10, y21, y22, y23, y24⟩ := id rm
  obtain ⟨⟨t0, t0b⟩, t1, t2, t3, tD, tC, tN⟩ := id ht
  obtain ⟨os0, os1, os2, osc⟩ := id os
  refine g_aload_n (pc := 0) o 0 dX4_hour_0 rfl rfl ?_
  refine g_getR (pc := 1) o flRX4_19 rfl (by omega) y5 dX4_hour_1 ?_
  refine g_iconst (pc := 4) (v := 0) o dX4_hour_4 (by decide) ?_
  refine g_iald (pc := 5) o (0) rfl (by omega) rfl (by omega) dX4_hour_5 ?_
  refine g_bipush (pc := 6) (v := 99) o dX4_hour_6 (by decide) ?_
  refine g_icmp_ne (pc := 8) o 14 dX4_hour_8 (by decide) (fun q8 => ?_) (fun q8 => ?_)
  · have g := mt (eq_N (a := S 0) (b := 99) (by omega) (by decide) (hS 0 (by decide)) rfl).mpr q8
    refine g_aload_n (pc := 14) o 0 dX4_hour_14 rfl rfl ?_
    refine g_V0v (pc := 15) o lkRX4_142 cmX4_keeps (cX4keeps rm hn hpk hp10) rfl (by omega) rfl rfl ⟨Nat.le_refl _, Nat.le_refl _⟩ dX4_hour_15 ?_
    refine g_aload_n (pc := 18) o 0 dX4_hour_18 rfl rfl ?_
    refine g_aload_n (pc := 19) o 0 dX4_hour_19 rfl rfl ?_
    refine g_V0i (pc := 20) o lkRX4_158 cmX4_calledNow (cX4calledNow (mb.kp)) rfl (by omega) rfl rfl ⟨Nat.le_refl _, Nat.le_refl _⟩ dX4_hour_20 ?_
    refine g_V1i (pc := 23) o lkRX4_162 cmX4_asleep (cX4asleep (mb.kp) (mf.kp) (by have := calN6 (S := S) t2; omega)) rfl (by omega) rfl rfl ⟨Nat.le_refl _, Nat.le_refl _⟩ dX4_hour_23 ?_
    refine g_istore_n (pc := 26) o 1 dX4_hour_26 rfl rfl ?_
    refine g_aload_n (pc := 27) o 0 dX4_hour_27 rfl rfl ?_
    refine g_iload_n (pc := 28) o 1 dX4_hour_28 rfl rfl ?_
    refine g_V1i (pc := 29) o lkRX4_165 cmX4_goes (cX4goes (mb.kp) (by have := mSl6 (S := S) (hd := 63) (nv := nv) (sh := sh) (di := di) (dl := dl) (cal := calN T S) t2; omega)) rfl (by omega) rfl rfl ⟨Nat.le_refl _, Nat.le_refl _⟩ dX4_hour_29 ?_
    refine g_pop (pc := 32) o dX4_hour_32 rfl ?_
    refine g_iload_n (pc := 33) o 1 dX4_hour_33 rfl rfl ?_
    exact g_iret (pc := 34) o f dX4_hour_34 rfl (by rw [if_neg g]) (hp_M (by unfold nHour; rw [if_neg g]))
  · have g := (eq_N (a := S 0) (b := 99) (by omega) (by decide) (hS 0 (by decide)) rfl).mp q8
    refine g_bipush (pc := 11) (v := -2) o dX4_hour_11 (by decide) ?_
    exact g_iret (pc := 13) o f dX4_hour_13 rfl (by rw [if_pos g]) (hp_M (by unfold nHour; rw [if_pos g]))

def kepM (M : HM) (v : Int32) : HM := if inn v 2 then st2 (blkM M 102 (21 * v.toNatClampNeg) 21 (fun j => M 100 j)) 103 v.toNatClampNeg 1 else M
def bakM (M : HM) (ik : Nat → Bool) (v : Int32) : HM := if inn v 2 ∧ ik v.toNatClampNeg = true then st2 (rowM M 100 21 (fun j => M 102 (21 * v.toNatClampNeg + j))) 96 7 0 else M
set_option maxHeartbeats 2000000 in
set_option maxRecDepth 20000 in
theorem cX4keep {b : Nat} {T S : Nat → Nat} (mb : MB M Rf n T S b) {v : Int32} : Ret Λ (d + 1) mX4_keep [.ref 96, .int v] (n, M, Rf, Lg) (some (.int (aKeep S v))) (n, kepM M v, Rf, Lg) 0 0 := by
  refine Ret.of rfl rfl rfl (fun κ o f hin => ?_)
  obtain ⟨rm, hn, ht, hT, hS, os, hb9⟩ := id mb
  obtain ⟨y1, y3, y4, y5, y6, y8, y9, y10, y21, y22, y23, y24⟩ := id rm
  obtain ⟨⟨t0, t0b⟩, t1, t2, t3, tD, tC, tN⟩ := id ht
  obtain ⟨os0, os1, os2, osc⟩ := id os
  refine g_iload_n (pc := 0) o 1 dX4_keep_0 rfl rfl ?_
  refine g_iconst (pc := 1) (v := 0) o dX4_keep_1 (by decide) ?_
  refine g_iconst (pc := 2) (v := 1) o dX4_keep_2 (by decide) ?_
  refine g_S3i (pc := 3) o lkRX4_67 cmX4_in (cX4inN 2 (by decide) rfl) rfl rfl ⟨Nat.le_refl _, Nat.le_refl _⟩ dX4_keep_3 ?_
  refine g_if_ne (pc := 6) o 11 dX4_keep_6 (by decide) (fun q6 => ?_) (fun q6 => ?_)
  · have g := bi_nz.mp q6
    obtain ⟨p, hp2, rfl⟩ := inn_of g (by omega)
    have loop : ∀ k c : Nat, c ≤ 21 → 21 < c + k → G (Λ, κ) 13 [some (.ref 96), some (.int (nI p)), some (.int (nI c))] [] (n, blkM M 102 (21 * p) c (fun j => M 100 j), Rf, Lg) 0 0 := by
      intro k
      induction k with
      | zero => intro c h1 h2; exact absurd h2 (by omega)
      | succ k ih =>
        intro c h1 h2
        refine g_iload_n (pc := 13) o 2 dX4_keep_13 rfl rfl ?_
        refine g_bipush (pc := 14) (v := 21) o dX4_keep_14 (by decide) ?_
        refine g_icmp_ge (pc := 16) o 42 dX4_keep_16 (by decide) (fun q16 => ?_) (fun q16 => ?_)
        · have ec : c = 21 := by have := (le_N (a := 21) (b := c) (by omega) (by omega) rfl rfl).mp q16; omega
          refine g_aload_n (pc := 42) o 0 dX4_keep_42 rfl rfl ?_
          refine g_getR (pc := 43) o flRX4_28 rfl (by omega) y9 dX4_keep_43 ?_
          refine g_iload_n (pc := 46) o 1 dX4_keep_46 rfl rfl ?_
          refine g_iconst (pc := 47) (v := 1) o dX4_keep_47 (by decide) ?_
          refine g_zast (pc := 48) o (p) rfl (by omega) rfl (by omega) rfl dX4_keep_48 ?_
          refine g_aload_n (pc := 49) o 0 dX4_keep_49 rfl rfl ?_
          refine g_getR (pc := 50) o flRX4_19 rfl (by omega) y5 dX4_keep_50 ?_
          refine g_iconst (pc := 53) (v := 0) o dX4_keep_53 (by decide) ?_
          refine g_iald (pc := 54) o (0) rfl (by omega) rfl (by omega) dX4_keep_54 ?_
          exact g_iret (pc := 55) o f dX4_keep_55 rfl (by rw [st2_ne2 _ _ (by omega), blkM_ne _ _ _ _ (by decide), hS 0 (by decide)]; unfold aKeep; rw [if_pos g]) (hp_M (by rw [ec]; unfold kepM; rw [if_pos g, nI_clamp (by omega)]))
        · have hc1 : c < 21 := by have := mt (le_N (a := 21) (b := c) (by omega) (by omega) rfl rfl).mpr q16; omega
          refine g_aload_n (pc := 19) o 0 dX4_keep_19 rfl rfl ?_
          refine g_getR (pc := 20) o flRX4_25 rfl (by omega) y8 dX4_keep_20 ?_
          refine g_bipush (pc := 23) (v := 21) o dX4_keep_23 (by decide) ?_
          refine g_iload_n (pc := 25) o 1 dX4_keep_25 rfl rfl ?_
          refine g_imul (pc := 26) o dX4_keep_26 ?_
          refine g_iload_n (pc := 27) o 2 dX4_keep_27 rfl rfl ?_
          refine g_iadd (pc := 28) o dX4_keep_28 ?_
          refine g_aload_n (pc := 29) o 0 dX4_keep_29 rfl rfl ?_
          refine g_getR (pc := 30) o flRX4_19 rfl (by omega) y5 dX4_keep_30 ?_
          refine g_iload_n (pc := 33) o 2 dX4_keep_33 rfl rfl ?_
          refine g_iald (pc := 34) o (c) rfl (by omega) rfl (by omega) dX4_keep_34 ?_
          refine g_iast (pc := 35) o (((21 * p) + c)) rfl (by omega) (nI_addE (nI_mulE rfl rfl) rfl) (by omega) dX4_keep_35 ?_
          refine g_incN (pc := 36) o (c) dX4_keep_36 rfl rfl ?_
          refine g_goto (pc := 39) o 13 dX4_keep_39 (by decide) ?_
          exact g_eq rfl rfl rfl (hp_M (blkM_s M 102 (21 * p) c _ (blkM_ne _ _ _ _ (by decide) _))) (ih (c + 1) (by omega) (by omega))
    refine g_iconst (pc := 11) (v := 0) o dX4_keep_11 (by decide) ?_
    refine g_istore_n (pc := 12) o 2 dX4_keep_12 rfl rfl ?_
    have h9 := loop 22 0 (by omega) (by omega)
    rw [blkM_0] at h9
    exact h9
  · have g := bi_z.mp q6
    refine g_iconst (pc := 9) (v := -1) o dX4_keep_9 (by decide) ?_
    exact g_iret (pc := 10) o f dX4_keep_10 rfl (by unfold aKeep; rw [if_neg g]) (hp_M (by unfold kepM; rw [if_neg g]))

set_option maxHeartbeats 2000000 in
set_option maxRecDepth 20000 in
theorem cX4back {b : Nat} {T S : Nat → Nat} (mb : MB M Rf n T S b) {I : Nat → Nat → Nat} {ik : Nat → Bool} (hik : ∀ i, i < 2 → M 103 i = nI (bn (ik i))) (hI : ∀ i, i < 2 → ik i = true → ∀ k, k < 21 → M 102 (21 * i + k) = nI (I i k)) {v : Int32} : Ret Λ (d + 1) mX4_back [.ref 96, .int v] (n, M, Rf, Lg) (some (.int (aBack I ik v))) (n, bakM M ik v, Rf, Lg) 0 0 := by
  refine Ret.of rfl rfl rfl (fun κ o f hin => ?_)
  obtain ⟨rm, hn, ht, hT, hS, os, hb9⟩ := id mb
  obtain ⟨y1, y3, y4, y5, y6, y8, y9, y10, y21, y22, y23, y24⟩ := id rm
  obtain ⟨⟨t0, t0b⟩, t1, t2, t3, tD, tC, tN⟩ := id ht
  obtain ⟨os0, os1, os2, osc⟩ := id os
  refine g_iload_n (pc := 0) o 1 dX4_back_0 rfl rfl ?_
  refine g_iconst (pc := 1) (v := 0) o dX4_back_1 (by decide) ?_
  refine g_iconst (pc := 2) (v := 1) o dX4_back_2 (by decide) ?_
  refine g_S3i (pc := 3) o lkRX4_67 cmX4_in (cX4inN 2 (by decide) rfl) rfl rfl ⟨Nat.le_refl _, Nat.le_refl _⟩ dX4_back_3 ?_
  refine g_if_ne (pc := 6) o 11 dX4_back_6 (by decide) (fun q6 => ?_) (fun q6 => ?_)
  · have g := bi_nz.mp q6
    obtain ⟨p, hp2, rfl⟩ := inn_of g (by omega)
    have loop : ik p = true → ∀ k c : Nat, c ≤ 21 → 21 < c + k → G (Λ, κ) 25 [some (.ref 96), some (.int (nI p)), some (.int (nI c))] [] (n, rowM M 100 c (fun j => M 102 (21 * p + j)), Rf, Lg) 0 0 := by
      intro g2
      intro k
      induction k with
      | zero => intro c h1 h2; exact absurd h2 (by omega)
      | succ k ih =>
        intro c h1 h2
        refine g_iload_n (pc := 25) o 2 dX4_back_25 rfl rfl ?_
        refine g_bipush (pc := 26) (v := 21) o dX4_back_26 (by decide) ?_
        refine g_icmp_ge (pc := 28) o 54 dX4_back_28 (by decide) (fun q28 => ?_) (fun q28 => ?_)
        · have ec : c = 21 := by have := (le_N (a := 21) (b := c) (by omega) (by omega) rfl rfl).mp q28; omega
          refine g_aload_n (pc := 54) o 0 dX4_back_54 rfl rfl ?_
          refine g_iconst (pc := 55) (v := 0) o dX4_back_55 (by decide) ?_
          refine g_putI (pc := 56) o flRX4_127 rfl rfl (by omega) rfl rfl dX4_back_56 ?_
          refine g_aload_n (pc := 59) o 0 dX4_back_59 rfl rfl ?_
          refine g_getR (pc := 60) o flRX4_19 rfl (by omega) y5 dX4_back_60 ?_
          refine g_iconst (pc := 63) (v := 0) o dX4_back_63 (by decide) ?_
          refine g_iald (pc := 64) o (0) rfl (by omega) rfl (by omega) dX4_back_64 ?_
          exact g_iret (pc := 65) o f dX4_back_65 rfl (by rw [st2_ne2 _ _ (by omega), ec, rowM_in _ _ _ (by decide), hI p hp2 g2 0 (by decide)]; unfold aBack; rw [if_pos g, nI_clamp (by omega), if_pos g2]) (hp_M (by rw [ec]; unfold bakM; rw [if_pos ⟨g, by rw [nI_clamp (by omega)]; exact g2⟩, nI_clamp (by omega)]))
        · have hc1 : c < 21 := by have := mt (le_N (a := 21) (b := c) (by omega) (by omega) rfl rfl).mpr q28; omega
          refine g_aload_n (pc := 31) o 0 dX4_back_31 rfl rfl ?_
          refine g_getR (pc := 32) o flRX4_19 rfl (by omega) y5 dX4_back_32 ?_
          refine g_iload_n (pc := 35) o 2 dX4_back_35 rfl rfl ?_
          refine g_aload_n (pc := 36) o 0 dX4_back_36 rfl rfl ?_
          refine g_getR (pc := 37) o flRX4_25 rfl (by omega) y8 dX4_back_37 ?_
          refine g_bipush (pc := 40) (v := 21) o dX4_back_40 (by decide) ?_
          refine g_iload_n (pc := 42) o 1 dX4_back_42 rfl rfl ?_
          refine g_imul (pc := 43) o dX4_back_43 ?_
          refine g_iload_n (pc := 44) o 2 dX4_back_44 rfl rfl ?_
          refine g_iadd (pc := 45) o dX4_back_45 ?_
          refine g_iald (pc := 46) o (((21 * p) + c)) rfl (by omega) (nI_addE (nI_mulE rfl rfl) rfl) (by omega) dX4_back_46 ?_
          refine g_iast (pc := 47) o (c) rfl (by omega) rfl (by omega) dX4_back_47 ?_
          refine g_incN (pc := 48) o (c) dX4_back_48 rfl rfl ?_
          refine g_goto (pc := 51) o 25 dX4_back_51 (by decide) ?_
          exact g_eq rfl rfl rfl (hp_M (rowM_s M 100 c (fun j => M 102 (21 * p + j)) (rowM_ne _ _ _ (by decide) _))) (ih (c + 1) (by omega) (by omega))
    refine g_aload_n (pc := 11) o 0 dX4_back_11 rfl rfl ?_
    refine g_getR (pc := 12) o flRX4_28 rfl (by omega) y9 dX4_back_12 ?_
    refine g_iload_n (pc := 15) o 1 dX4_back_15 rfl rfl ?_
    refine g_zald (pc := 16) o (p) rfl (by omega) rfl (by omega) dX4_back_16 ?_
    rw [hik p hp2]
    refine g_if_ne (pc := 17) o 23 dX4_back_17 (by decide) (fun q17 => ?_) (fun q17 => ?_)
    · have g2 : ik p = true := by have h := mt bn_zero.mpr q17; simpa using h
      refine g_iconst (pc := 23) (v := 0) o dX4_back_23 (by decide) ?_
      refine g_istore_n (pc := 24) o 2 dX4_back_24 rfl rfl ?_
      have h9 := loop g2 22 0 (by omega) (by omega)
      rw [rowM_0] at h9
      exact h9
    · have g2 : ik p = false := bn_zero.mp q17
      refine g_bipush (pc := 20) (v := -2) o dX4_back_20 (by decide) ?_
      exact g_iret (pc := 22) o f dX4_back_22 rfl (by unfold aBack; rw [if_pos g, nI_clamp (by omega), if_neg (by rw [g2]; decide)]) (hp_M (by unfold bakM; rw [if_neg (fun h => by rw [nI_clamp (by omega), g2] at h; exact absurd h.2 (by decide))]))
  · have g := bi_z.mp q6
    refine g_iconst (pc := 9) (v := -1) o dX4_back_9 (by decide) ?_
    exact g_iret (pc := 10) o f dX4_back_10 rfl (by unfold aBack; rw [if_neg g]) (hp_M (by unfold bakM; rw [if_neg (fun h => g h.1)]))

end M20
