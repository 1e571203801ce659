section M19
variable {Λ : PL} {d n : Nat} {M : HM} {Rf : HR} {Lg : HL}

def goM (M : HM) (T S : Nat → Nat) (w : Nat) : HM := rowM M 100 21 (fun j => nI (stepS T S w j))
def goC (M : HM) (T S : Nat → Nat) (w c : Nat) : HM := fun z j => if z = 100 ∧ ((3 ≤ j ∧ j < 3 + c) ∨ (15 ≤ j ∧ j < 15 + c)) then nI (stepS T S w j) else M z j
theorem goC_0 (M : HM) (T S : Nat → Nat) (w : Nat) : goC M T S w 0 = M := by
  funext z j
  unfold goC
  rw [if_neg (by omega)]
theorem goC_s (M : HM) (T S : Nat → Nat) (w : Nat) {c : Nat} (hc : c < 6) {v1 v2 : Int32} (h1 : v1 = nI (stepS T S w (3 + c))) (h2 : v2 = nI (stepS T S w (15 + c))) : st2 (st2 (goC M T S w c) 100 (3 + c) v1) 100 (15 + c) v2 = goC M T S w (c + 1) := by
  funext z j
  unfold goC st2
  subst h1 h2
  grind
theorem goC_at (M : HM) (T S : Nat → Nat) (w : Nat) {c j : Nat} (h : ¬ ((3 ≤ j ∧ j < 3 + c) ∨ (15 ≤ j ∧ j < 15 + c))) : goC M T S w c 100 j = M 100 j := by
  unfold goC
  rw [if_neg (fun q => h q.2)]
theorem goC_ne (M : HM) (T S : Nat → Nat) (w c : Nat) {z : Nat} (h : z ≠ 100) (j : Nat) : goC M T S w c z j = M z j := by
  unfold goC
  rw [if_neg (fun q => h q.1)]
theorem gv : ∀ v, v < 21 → ∀ t : Bool, (if 0 ≤ nI v + (if t then (-2) else 1) then (if nI v + (if t then (-2) else 1) ≤ 20 then nI v + (if t then (-2) else 1) else 20) else 0) = nI (tirN t v) := by decide +kernel
theorem goM_ne (M : HM) (T S : Nat → Nat) (w : Nat) {z : Nat} (h : z ≠ 100) : goM M T S w z = M z := by
  funext j; exact rowM_ne _ _ _ h j
theorem goM_row (M : HM) (T S : Nat → Nat) (w : Nat) : mR (goM M T S w) 100 21 (stepS T S w) := fun k hk => rowM_in _ _ _ hk
theorem step_3 {T S : Nat → Nat} {w c : Nat} (h : c < T 2) (h6 : c < 6) : stepS T S w (3 + c) = tirN (w.testBit c) (S (3 + c)) := by
  unfold stepS
  rw [if_neg (by omega), if_neg (by omega), if_neg (by omega), if_pos (by omega), show 3 + c - 3 = c by omega, if_pos h]
theorem step_15 {T S : Nat → Nat} {w c : Nat} (h : c < T 2) (h6 : c < 6) : stepS T S w (15 + c) = S (15 + c) + bn (w.testBit c) := by
  unfold stepS
  rw [if_neg (by omega), if_neg (by omega), if_neg (by omega), if_neg (by omega), if_neg (by omega), show 15 + c - 15 = c by omega, if_pos h]
theorem go_end {M : HM} {T S : Nat → Nat} {w b : Nat} (hS : mR M 100 21 S) (t2 : T 2 ≤ 6) (os1 : S 1 < 8) {a0 a1 a2 : Int32} (h0 : a0 = nI (stepS T S w 0)) (h1 : a1 = nI (stepS T S w 1)) (h2 : a2 = nI (stepS T S w 2)) {M' : HM} (hM : ∀ z j, M' z j = if z = 100 ∧ j = 0 then a0 else if z = 100 ∧ j = 1 then a1 else if z = 100 ∧ j = 2 then a2 else goC M T S w (T 2) z j) : M' = goM M T S w := by
  funext z j
  rw [hM]
  unfold goM rowM goC
  subst h0 h1 h2
  by_cases hz : z = 100
  · subst hz
    by_cases j0 : j = 0
    · subst j0; simp
    by_cases j1 : j = 1
    · subst j1; simp
    by_cases j2 : j = 2
    · subst j2; simp
    by_cases j21 : j < 21
    · by_cases hq : (3 ≤ j ∧ j < 3 + T 2) ∨ (15 ≤ j ∧ j < 15 + T 2)
      · simp [j0, j1, j2, hq, j21]
      · simp only [j0, j1, j2, hq, j21, and_false, if_false, and_true, if_true]
        rw [hS j j21]
        congr 1
        unfold stepS
        rw [if_neg j0, if_neg j1, if_neg j2]
        by_cases a : j < 9
        · rw [if_pos a, if_neg (by omega)]
        · rw [if_neg a]
          by_cases a2 : j < 15
          · rw [if_pos a2]
          · rw [if_neg a2, if_neg (by omega)]
    · have hq : ¬ ((3 ≤ j ∧ j < 3 + T 2) ∨ (15 ≤ j ∧ j < 15 + T 2)) := by omega
      simp [j0, j1, j2, hq, j21]
  · simp [hz]

theorem go_fin_a {M : HM} {T S : Nat → Nat} {w c : Nat} (hS : mR M 100 21 S) (t2 : T 2 ≤ 6) (os1 : S 1 < 8) (ec : c = T 2) (g2 : T 1 ≤ pop w) (g3 : ¬ S 1 + 1 = 8) (k0 : goC M T S w c 100 0 = nI (S 0)) (k1 : goC M T S w c 100 1 = nI (S 1)) (k2 : goC M T S w c 100 2 = nI (S 2)) : (st2 (st2 (goC M T S w c) 100 2 (goC M T S w c 100 2 + 0)) 100 1 ((st2 (goC M T S w c) 100 2 (goC M T S w c 100 2 + 0)) 100 1 + 1)) = goM M T S w := by
  refine go_end (b := 0) hS t2 os1 (a0 := nI (S 0)) (a1 := nI (S 1 + 1)) (a2 := nI (S 2)) (by unfold stepS; rw [if_pos rfl, if_pos (by omega)]) (by unfold stepS; rw [if_neg (by decide), if_pos rfl, if_pos (by omega)]) (by unfold stepS; rw [if_neg (by decide), if_neg (by decide), if_pos rfl, if_neg (by omega)]) (fun z j => ?_)
  subst ec
  have z2 : goC M T S w (T 2) 100 2 + 0 = nI (S 2) := by rw [k2]; exact Int32.add_zero _
  rw [z2]
  have z1 : goC M T S w (T 2) 100 1 + 1 = nI (S 1 + 1) := by rw [k1]; exact (nI_succ _).symm
  rw [st2_ne2 (goC M T S w (T 2)) (nI (S 2)) (show ¬ ((100 : Nat) = 100 ∧ (1 : Nat) = 2) by omega), z1]
  unfold st2
  grind
theorem go_fin_b {M : HM} {T S : Nat → Nat} {w c : Nat} (hS : mR M 100 21 S) (t2 : T 2 ≤ 6) (os1 : S 1 < 8) (ec : c = T 2) (g2 : ¬ T 1 ≤ pop w) (g3 : ¬ S 1 + 1 = 8) (k0 : goC M T S w c 100 0 = nI (S 0)) (k1 : goC M T S w c 100 1 = nI (S 1)) (k2 : goC M T S w c 100 2 = nI (S 2)) : (st2 (st2 (goC M T S w c) 100 2 (goC M T S w c 100 2 + 1)) 100 1 ((st2 (goC M T S w c) 100 2 (goC M T S w c 100 2 + 1)) 100 1 + 1)) = goM M T S w := by
  refine go_end (b := 0) hS t2 os1 (a0 := nI (S 0)) (a1 := nI (S 1 + 1)) (a2 := nI (S 2 + 1)) (by unfold stepS; rw [if_pos rfl, if_pos (by omega)]) (by unfold stepS; rw [if_neg (by decide), if_pos rfl, if_pos (by omega)]) (by unfold stepS; rw [if_neg (by decide), if_neg (by decide), if_pos rfl, if_pos (by omega)]) (fun z j => ?_)
  subst ec
  have z2 : goC M T S w (T 2) 100 2 + 1 = nI (S 2 + 1) := by rw [k2]; exact (nI_succ _).symm
  rw [z2]
  have z1 : goC M T S w (T 2) 100 1 + 1 = nI (S 1 + 1) := by rw [k1]; exact (nI_succ _).symm
  rw [st2_ne2 (goC M T S w (T 2)) (nI (S 2 + 1)) (show ¬ ((100 : Nat) = 100 ∧ (1 : Nat) = 2) by omega), z1]
  unfold st2
  grind
theorem go_fin_c {M : HM} {T S : Nat → Nat} {w c : Nat} (hS : mR M 100 21 S) (t2 : T 2 ≤ 6) (os1 : S 1 < 8) (ec : c = T 2) (g2 : T 1 ≤ pop w) (g3 : S 1 + 1 = 8) (k0 : goC M T S w c 100 0 = nI (S 0)) (k1 : goC M T S w c 100 1 = nI (S 1)) (k2 : goC M T S w c 100 2 = nI (S 2)) : (st2 (st2 (st2 (st2 (goC M T S w c) 100 2 (goC M T S w c 100 2 + 0)) 100 1 ((st2 (goC M T S w c) 100 2 (goC M T S w c 100 2 + 0)) 100 1 + 1)) 100 1 0) 100 0 ((st2 (st2 (st2 (goC M T S w c) 100 2 (goC M T S w c 100 2 + 0)) 100 1 ((st2 (goC M T S w c) 100 2 (goC M T S w c 100 2 + 0)) 100 1 + 1)) 100 1 0) 100 0 + 1)) = goM M T S w := by
  refine go_end (b := 0) hS t2 os1 (a0 := nI (S 0 + 1)) (a1 := 0) (a2 := nI (S 2)) (by unfold stepS; rw [if_pos rfl, if_neg (by omega)]) (by unfold stepS; rw [if_neg (by decide), if_pos rfl, if_neg (by omega)]; rfl) (by unfold stepS; rw [if_neg (by decide), if_neg (by decide), if_pos rfl, if_neg (by omega)]) (fun z j => ?_)
  subst ec
  have z2 : goC M T S w (T 2) 100 2 + 0 = nI (S 2) := by rw [k2]; exact Int32.add_zero _
  rw [z2]
  have z1 : goC M T S w (T 2) 100 1 + 1 = nI (S 1 + 1) := by rw [k1]; exact (nI_succ _).symm
  rw [st2_ne2 (goC M T S w (T 2)) (nI (S 2)) (show ¬ ((100 : Nat) = 100 ∧ (1 : Nat) = 2) by omega), z1]
  have z0 : goC M T S w (T 2) 100 0 + 1 = nI (S 0 + 1) := by rw [k0]; exact (nI_succ _).symm
  rw [st2_ne2 _ (0 : Int32) (show ¬ ((100 : Nat) = 100 ∧ (0 : Nat) = 1) by omega), st2_ne2 _ (nI (S 1 + 1)) (show ¬ ((100 : Nat) = 100 ∧ (0 : Nat) = 1) by omega), st2_ne2 _ (nI (S 2)) (show ¬ ((100 : Nat) = 100 ∧ (0 : Nat) = 2) by omega), z0]
  unfold st2
  grind
theorem go_fin_d {M : HM} {T S : Nat → Nat} {w c : Nat} (hS : mR M 100 21 S) (t2 : T 2 ≤ 6) (os1 : S 1 < 8) (ec : c = T 2) (g2 : ¬ T 1 ≤ pop w) (g3 : S 1 + 1 = 8) (k0 : goC M T S w c 100 0 = nI (S 0)) (k1 : goC M T S w c 100 1 = nI (S 1)) (k2 : goC M T S w c 100 2 = nI (S 2)) : (st2 (st2 (st2 (st2 (goC M T S w c) 100 2 (goC M T S w c 100 2 + 1)) 100 1 ((st2 (goC M T S w c) 100 2 (goC M T S w c 100 2 + 1)) 100 1 + 1)) 100 1 0) 100 0 ((st2 (st2 (st2 (goC M T S w c) 100 2 (goC M T S w c 100 2 + 1)) 100 1 ((st2 (goC M T S w c) 100 2 (goC M T S w c 100 2 + 1)) 100 1 + 1)) 100 1 0) 100 0 + 1)) = goM M T S w := by
  refine go_end (b := 0) hS t2 os1 (a0 := nI (S 0 + 1)) (a1 := 0) (a2 := nI (S 2 + 1)) (by unfold stepS; rw [if_pos rfl, if_neg (by omega)]) (by unfold stepS; rw [if_neg (by decide), if_pos rfl, if_neg (by omega)]; rfl) (by unfold stepS; rw [if_neg (by decide), if_neg (by decide), if_pos rfl, if_pos (by omega)]) (fun z j => ?_)
  subst ec
  have z2 : goC M T S w (T 2) 100 2 + 1 = nI (S 2 + 1) := by rw [k2]; exact (nI_succ _).symm
  rw [z2]
  have z1 : goC M T S w (T 2) 100 1 + 1 = nI (S 1 + 1) := by rw [k1]; exact (nI_succ _).symm
  rw [st2_ne2 (goC M T S w (T 2)) (nI (S 2 + 1)) (show ¬ ((100 : Nat) = 100 ∧ (1 : Nat) = 2) by omega), z1]
  have z0 : goC M T S w (T 2) 100 0 + 1 = nI (S 0 + 1) := by rw [k0]; exact (nI_succ _).symm
  rw [st2_ne2 _ (0 : Int32) (show ¬ ((100 : Nat) = 100 ∧ (0 : Nat) = 1) by omega), st2_ne2 _ (nI (S 1 + 1)) (show ¬ ((100 : Nat) = 100 ∧ (0 : Nat) = 1) by omega), st2_ne2 _ (nI (S 2 + 1)) (show ¬ ((100 : Nat) = 100 ∧ (0 : Nat) = 2) by omega), z0]
  unfold st2
  grind
set_option maxHeartbeats 2000000 in
set_option maxRecDepth 20000 in
theorem cX4goes {b : Nat} {T S : Nat → Nat} (mb : MB M Rf n T S b) {w : Nat} (hw : w < 256) : Ret Λ (d + 1) mX4_goes [.ref 96, .int (nI w)] (n, M, Rf, Lg) (some (.int (bi (pop w < T 1)))) (n, goM M T S w, Rf, Lg) 0 0 := by
  refine Ret.of rfl rfl rfl (fun κ o f hin => ?_)
  obtain ⟨rm, hn, ht, hT, hS, os, hb9⟩ := id mb
  obtain ⟨y1, y3, y4, y5, y6, y8, y9, y10, y21, y22, y23, y24⟩ := id rm
  obtain ⟨⟨t0, t0b⟩, t1, t2, t3, tD, tC, tN⟩ := id ht
  obtain ⟨os0, os1, os2, osc⟩ := id os
  have loop : ∀ (k c : Nat) (x x2), c ≤ T 2 → T 2 < c + k → G (Λ, κ) 2 [some (.ref 96), some (.int (nI w)), some (.int (nI c)), x, x2] [] (n, goC M T S w c, Rf, Lg) 0 0 := by
    intro k
    induction k with
    | zero => intro c x x2 h1 h2; exact absurd h2 (by omega)
    | succ k ih =>
      intro c x x2 h1 h2
      refine g_iload_n (pc := 2) o 2 dX4_goes_2 rfl rfl ?_
      refine g_aload_n (pc := 3) o 0 dX4_goes_3 rfl rfl ?_
      refine g_getR (pc := 4) o flRX4_13 rfl (by omega) y3 dX4_goes_4 ?_
      refine g_iconst (pc := 7) (v := 2) o dX4_goes_7 (by decide) ?_
      refine g_iald (pc := 8) o (2) rfl (by omega) rfl (by omega) dX4_goes_8 ?_
      refine g_icmp_ge (pc := 9) o 106 dX4_goes_9 (by decide) (fun q9 => ?_) (fun q9 => ?_)
      · have ec : c = T 2 := by have := (le_N (a := T 2) (b := c) (by omega) (by omega) (by rw [goC_ne _ _ _ _ _ (by decide)]; exact hT 2 (by decide)) rfl).mp q9; omega
        have pl := pop_le w
        have k0 : goC M T S w c 100 0 = nI (S 0) := by rw [goC_at M T S w (by omega), hS 0 (by decide)]
        have k1 : goC M T S w c 100 1 = nI (S 1) := by rw [goC_at M T S w (by omega), hS 1 (by decide)]
        have k2 : goC M T S w c 100 2 = nI (S 2) := by rw [goC_at M T S w (by omega), hS 2 (by decide)]
        refine g_iload_n (pc := 106) o 1 dX4_goes_106 rfl rfl ?_
        refine g_S1i (pc := 107) o lkRX4_155 cmX4_ones (cX4ones (by omega)) rfl rfl ⟨Nat.le_refl _, Nat.le_refl _⟩ dX4_goes_107 ?_
        refine g_aload_n (pc := 110) o 0 dX4_goes_110 rfl rfl ?_
        refine g_getR (pc := 111) o flRX4_13 rfl (by omega) y3 dX4_goes_111 ?_
        refine g_iconst (pc := 114) (v := 1) o dX4_goes_114 (by decide) ?_
        refine g_iald (pc := 115) o (1) rfl (by omega) rfl (by omega) dX4_goes_115 ?_
        rw [show goC M T S w c 98 1 = nI (T 1) from by rw [goC_ne _ _ _ _ _ (by decide)]; exact hT 1 (by decide)]
        refine g_icmp_ge (pc := 116) o 123 dX4_goes_116 (by decide) (fun q116 => ?_) (fun q116 => ?_)
        · have g2 := (le_N (b := pop w) (by omega) (by omega) rfl rfl).mp q116
          refine g_iconst (pc := 123) (v := 0) o dX4_goes_123 (by decide) ?_
          skip
          refine g_istore_n (pc := 124) o 2 dX4_goes_124 rfl rfl ?_
          refine g_aload_n (pc := 125) o 0 dX4_goes_125 rfl rfl ?_
          refine g_getR (pc := 126) o flRX4_19 rfl (by omega) y5 dX4_goes_126 ?_
          refine g_iconst (pc := 129) (v := 2) o dX4_goes_129 (by decide) ?_
          refine g_dup2 (pc := 130) o dX4_goes_130 rfl rfl ?_
          refine g_iald (pc := 131) o (2) rfl (by omega) rfl (by omega) dX4_goes_131 ?_
          refine g_iload_n (pc := 132) o 2 dX4_goes_132 rfl rfl ?_
          refine g_if_eq (pc := 133) o 140 dX4_goes_133 (by decide) (fun q133 => ?_) (fun q133 => ?_)
          · refine g_iconst (pc := 140) (v := 0) o dX4_goes_140 (by decide) ?_
            refine g_iadd (pc := 141) o dX4_goes_141 ?_
            refine g_iast (pc := 142) o (2) rfl (by omega) rfl (by omega) dX4_goes_142 ?_
            skip
            refine g_aload_n (pc := 143) o 0 dX4_goes_143 rfl rfl ?_
            refine g_getR (pc := 144) o flRX4_19 rfl (by omega) y5 dX4_goes_144 ?_
            refine g_iconst (pc := 147) (v := 1) o dX4_goes_147 (by decide) ?_
            refine g_dup2 (pc := 148) o dX4_goes_148 rfl rfl ?_
            refine g_iald (pc := 149) o (1) rfl (by omega) rfl (by omega) dX4_goes_149 ?_
            refine g_iconst (pc := 150) (v := 1) o dX4_goes_150 (by decide) ?_
            refine g_iadd (pc := 151) o dX4_goes_151 ?_
            refine g_iast (pc := 152) o (1) rfl (by omega) rfl (by omega) dX4_goes_152 ?_
            refine g_aload_n (pc := 153) o 0 dX4_goes_153 rfl rfl ?_
            refine g_getR (pc := 154) o flRX4_19 rfl (by omega) y5 dX4_goes_154 ?_
            refine g_iconst (pc := 157) (v := 1) o dX4_goes_157 (by decide) ?_
            refine g_iald (pc := 158) o (1) rfl (by omega) rfl (by omega) dX4_goes_158 ?_
            refine g_bipush (pc := 159) (v := 8) o dX4_goes_159 (by decide) ?_
            refine g_icmp_ne (pc := 161) o 181 dX4_goes_161 (by decide) (fun q161 => ?_) (fun q161 => ?_)
            · have g3 : ¬ S 1 + 1 = 8 := by
                intro h
                apply q161
                show st2 _ 100 1 _ 100 1 = _
                rw [st2_same, st2_ne2 _ _ (by omega), k1, ← nI_succ, h]; rfl
              refine g_iload_n (pc := 181) o 2 dX4_goes_181 rfl rfl ?_
              exact g_iret (pc := 182) o f dX4_goes_182 rfl (by first | exact (bi_t (by omega)).symm | exact (bi_f (by omega)).symm) (hp_M (by first | exact go_fin_a hS t2 os1 ec g2 g3 k0 k1 k2 | exact go_fin_b hS t2 os1 ec g2 g3 k0 k1 k2 | exact go_fin_c hS t2 os1 ec g2 g3 k0 k1 k2 | exact go_fin_d hS t2 os1 ec g2 g3 k0 k1 k2))
            · have g3 : S 1 + 1 = 8 := by
                have h := q161
                rw [st2_same, st2_ne2 _ _ (by omega), k1, ← nI_succ] at h
                exact (nI_eq (a := S 1 + 1) (b := 8) (by omega) (by decide)).mp h
              refine g_aload_n (pc := 164) o 0 dX4_goes_164 rfl rfl ?_
              refine g_getR (pc := 165) o flRX4_19 rfl (by omega) y5 dX4_goes_165 ?_
              refine g_iconst (pc := 168) (v := 1) o dX4_goes_168 (by decide) ?_
              refine g_iconst (pc := 169) (v := 0) o dX4_goes_169 (by decide) ?_
              refine g_iast (pc := 170) o (1) rfl (by omega) rfl (by omega) dX4_goes_170 ?_
              refine g_aload_n (pc := 171) o 0 dX4_goes_171 rfl rfl ?_
              refine g_getR (pc := 172) o flRX4_19 rfl (by omega) y5 dX4_goes_172 ?_
              refine g_iconst (pc := 175) (v := 0) o dX4_goes_175 (by decide) ?_
              refine g_dup2 (pc := 176) o dX4_goes_176 rfl rfl ?_
              refine g_iald (pc := 177) o (0) rfl (by omega) rfl (by omega) dX4_goes_177 ?_
              refine g_iconst (pc := 178) (v := 1) o dX4_goes_178 (by decide) ?_
              refine g_iadd (pc := 179) o dX4_goes_179 ?_
              refine g_iast (pc := 180) o (0) rfl (by omega) rfl (by omega) dX4_goes_180 ?_
              refine g_iload_n (pc := 181) o 2 dX4_goes_181 rfl rfl ?_
              exact g_iret (pc := 182) o f dX4_goes_182 rfl (by first | exact (bi_t (by omega)).symm | exact (bi_f (by omega)).symm) (hp_M (by first | exact go_fin_a hS t2 os1 ec g2 g3 k0 k1 k2 | exact go_fin_b hS t2 os1 ec g2 g3 k0 k1 k2 | exact go_fin_c hS t2 os1 ec g2 g3 k0 k1 k2 | exact go_fin_d hS t2 os1 ec g2 g3 k0 k1 k2))
          · exact absurd (by decide) q133
        · have g2 := mt (le_N (b := pop w) (by omega) (by omega) rfl rfl).mpr q116
          refine g_iconst (pc := 119) (v := 1) o dX4_goes_119 (by decide) ?_
          refine g_goto (pc := 120) o 124 dX4_goes_120 (by decide) ?_
          skip
          refine g_istore_n (pc := 124) o 2 dX4_goes_124 rfl rfl ?_
          refine g_aload_n (pc := 125) o 0 dX4_goes_125 rfl rfl ?_
          refine g_getR (pc := 126) o flRX4_19 rfl (by omega) y5 dX4_goes_126 ?_
          refine g_iconst (pc := 129) (v := 2) o dX4_goes_129 (by decide) ?_
          refine g_dup2 (pc := 130) o dX4_goes_130 rfl rfl ?_
          refine g_iald (pc := 131) o (2) rfl (by omega) rfl (by omega) dX4_goes_131 ?_
          refine g_iload_n (pc := 132) o 2 dX4_goes_132 rfl rfl ?_
          refine g_if_eq (pc := 133) o 140 dX4_goes_133 (by decide) (fun q133 => ?_) (fun q133 => ?_)
          · exact absurd q133 (by decide)
          · refine g_iconst (pc := 136) (v := 1) o dX4_goes_136 (by decide) ?_
            refine g_goto (pc := 137) o 141 dX4_goes_137 (by decide) ?_
            refine g_iadd (pc := 141) o dX4_goes_141 ?_
            refine g_iast (pc := 142) o (2) rfl (by omega) rfl (by omega) dX4_goes_142 ?_
            skip
            refine g_aload_n (pc := 143) o 0 dX4_goes_143 rfl rfl ?_
            refine g_getR (pc := 144) o flRX4_19 rfl (by omega) y5 dX4_goes_144 ?_
            refine g_iconst (pc := 147) (v := 1) o dX4_goes_147 (by decide) ?_
            refine g_dup2 (pc := 148) o dX4_goes_148 rfl rfl ?_
            refine g_iald (pc := 149) o (1) rfl (by omega) rfl (by omega) dX4_goes_149 ?_
            refine g_iconst (pc := 150) (v := 1) o dX4_goes_150 (by decide) ?_
            refine g_iadd (pc := 151) o dX4_goes_151 ?_
            refine g_iast (pc := 152) o (1) rfl (by omega) rfl (by omega) dX4_goes_152 ?_
            refine g_aload_n (pc := 153) o 0 dX4_goes_153 rfl rfl ?_
            refine g_getR (pc := 154) o flRX4_19 rfl (by omega) y5 dX4_goes_154 ?_
            refine g_iconst (pc := 157) (v := 1) o dX4_goes_157 (by decide) ?_
            refine g_iald (pc := 158) o (1) rfl (by omega) rfl (by omega) dX4_goes_158 ?_
            refine g_bipush (pc := 159) (v := 8) o dX4_goes_159 (by decide) ?_
            refine g_icmp_ne (pc := 161) o 181 dX4_goes_161 (by decide) (fun q161 => ?_) (fun q161 => ?_)
            · have g3 : ¬ S 1 + 1 = 8 := by
                intro h
                apply q161
                show st2 _ 100 1 _ 100 1 = _
                rw [st2_same, st2_ne2 _ _ (by omega), k1, ← nI_succ, h]; rfl
              refine g_iload_n (pc := 181) o 2 dX4_goes_181 rfl rfl ?_
              exact g_iret (pc := 182) o f dX4_goes_182 rfl (by first | exact (bi_t (by omega)).symm | exact (bi_f (by omega)).symm) (hp_M (by first | exact go_fin_a hS t2 os1 ec g2 g3 k0 k1 k2 | exact go_fin_b hS t2 os1 ec g2 g3 k0 k1 k2 | exact go_fin_c hS t2 os1 ec g2 g3 k0 k1 k2 | exact go_fin_d hS t2 os1 ec g2 g3 k0 k1 k2))
            · have g3 : S 1 + 1 = 8 := by
                have h := q161
                rw [st2_same, st2_ne2 _ _ (by omega), k1, ← nI_succ] at h
                exact (nI_eq (a := S 1 + 1) (b := 8) (by omega) (by decide)).mp h
              refine g_aload_n (pc := 164) o 0 dX4_goes_164 rfl rfl ?_
              refine g_getR (pc := 165) o flRX4_19 rfl (by omega) y5 dX4_goes_165 ?_
              refine g_iconst (pc := 168) (v := 1) o dX4_goes_168 (by decide) ?_
              refine g_iconst (pc := 169) (v := 0) o dX4_goes_169 (by decide) ?_
              refine g_iast (pc := 170) o (1) rfl (by omega) rfl (by omega) dX4_goes_170 ?_
              refine g_aload_n (pc := 171) o 0 dX4_goes_171 rfl rfl ?_
              refine g_getR (pc := 172) o flRX4_19 rfl (by omega) y5 dX4_goes_172 ?_
              refine g_iconst (pc := 175) (v := 0) o dX4_goes_175 (by decide) ?_
              refine g_dup2 (pc := 176) o dX4_goes_176 rfl rfl ?_
              refine g_iald (pc := 177) o (0) rfl (by omega) rfl (by omega) dX4_goes_177 ?_
              refine g_iconst (pc := 178) (v := 1) o dX4_goes_178 (by decide) ?_
              refine g_iadd (pc := 179) o dX4_goes_179 ?_
              refine g_iast (pc := 180) o (0) rfl (by omega) rfl (by omega) dX4_goes_180 ?_
              refine g_iload_n (pc := 181) o 2 dX4_goes_181 rfl rfl ?_
              exact g_iret (pc := 182) o f dX4_goes_182 rfl (by first | exact (bi_t (by omega)).symm | exact (bi_f (by omega)).symm) (hp_M (by first | exact go_fin_a hS t2 os1 ec g2 g3 k0 k1 k2 | exact go_fin_b hS t2 os1 ec g2 g3 k0 k1 k2 | exact go_fin_c hS t2 os1 ec g2 g3 k0 k1 k2 | exact go_fin_d hS t2 os1 ec g2 g3 k0 k1 k2))
      · have hc1 : c < T 2 := by have := mt (le_N (a := T 2) (b := c) (by omega) (by omega) (by rw [goC_ne _ _ _ _ _ (by decide)]; exact hT 2 (by decide)) rfl).mpr q9; omega
        have hy := osc c hc1
        refine g_iload_n (pc := 12) o 1 dX4_goes_12 rfl rfl ?_
        refine g_iload_n (pc := 13) o 2 dX4_goes_13 rfl rfl ?_
        refine g_ishr (pc := 14) o dX4_goes_14 ?_
        refine g_iconst (pc := 15) (v := 1) o dX4_goes_15 (by decide) ?_
        refine g_iand (pc := 16) o dX4_goes_16 ?_
        rw [n_bit (by omega) (by omega)]
        refine g_iconst (pc := 17) (v := 1) o dX4_goes_17 (by decide) ?_
        refine g_icmp_ne (pc := 18) o 25 dX4_goes_18 (by decide) (fun q18 => ?_) (fun q18 => ?_)
        · have g1 : w.testBit c = false := by have h := mt bn_one.mpr q18; simpa using h
          refine g_iconst (pc := 25) (v := 0) o dX4_goes_25 (by decide) ?_
          refine g_istore_n (pc := 26) o 3 dX4_goes_26 rfl rfl ?_
          refine g_aload_n (pc := 27) o 0 dX4_goes_27 rfl rfl ?_
          refine g_getR (pc := 28) o flRX4_19 rfl (by omega) y5 dX4_goes_28 ?_
          refine g_iconst (pc := 31) (v := 3) o dX4_goes_31 (by decide) ?_
          refine g_iload_n (pc := 32) o 2 dX4_goes_32 rfl rfl ?_
          refine g_iadd (pc := 33) o dX4_goes_33 ?_
          refine g_iald (pc := 34) o ((3 + c)) rfl (by omega) (nI_addE rfl rfl) (by omega) dX4_goes_34 ?_
          rw [goC_at M T S w (by omega), hS (3 + c) (by omega)]
          refine g_iload_n (pc := 35) o 3 dX4_goes_35 rfl rfl ?_
          refine g_if_eq (pc := 36) o 44 dX4_goes_36 (by decide) (fun q36 => ?_) (fun q36 => ?_)
          · refine g_iconst (pc := 44) (v := 1) o dX4_goes_44 (by decide) ?_
            refine g_iadd (pc := 45) o dX4_goes_45 ?_
            refine g_istore (pc := 46) o dX4_goes_46 rfl ?_
            refine g_aload_n (pc := 48) o 0 dX4_goes_48 rfl rfl ?_
            refine g_getR (pc := 49) o flRX4_19 rfl (by omega) y5 dX4_goes_49 ?_
            refine g_iconst (pc := 52) (v := 3) o dX4_goes_52 (by decide) ?_
            refine g_iload_n (pc := 53) o 2 dX4_goes_53 rfl rfl ?_
            refine g_iadd (pc := 54) o dX4_goes_54 ?_
            refine g_iload (pc := 55) o dX4_goes_55 rfl ?_
            refine g_if_ge (pc := 57) o 64 dX4_goes_57 (by decide) (fun q57 => ?_) (fun q57 => ?_)
            · refine g_iload (pc := 64) o dX4_goes_64 rfl ?_
              refine g_bipush (pc := 66) (v := 20) o dX4_goes_66 (by decide) ?_
              refine g_icmp_le (pc := 68) o 76 dX4_goes_68 (by decide) (fun q68 => ?_) (fun q68 => ?_)
              · have e1 : nI (S (3 + c)) + (if w.testBit c then (-2) else 1) = nI (stepS T S w (3 + c)) := by rw [step_3 hc1 (by omega), ← gv (S (3 + c)) (by omega), g1]; exact ((if_pos q57).trans (if_pos q68)).symm
                rw [g1] at e1
                refine g_iload (pc := 76) o dX4_goes_76 rfl ?_
                refine g_iast (pc := 78) o ((3 + c)) rfl (by omega) (nI_addE rfl rfl) (by omega) dX4_goes_78 ?_
                refine g_aload_n (pc := 79) o 0 dX4_goes_79 rfl rfl ?_
                refine g_getR (pc := 80) o flRX4_19 rfl (by omega) y5 dX4_goes_80 ?_
                refine g_bipush (pc := 83) (v := 15) o dX4_goes_83 (by decide) ?_
                refine g_iload_n (pc := 85) o 2 dX4_goes_85 rfl rfl ?_
                refine g_iadd (pc := 86) o dX4_goes_86 ?_
                refine g_dup2 (pc := 87) o dX4_goes_87 rfl rfl ?_
                refine g_iald (pc := 88) o ((15 + c)) rfl (by omega) (nI_addE rfl rfl) (by omega) dX4_goes_88 ?_
                rw [show ∀ v, st2 (goC M T S w c) 100 (3 + c) v 100 (15 + c) = nI (S (15 + c)) from fun v => by rw [st2_ne2 _ _ (by omega), goC_at M T S w (by omega), hS (15 + c) (by omega)]]
                refine g_iload_n (pc := 89) o 3 dX4_goes_89 rfl rfl ?_
                refine g_if_eq (pc := 90) o 97 dX4_goes_90 (by decide) (fun q90 => ?_) (fun q90 => ?_)
                · refine g_iconst (pc := 97) (v := 0) o dX4_goes_97 (by decide) ?_
                  refine g_iadd (pc := 98) o dX4_goes_98 ?_
                  refine g_iast (pc := 99) o ((15 + c)) rfl (by omega) (nI_addE rfl rfl) (by omega) dX4_goes_99 ?_
                  refine g_incN (pc := 100) o (c) dX4_goes_100 rfl rfl ?_
                  refine g_goto (pc := 103) o 2 dX4_goes_103 (by decide) ?_
                  have e2 : nI (S (15 + c)) + nI (bn (w.testBit c)) = nI (stepS T S w (15 + c)) := by rw [step_15 hc1 (by omega), nI_add]
                  rw [g1] at e2
                  exact g_eq rfl rfl rfl (hp_M (goC_s M T S w (by omega) e1 e2)) (ih (c + 1) _ _ (by omega) (by omega))
                · exact absurd (by decide) q90
              · have e1 : (20 : Int32) = nI (stepS T S w (3 + c)) := by rw [step_3 hc1 (by omega), g1, ← gv (S (3 + c)) (by omega)]; exact ((if_pos q57).trans (if_neg q68)).symm
                refine g_bipush (pc := 71) (v := 20) o dX4_goes_71 (by decide) ?_
                refine g_goto (pc := 73) o 78 dX4_goes_73 (by decide) ?_
                refine g_iast (pc := 78) o ((3 + c)) rfl (by omega) (nI_addE rfl rfl) (by omega) dX4_goes_78 ?_
                refine g_aload_n (pc := 79) o 0 dX4_goes_79 rfl rfl ?_
                refine g_getR (pc := 80) o flRX4_19 rfl (by omega) y5 dX4_goes_80 ?_
                refine g_bipush (pc := 83) (v := 15) o dX4_goes_83 (by decide) ?_
                refine g_iload_n (pc := 85) o 2 dX4_goes_85 rfl rfl ?_
                refine g_iadd (pc := 86) o dX4_goes_86 ?_
                refine g_dup2 (pc := 87) o dX4_goes_87 rfl rfl ?_
                refine g_iald (pc := 88) o ((15 + c)) rfl (by omega) (nI_addE rfl rfl) (by omega) dX4_goes_88 ?_
                rw [show ∀ v, st2 (goC M T S w c) 100 (3 + c) v 100 (15 + c) = nI (S (15 + c)) from fun v => by rw [st2_ne2 _ _ (by omega), goC_at M T S w (by omega), hS (15 + c) (by omega)]]
                refine g_iload_n (pc := 89) o 3 dX4_goes_89 rfl rfl ?_
                refine g_if_eq (pc := 90) o 97 dX4_goes_90 (by decide) (fun q90 => ?_) (fun q90 => ?_)
                · refine g_iconst (pc := 97) (v := 0) o dX4_goes_97 (by decide) ?_
                  refine g_iadd (pc := 98) o dX4_goes_98 ?_
                  refine g_iast (pc := 99) o ((15 + c)) rfl (by omega) (nI_addE rfl rfl) (by omega) dX4_goes_99 ?_
                  refine g_incN (pc := 100) o (c) dX4_goes_100 rfl rfl ?_
                  refine g_goto (pc := 103) o 2 dX4_goes_103 (by decide) ?_
                  have e2 : nI (S (15 + c)) + nI (bn (w.testBit c)) = nI (stepS T S w (15 + c)) := by rw [step_15 hc1 (by omega), nI_add]
                  rw [g1] at e2
                  exact g_eq rfl rfl rfl (hp_M (goC_s M T S w (by omega) e1 e2)) (ih (c + 1) _ _ (by omega) (by omega))
                · exact absurd (by decide) q90
            · have e1 : (0 : Int32) = nI (stepS T S w (3 + c)) := by rw [step_3 hc1 (by omega), g1, ← gv (S (3 + c)) (by omega)]; first | exact (if_neg q57).symm | exact (by simpa using q57)
              refine g_iconst (pc := 60) (v := 0) o dX4_goes_60 (by decide) ?_
              refine g_goto (pc := 61) o 78 dX4_goes_61 (by decide) ?_
              refine g_iast (pc := 78) o ((3 + c)) rfl (by omega) (nI_addE rfl rfl) (by omega) dX4_goes_78 ?_
              refine g_aload_n (pc := 79) o 0 dX4_goes_79 rfl rfl ?_
              refine g_getR (pc := 80) o flRX4_19 rfl (by omega) y5 dX4_goes_80 ?_
              refine g_bipush (pc := 83) (v := 15) o dX4_goes_83 (by decide) ?_
              refine g_iload_n (pc := 85) o 2 dX4_goes_85 rfl rfl ?_
              refine g_iadd (pc := 86) o dX4_goes_86 ?_
              refine g_dup2 (pc := 87) o dX4_goes_87 rfl rfl ?_
              refine g_iald (pc := 88) o ((15 + c)) rfl (by omega) (nI_addE rfl rfl) (by omega) dX4_goes_88 ?_
              rw [show ∀ v, st2 (goC M T S w c) 100 (3 + c) v 100 (15 + c) = nI (S (15 + c)) from fun v => by rw [st2_ne2 _ _ (by omega), goC_at M T S w (by omega), hS (15 + c) (by omega)]]
              refine g_iload_n (pc := 89) o 3 dX4_goes_89 rfl rfl ?_
              refine g_if_eq (pc := 90) o 97 dX4_goes_90 (by decide) (fun q90 => ?_) (fun q90 => ?_)
              · refine g_iconst (pc := 97) (v := 0) o dX4_goes_97 (by decide) ?_
                refine g_iadd (pc := 98) o dX4_goes_98 ?_
                refine g_iast (pc := 99) o ((15 + c)) rfl (by omega) (nI_addE rfl rfl) (by omega) dX4_goes_99 ?_
                refine g_incN (pc := 100) o (c) dX4_goes_100 rfl rfl ?_
                refine g_goto (pc := 103) o 2 dX4_goes_103 (by decide) ?_
                have e2 : nI (S (15 + c)) + nI (bn (w.testBit c)) = nI (stepS T S w (15 + c)) := by rw [step_15 hc1 (by omega), nI_add]
                rw [g1] at e2
                exact g_eq rfl rfl rfl (hp_M (goC_s M T S w (by omega) e1 e2)) (ih (c + 1) _ _ (by omega) (by omega))
              · exact absurd (by decide) q90
          · exact absurd (by decide) q36
        · have g1 : w.testBit c = true := bn_one.mp (by first | exact q18 | exact Decidable.not_not.mp q18)
          refine g_iconst (pc := 21) (v := 1) o dX4_goes_21 (by decide) ?_
          refine g_goto (pc := 22) o 26 dX4_goes_22 (by decide) ?_
          refine g_istore_n (pc := 26) o 3 dX4_goes_26 rfl rfl ?_
          refine g_aload_n (pc := 27) o 0 dX4_goes_27 rfl rfl ?_
          refine g_getR (pc := 28) o flRX4_19 rfl (by omega) y5 dX4_goes_28 ?_
          refine g_iconst (pc := 31) (v := 3) o dX4_goes_31 (by decide) ?_
          refine g_iload_n (pc := 32) o 2 dX4_goes_32 rfl rfl ?_
          refine g_iadd (pc := 33) o dX4_goes_33 ?_
          refine g_iald (pc := 34) o ((3 + c)) rfl (by omega) (nI_addE rfl rfl) (by omega) dX4_goes_34 ?_
          rw [goC_at M T S w (by omega), hS (3 + c) (by omega)]
          refine g_iload_n (pc := 35) o 3 dX4_goes_35 rfl rfl ?_
          refine g_if_eq (pc := 36) o 44 dX4_goes_36 (by decide) (fun q36 => ?_) (fun q36 => ?_)
          · exact absurd q36 (by decide)
          · refine g_bipush (pc := 39) (v := -2) o dX4_goes_39 (by decide) ?_
            refine g_goto (pc := 41) o 45 dX4_goes_41 (by decide) ?_
            refine g_iadd (pc := 45) o dX4_goes_45 ?_
            refine g_istore (pc := 46) o dX4_goes_46 rfl ?_
            refine g_aload_n (pc := 48) o 0 dX4_goes_48 rfl rfl ?_
            refine g_getR (pc := 49) o flRX4_19 rfl (by omega) y5 dX4_goes_49 ?_
            refine g_iconst (pc := 52) (v := 3) o dX4_goes_52 (by decide) ?_
            refine g_iload_n (pc := 53) o 2 dX4_goes_53 rfl rfl ?_
            refine g_iadd (pc := 54) o dX4_goes_54 ?_
            refine g_iload (pc := 55) o dX4_goes_55 rfl ?_
            refine g_if_ge (pc := 57) o 64 dX4_goes_57 (by decide) (fun q57 => ?_) (fun q57 => ?_)
            · refine g_iload (pc := 64) o dX4_goes_64 rfl ?_
              refine g_bipush (pc := 66) (v := 20) o dX4_goes_66 (by decide) ?_
              refine g_icmp_le (pc := 68) o 76 dX4_goes_68 (by decide) (fun q68 => ?_) (fun q68 => ?_)
              · have e1 : nI (S (3 + c)) + (if w.testBit c then (-2) else 1) = nI (stepS T S w (3 + c)) := by rw [step_3 hc1 (by omega), ← gv (S (3 + c)) (by omega), g1]; exact ((if_pos q57).trans (if_pos q68)).symm
                rw [g1] at e1
                refine g_iload (pc := 76) o dX4_goes_76 rfl ?_
                refine g_iast (pc := 78) o ((3 + c)) rfl (by omega) (nI_addE rfl rfl) (by omega) dX4_goes_78 ?_
                refine g_aload_n (pc := 79) o 0 dX4_goes_79 rfl rfl ?_
                refine g_getR (pc := 80) o flRX4_19 rfl (by omega) y5 dX4_goes_80 ?_
                refine g_bipush (pc := 83) (v := 15) o dX4_goes_83 (by decide) ?_
                refine g_iload_n (pc := 85) o 2 dX4_goes_85 rfl rfl ?_
                refine g_iadd (pc := 86) o dX4_goes_86 ?_
                refine g_dup2 (pc := 87) o dX4_goes_87 rfl rfl ?_
                refine g_iald (pc := 88) o ((15 + c)) rfl (by omega) (nI_addE rfl rfl) (by omega) dX4_goes_88 ?_
                rw [show ∀ v, st2 (goC M T S w c) 100 (3 + c) v 100 (15 + c) = nI (S (15 + c)) from fun v => by rw [st2_ne2 _ _ (by omega), goC_at M T S w (by omega), hS (15 + c) (by omega)]]
                refine g_iload_n (pc := 89) o 3 dX4_goes_89 rfl rfl ?_
                refine g_if_eq (pc := 90) o 97 dX4_goes_90 (by decide) (fun q90 => ?_) (fun q90 => ?_)
                · exact absurd q90 (by decide)
                · refine g_iconst (pc := 93) (v := 1) o dX4_goes_93 (by decide) ?_
                  refine g_goto (pc := 94) o 98 dX4_goes_94 (by decide) ?_
                  refine g_iadd (pc := 98) o dX4_goes_98 ?_
                  refine g_iast (pc := 99) o ((15 + c)) rfl (by omega) (nI_addE rfl rfl) (by omega) dX4_goes_99 ?_
                  refine g_incN (pc := 100) o (c) dX4_goes_100 rfl rfl ?_
                  refine g_goto (pc := 103) o 2 dX4_goes_103 (by decide) ?_
                  have e2 : nI (S (15 + c)) + nI (bn (w.testBit c)) = nI (stepS T S w (15 + c)) := by rw [step_15 hc1 (by omega), nI_add]
                  rw [g1] at e2
                  exact g_eq rfl rfl rfl (hp_M (goC_s M T S w (by omega) e1 e2)) (ih (c + 1) _ _ (by omega) (by omega))
              · have e1 : (20 : Int32) = nI (stepS T S w (3 + c)) := by rw [step_3 hc1 (by omega), g1, ← gv (S (3 + c)) (by omega)]; exact ((if_pos q57).trans (if_neg q68)).symm
                refine g_bipush (pc := 71) (v := 20) o dX4_goes_71 (by decide) ?_
                refine g_goto (pc := 73) o 78 dX4_goes_73 (by decide) ?_
                refine g_iast (pc := 78) o ((3 + c)) rfl (by omega) (nI_addE rfl rfl) (by omega) dX4_goes_78 ?_
                refine g_aload_n (pc := 79) o 0 dX4_goes_79 rfl rfl ?_
                refine g_getR (pc := 80) o flRX4_19 rfl (by omega) y5 dX4_goes_80 ?_
                refine g_bipush (pc := 83) (v := 15) o dX4_goes_83 (by decide) ?_
                refine g_iload_n (pc := 85) o 2 dX4_goes_85 rfl rfl ?_
                refine g_iadd (pc := 86) o dX4_goes_86 ?_
                refine g_dup2 (pc := 87) o dX4_goes_87 rfl rfl ?_
                refine g_iald (pc := 88) o ((15 + c)) rfl (by omega) (nI_addE rfl rfl) (by omega) dX4_goes_88 ?_
                rw [show ∀ v, st2 (goC M T S w c) 100 (3 + c) v 100 (15 + c) = nI (S (15 + c)) from fun v => by rw [st2_ne2 _ _ (by omega), goC_at M T S w (by omega), hS (15 + c) (by omega)]]
                refine g_iload_n (pc := 89) o 3 dX4_goes_89 rfl rfl ?_
                refine g_if_eq (pc := 90) o 97 dX4_goes_90 (by decide) (fun q90 => ?_) (fun q90 => ?_)
                · exact absurd q90 (by decide)
                · refine g_iconst (pc := 93) (v := 1) o dX4_goes_93 (by decide) ?_
                  refine g_goto (pc := 94) o 98 dX4_goes_94 (by decide) ?_
                  refine g_iadd (pc := 98) o dX4_goes_98 ?_
                  refine g_iast (pc := 99) o ((15 + c)) rfl (by omega) (nI_addE rfl rfl) (by omega) dX4_goes_99 ?_
                  refine g_incN (pc := 100) o (c) dX4_goes_100 rfl rfl ?_
                  refine g_goto (pc := 103) o 2 dX4_goes_103 (by decide) ?_
                  have e2 : nI (S (15 + c)) + nI (bn (w.testBit c)) = nI (stepS T S w (15 + c)) := by rw [step_15 hc1 (by omega), nI_add]
                  rw [g1] at e2
                  exact g_eq rfl rfl rfl (hp_M (goC_s M T S w (by omega) e1 e2)) (ih (c + 1) _ _ (by omega) (by omega))
            · have e1 : (0 : Int32) = nI (stepS T S w (3 + c)) := by rw [step_3 hc1 (by omega), g1, ← gv (S (3 + c)) (by omega)]; first | exact (if_neg q57).symm | exact (by simpa using q57)
              refine g_iconst (pc := 60) (v := 0) o dX4_goes_60 (by decide) ?_
              refine g_goto (pc := 61) o 78 dX4_goes_61 (by decide) ?_
              refine g_iast (pc := 78) o ((3 + c)) rfl (by omega) (nI_addE rfl rfl) (by omega) dX4_goes_78 ?_
              refine g_aload_n (pc := 79) o 0 dX4_goes_79 rfl rfl ?_
              refine g_getR (pc := 80) o flRX4_19 rfl (by omega) y5 dX4_goes_80 ?_
              refine g_bipush (pc := 83) (v := 15) o dX4_goes_83 (by decide) ?_
              refine g_iload_n (pc := 85) o 2 dX4_goes_85 rfl rfl ?_
              refine g_iadd (pc := 86) o dX4_goes_86 ?_
              refine g_dup2 (pc := 87) o dX4_goes_87 rfl rfl ?_
              refine g_iald (pc := 88) o ((15 + c)) rfl (by omega) (nI_addE rfl rfl) (by omega) dX4_goes_88 ?_
              rw [show ∀ v, st2 (goC M T S w c) 100 (3 + c) v 100 (15 + c) = nI (S (15 + c)) from fun v => by rw [st2_ne2 _ _ (by omega), goC_at M T S w (by omega), hS (15 + c) (by omega)]]
              refine g_iload_n (pc := 89) o 3 dX4_goes_89 rfl rfl ?_
              refine g_if_eq (pc := 90) o 97 dX4_goes_90 (by decide) (fun q90 => ?_) (fun q90 => ?_)
              · exact absurd q90 (by decide)
              · refine g_iconst (pc := 93) (v := 1) o dX4_goes_93 (by decide) ?_
                refine g_goto (pc := 94) o 98 dX4_goes_94 (by decide) ?_
                refine g_iadd (pc := 98) o dX4_goes_98 ?_
                refine g_iast (pc := 99) o ((15 + c)) rfl (by omega) (nI_addE rfl rfl) (by omega) dX4_goes_99 ?_
                refine g_incN (pc := 100) o (c) dX4_goes_100 rfl rfl ?_
                refine g_goto (pc := 103) o 2 dX4_goes_103 (by decide) ?_
                have e2 : nI (S (15 + c)) + nI (bn (w.testBit c)) = nI (stepS T S w (15 + c)) := by rw [step_15 hc1 (by omega), nI_add]
                rw [g1] at e2
                exact g_eq rfl rfl rfl (hp_M (goC_s M T S w (by omega) e1 e2)) (ih (c + 1) _ _ (by omega) (by omega))
  refine g_iconst (pc := 0) (v := 0) o dX4_goes_0 (by decide) ?_
  refine g_istore_n (pc := 1) o 2 dX4_goes_1 rfl rfl ?_
  rw [← goC_0 M T S w]
  exact loop (T 2 + 1) 0 none none (by omega) (by omega)

end M19
