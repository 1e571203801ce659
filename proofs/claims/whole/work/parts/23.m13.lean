section M13
variable {Λ : PL} {d n : Nat} {M : HM} {Rf : HR} {Lg : HL}

/-- which item may come next, what may stand in it -/
def may (T : Nat → Nat) (L : Nat) : Bool := if L = 99 then decide (T 2 < 6) else if L = 100 then decide (T 4 = 0) else if L = 110 then decide (T 3 < 6) else if L = 113 then decide (T 5 = 0) else decide (L = 101 ∨ L = 98)
def chk (T : Nat → Nat) (L k n0 v : Nat) : Bool := if L = 100 then decide (1 ≤ v ∧ v ≤ 4) else if L = 113 then decide (0 ≤ v ∧ v ≤ 6) else if k = 0 then decide (0 ≤ v ∧ v ≤ T 0 - 1) else if L = 98 then decide (0 ≤ v ∧ v ≤ 6) else if L = 99 then chC k v else if L = 101 then decide ((0 ≤ v ∧ v ≤ T 0 - 1) ∧ ¬ v = n0) else if k = 1 then decide (0 ≤ v ∧ v ≤ 7) else decide (1 ≤ v ∧ v ≤ 9)
theorem bi_dec {p : Prop} [Decidable p] : bi p = bi (decide p = true) := bi_cong (by simp)
set_option maxHeartbeats 2000000 in
set_option maxRecDepth 20000 in
theorem cX2mayStand  {c0 : Nat} (hc : c0 = 4 ∨ c0 = 16) (hn : 96 ≤ n) {T : Nat → Nat} (t0 : 1 ≤ T 0) (t0b : T 0 ≤ 4) (m0 : M c0 0 = nI (T 0)) (xN : Rf 1 6 = some 3) {L k v n0 : Nat} (hL : L < 1000) (hk : k < 1000) (hv : M 1 5 = nI v) (hv2 : v < 1000) (hn0 : ¬ k = 0 → M 3 0 = nI n0) (hn02 : n0 < 1000) : Ret Λ (d + 2) mX2_mayStand [.ref 1, .ref c0, .int (nI L), .int (nI k)] (n, M, Rf, Lg) (some (.int (bi (chk T L k n0 v = true)))) (n, M, Rf, Lg) 0 0 := by
  refine Ret.of rfl rfl rfl (fun κ o f hin => ?_)
  obtain ⟨z0, z1, z2, z3, z4, z5, z6, z7, z8, z9, z10, z11⟩ := city_shp hc
  refine g_iload_n (pc := 0) o 2 dX2_mayStand_0 rfl rfl ?_
  by_cases e100 : L = 100
  · subst e100
    refine g_look (pc := 1) o 28 dX2_mayStand_1 (by decide) rfl (by decide) ?_
    refine g_aload_n (pc := 28) o 0 dX2_mayStand_28 rfl rfl ?_
    refine g_iconst (pc := 29) (v := 1) o dX2_mayStand_29 (by decide) ?_
    refine g_iconst (pc := 30) (v := 4) o dX2_mayStand_30 (by decide) ?_
    refine g_V2i (pc := 31) o lkRX2_63 cmX2_isWithin (cX2isWithin hn hv hv2 (a := 1) (b := 4) (by decide) (by decide)) (by first | assumption | rfl) (by first | assumption | omega) rfl rfl ⟨Nat.le_refl _, Nat.le_refl _⟩ dX2_mayStand_31 ?_
    exact g_iret (pc := 34) o f dX2_mayStand_34 bi_nar (by rw [bi_dec]; rfl) rfl
  · have n100 : ¬ nI L = 100 := mt (eq_N (b := 100) (by omega) (by decide) rfl rfl).mp e100
    by_cases e113 : L = 113
    · subst e113
      refine g_look (pc := 1) o 35 dX2_mayStand_1 (by decide) rfl (by decide) ?_
      refine g_aload_n (pc := 35) o 0 dX2_mayStand_35 rfl rfl ?_
      refine g_iconst (pc := 36) (v := 0) o dX2_mayStand_36 (by decide) ?_
      refine g_bipush (pc := 37) (v := 6) o dX2_mayStand_37 (by decide) ?_
      refine g_V2i (pc := 39) o lkRX2_63 cmX2_isWithin (cX2isWithin hn hv hv2 (a := 0) (b := 6) (by decide) (by decide)) (by first | assumption | rfl) (by first | assumption | omega) rfl rfl ⟨Nat.le_refl _, Nat.le_refl _⟩ dX2_mayStand_39 ?_
      exact g_iret (pc := 42) o f dX2_mayStand_42 bi_nar (by rw [bi_dec]; rfl) rfl
    · have n113 : ¬ nI L = 113 := mt (eq_N (b := 113) (by omega) (by decide) rfl rfl).mp e113
      refine g_look (pc := 1) (off := 42) o 43 dX2_mayStand_1 (by decide) (by rw [show (#[((100 : Int), (27 : Int)), (113, 34)] : Array (Int × Int)).toList = [(100, 27), (113, 34)] from rfl, lv_osw (a := 100) n100 (by decide), lv_osw (a := 113) n113 (by decide)]; rfl) (by decide) ?_
      refine g_iload_n (pc := 43) o 3 dX2_mayStand_43 rfl rfl ?_
      refine g_if_ne (pc := 44) o 59 dX2_mayStand_44 (by decide) (fun q44 => ?_) (fun q44 => ?_)
      · have k0 : ¬ k = 0 := mt (eq_N (by omega) (by decide) rfl (rfl : (0 : Int32) = nI 0)).mpr q44
        refine g_iload_n (pc := 59) o 2 dX2_mayStand_59 rfl rfl ?_
        by_cases e98 : L = 98
        · subst e98
          refine g_tabI (pc := 60) o 125 dX2_mayStand_60 (by decide) (by decide) rfl (by decide) ?_
          refine g_aload_n (pc := 125) o 0 dX2_mayStand_125 rfl rfl ?_
          refine g_iconst (pc := 126) (v := 0) o dX2_mayStand_126 (by decide) ?_
          refine g_bipush (pc := 127) (v := 6) o dX2_mayStand_127 (by decide) ?_
          refine g_V2i (pc := 129) o lkRX2_63 cmX2_isWithin (cX2isWithin hn hv hv2 (a := 0) (b := 6) (by decide) (by decide)) (by first | assumption | rfl) (by first | assumption | omega) rfl rfl ⟨Nat.le_refl _, Nat.le_refl _⟩ dX2_mayStand_129 ?_
          exact g_iret (pc := 132) o f dX2_mayStand_132 bi_nar (by rw [bi_dec]; unfold chk; rw [if_neg (by decide), if_neg (by decide), if_neg k0, if_pos rfl]) rfl
        by_cases e99 : L = 99
        · subst e99
          refine g_tabI (pc := 60) o 133 dX2_mayStand_60 (by decide) (by decide) rfl (by decide) ?_
          refine g_aload_n (pc := 133) o 0 dX2_mayStand_133 rfl rfl ?_
          refine g_iload_n (pc := 134) o 3 dX2_mayStand_134 rfl rfl ?_
          refine g_V1i (pc := 135) o lkRX2_69 cmX2_mayStandForCitizen (cX2standC hn hv hv2 hk) (by first | assumption | rfl) (by first | assumption | omega) rfl rfl ⟨Nat.le_refl _, Nat.le_refl _⟩ dX2_mayStand_135 ?_
          exact g_iret (pc := 138) o f dX2_mayStand_138 bi_nar (by unfold chk; rw [if_neg (by decide), if_neg (by decide), if_neg k0, if_neg (by decide), if_pos rfl]) rfl
        by_cases e101 : L = 101
        · subst e101
          refine g_tabI (pc := 60) o 92 dX2_mayStand_60 (by decide) (by decide) rfl (by decide) ?_
          refine g_aload_n (pc := 92) o 0 dX2_mayStand_92 rfl rfl ?_
          refine g_iconst (pc := 93) (v := 0) o dX2_mayStand_93 (by decide) ?_
          refine g_aload_n (pc := 94) o 1 dX2_mayStand_94 rfl rfl ?_
          refine g_getI (pc := 95) o flRX2_66 (by first | assumption | rfl) (by first | assumption | omega) dX2_mayStand_95 ?_
          refine g_iconst (pc := 98) (v := 1) o dX2_mayStand_98 (by decide) ?_
          refine g_isub (pc := 99) o dX2_mayStand_99 ?_
          rw [m0, n_sub1 t0]
          refine g_V2i (pc := 100) o lkRX2_63 cmX2_isWithin (cX2isWithin hn hv hv2 (a := 0) (b := T 0 - 1) (by decide) (by omega)) (by first | assumption | rfl) (by first | assumption | omega) rfl rfl ⟨Nat.le_refl _, Nat.le_refl _⟩ dX2_mayStand_100 ?_
          refine g_if_eq (pc := 103) o 123 dX2_mayStand_103 (by decide) (fun q103 => ?_) (fun q103 => ?_)
          · have g1 := bi_z.mp q103
            have gm : chk T 101 k n0 v = false := by unfold chk; rw [if_neg (by decide), if_neg (by decide), if_neg k0, if_neg (by decide), if_neg (by decide), if_pos rfl]; simp; omega
            refine g_iconst (pc := 123) (v := 0) o dX2_mayStand_123 (by decide) ?_
            exact g_iret (pc := 124) o f dX2_mayStand_124 rfl (by first | exact (bi_t gm).symm | exact (bi_f (by rw [gm]; decide)).symm) rfl
          · have g1 := bi_nz.mp q103
            refine g_aload_n (pc := 106) o 0 dX2_mayStand_106 rfl rfl ?_
            refine g_getI (pc := 107) o flRX2_56 (by first | assumption | rfl) (by first | assumption | omega) dX2_mayStand_107 ?_
            refine g_aload_n (pc := 110) o 0 dX2_mayStand_110 rfl rfl ?_
            refine g_getR (pc := 111) o flRX2_15 (by first | assumption | rfl) (by first | assumption | omega) (by assumption) dX2_mayStand_111 ?_
            refine g_iconst (pc := 114) (v := 0) o dX2_mayStand_114 (by decide) ?_
            refine g_iald (pc := 115) o (0) (by first | assumption | rfl) (by first | assumption | omega) rfl (by omega) dX2_mayStand_115 ?_
            refine g_icmp_eq (pc := 116) o 123 dX2_mayStand_116 (by decide) (fun q116 => ?_) (fun q116 => ?_)
            · have g2 : v = n0 := (eq_N (by omega) (by omega) hv (hn0 k0)).mp q116
              have gm : chk T 101 k n0 v = false := by unfold chk; rw [if_neg (by decide), if_neg (by decide), if_neg k0, if_neg (by decide), if_neg (by decide), if_pos rfl]; simp; omega
              refine g_iconst (pc := 123) (v := 0) o dX2_mayStand_123 (by decide) ?_
              exact g_iret (pc := 124) o f dX2_mayStand_124 rfl (by first | exact (bi_t gm).symm | exact (bi_f (by rw [gm]; decide)).symm) rfl
            · have g2 : ¬ v = n0 := mt (eq_N (by omega) (by omega) hv (hn0 k0)).mpr q116
              have gm : chk T 101 k n0 v = true := by unfold chk; rw [if_neg (by decide), if_neg (by decide), if_neg k0, if_neg (by decide), if_neg (by decide), if_pos rfl]; simp; omega
              refine g_iconst (pc := 119) (v := 1) o dX2_mayStand_119 (by decide) ?_
              refine g_goto (pc := 120) o 124 dX2_mayStand_120 (by decide) ?_
              exact g_iret (pc := 124) o f dX2_mayStand_124 rfl (by first | exact (bi_t gm).symm | exact (bi_f (by rw [gm]; decide)).symm) rfl
        refine g_tabO (pc := 60) o 139 dX2_mayStand_60 (by rw [nI_toInt (by omega)]; omega) (by decide) ?_
        refine g_iload_n (pc := 139) o 3 dX2_mayStand_139 rfl rfl ?_
        refine g_iconst (pc := 140) (v := 1) o dX2_mayStand_140 (by decide) ?_
        refine g_icmp_ne (pc := 141) o 154 dX2_mayStand_141 (by decide) (fun q141 => ?_) (fun q141 => ?_)
        · have k1 : ¬ k = 1 := mt (eq_N (b := 1) (by omega) (by decide) rfl rfl).mpr q141
          refine g_aload_n (pc := 154) o 0 dX2_mayStand_154 rfl rfl ?_
          refine g_iconst (pc := 155) (v := 1) o dX2_mayStand_155 (by decide) ?_
          refine g_bipush (pc := 156) (v := 9) o dX2_mayStand_156 (by decide) ?_
          refine g_V2i (pc := 158) o lkRX2_63 cmX2_isWithin (cX2isWithin hn hv hv2 (a := 1) (b := 9) (by decide) (by decide)) (by first | assumption | rfl) (by first | assumption | omega) rfl rfl ⟨Nat.le_refl _, Nat.le_refl _⟩ dX2_mayStand_158 ?_
          exact g_iret (pc := 161) o f dX2_mayStand_161 bi_nar (by rw [bi_dec]; unfold chk; rw [if_neg e100, if_neg e113, if_neg k0, if_neg e98, if_neg e99, if_neg e101]; first | rw [if_pos k1] | rw [if_neg k1]) rfl
        · have k1 : k = 1 := (eq_N (b := 1) (by omega) (by decide) rfl rfl).mp q141
          refine g_aload_n (pc := 144) o 0 dX2_mayStand_144 rfl rfl ?_
          refine g_iconst (pc := 145) (v := 0) o dX2_mayStand_145 (by decide) ?_
          refine g_bipush (pc := 146) (v := 7) o dX2_mayStand_146 (by decide) ?_
          refine g_V2i (pc := 148) o lkRX2_63 cmX2_isWithin (cX2isWithin hn hv hv2 (a := 0) (b := 7) (by decide) (by decide)) (by first | assumption | rfl) (by first | assumption | omega) rfl rfl ⟨Nat.le_refl _, Nat.le_refl _⟩ dX2_mayStand_148 ?_
          refine g_goto (pc := 151) o 161 dX2_mayStand_151 (by decide) ?_
          exact g_iret (pc := 161) o f dX2_mayStand_161 bi_nar (by rw [bi_dec]; unfold chk; rw [if_neg e100, if_neg e113, if_neg k0, if_neg e98, if_neg e99, if_neg e101]; first | rw [if_pos k1] | rw [if_neg k1]) rfl
      · have k0 : k = 0 := (eq_N (by omega) (by decide) rfl (rfl : (0 : Int32) = nI 0)).mp q44
        refine g_aload_n (pc := 47) o 0 dX2_mayStand_47 rfl rfl ?_
        refine g_iconst (pc := 48) (v := 0) o dX2_mayStand_48 (by decide) ?_
        refine g_aload_n (pc := 49) o 1 dX2_mayStand_49 rfl rfl ?_
        refine g_getI (pc := 50) o flRX2_66 (by first | assumption | rfl) (by first | assumption | omega) dX2_mayStand_50 ?_
        refine g_iconst (pc := 53) (v := 1) o dX2_mayStand_53 (by decide) ?_
        refine g_isub (pc := 54) o dX2_mayStand_54 ?_
        rw [m0, n_sub1 t0]
        refine g_V2i (pc := 55) o lkRX2_63 cmX2_isWithin (cX2isWithin hn hv hv2 (a := 0) (b := T 0 - 1) (by decide) (by omega)) (by first | assumption | rfl) (by first | assumption | omega) rfl rfl ⟨Nat.le_refl _, Nat.le_refl _⟩ dX2_mayStand_55 ?_
        exact g_iret (pc := 58) o f dX2_mayStand_58 bi_nar (by rw [bi_dec]; unfold chk; rw [if_neg e100, if_neg e113, if_pos k0]) rfl

def iniT : Nat → Nat := fun k => if k = 0 ∨ k = 1 then 1 else if 10 ≤ k ∧ k < 14 then 6 else 0
def rstC (M : HM) (c k : Nat) : HM := fun z j => if z = c ∧ (j = 0 ∨ j = 1) then 1 else if z = c ∧ (j = 2 ∨ j = 5 ∨ j = 10) then 0 else if z = c + 1 ∧ j < k then 6 else if (z = c + 2 ∨ z = c + 10) ∧ j < k then 0 else M z j
theorem rstC_s (M : HM) (c k : Nat) : st2 (st2 (st2 (rstC M c k) (c + 1) k 6) (c + 2) k 0) (c + 10) k 0 = rstC M c (k + 1) := by
  funext z j; simp only [st2, rstC]; grind
theorem rstC_0 (M : HM) (c : Nat) : st2 (st2 (st2 (st2 (st2 M c 0 1) c 1 1) c 2 0) c 5 0) c 10 0 = rstC M c 0 := by
  funext z j; simp only [st2, rstC]; grind
theorem rstC_ne (M : HM) (c k : Nat) {z : Nat} (h : z < c ∨ c + 11 ≤ z) : rstC M c k z = M z := by
  funext j; simp only [rstC]; grind
theorem rst_cy (M : HM) (c : Nat) : cyT (rstC M c 4) c iniT ∧ rstC M c 4 c 2 = nI (iniT 5) := by
  have e0 : nI 0 = 0 := rfl
  have e1 : nI 1 = 1 := rfl
  have e6 : nI 6 = 6 := rfl
  have i0 : iniT 2 = 0 := rfl
  have i3 : iniT 3 = 0 := rfl
  refine ⟨⟨?_, ?_, ?_, ?_, fun d hd => ?_, fun d hd => ?_, fun i hi => ?_, fun i hi => ?_, fun d hd => ?_⟩, ?_⟩
  · show _ = nI 1; simp only [rstC]; grind
  · show _ = nI 1; simp only [rstC]; grind
  · show _ = nI 0; simp only [rstC]; grind
  · show _ = nI 0; simp only [rstC]; grind
  · rw [show iniT (10 + d) = 6 from by unfold iniT; rw [if_neg (by omega), if_pos (by omega)]]; simp only [rstC]; grind
  · rw [show iniT (6 + d) = 0 from by unfold iniT; rw [if_neg (by omega), if_neg (by omega)]]; simp only [rstC]; grind
  · rw [i0] at hi; omega
  · rw [i3] at hi; omega
  · rw [show liv iniT d = 0 from by unfold liv; rw [i0]; rfl]; simp only [rstC]; grind
  · show _ = nI 0; simp only [rstC]; grind
set_option maxHeartbeats 2000000 in
set_option maxRecDepth 20000 in
theorem cX0restart  {c0 : Nat} (hc : c0 = 4 ∨ c0 = 16) (hn : 96 ≤ n) (rc : RCi Rf c0) : Ret Λ (d) mX0_restart [.ref c0] (n, M, Rf, Lg) none (n, rstC M c0 4, Rf, Lg) 0 0 := by
  refine Ret.of rfl rfl rfl (fun κ o f hin => ?_)
  obtain ⟨z0, z1, z2, z3, z4, z5, z6, z7, z8, z9, z10, z11⟩ := city_shp hc
  obtain ⟨r3, r4, r6, r7, r8, r9, r11, r12, r13, r14, r15⟩ := id rc
  have loop : ∀ k c : Nat, c ≤ 4 → 4 < c + k → G (Λ, κ) 27 [some (.ref c0), some (.int (nI c))] [] (n, rstC M c0 c, Rf, Lg) 0 0 := by
    intro k
    induction k with
    | zero => intro c h1 h2; exact absurd h2 (by omega)
    | succ k ih =>
      intro c h1 h2
      refine g_iload_n (pc := 27) o 1 dX0_restart_27 rfl rfl ?_
      refine g_iconst (pc := 28) (v := 4) o dX0_restart_28 (by decide) ?_
      refine g_icmp_ge (pc := 29) o 60 dX0_restart_29 (by decide) (fun q29 => ?_) (fun q29 => ?_)
      · have ec : c = 4 := by have := (le_N (a := 4) (b := c) (by decide) (by omega) rfl rfl).mp q29; omega
        exact g_vret (pc := 60) o f dX0_restart_60 (hp_M (by rw [ec]))
      · have hc1 : c < 4 := by have := mt (le_N (a := 4) (b := c) (by decide) (by omega) rfl rfl).mpr q29; omega
        refine g_aload_n (pc := 32) o 0 dX0_restart_32 rfl rfl ?_
        refine g_getR (pc := 33) o flRX0_9 (by first | assumption | rfl) (by first | assumption | omega) (by assumption) dX0_restart_33 ?_
        refine g_iload_n (pc := 36) o 1 dX0_restart_36 rfl rfl ?_
        refine g_bipush (pc := 37) (v := 6) o dX0_restart_37 (by decide) ?_
        refine g_iast (pc := 39) o (c) (by first | assumption | rfl) (by first | assumption | omega) rfl (by omega) dX0_restart_39 ?_
        refine g_aload_n (pc := 40) o 0 dX0_restart_40 rfl rfl ?_
        refine g_getR (pc := 41) o flRX0_15 (by first | assumption | rfl) (by first | assumption | omega) (by assumption) dX0_restart_41 ?_
        refine g_iload_n (pc := 44) o 1 dX0_restart_44 rfl rfl ?_
        refine g_iconst (pc := 45) (v := 0) o dX0_restart_45 (by decide) ?_
        refine g_iast (pc := 46) o (c) (by first | assumption | rfl) (by first | assumption | omega) rfl (by omega) dX0_restart_46 ?_
        refine g_aload_n (pc := 47) o 0 dX0_restart_47 rfl rfl ?_
        refine g_getR (pc := 48) o flRX0_39 (by first | assumption | rfl) (by first | assumption | omega) (by assumption) dX0_restart_48 ?_
        refine g_iload_n (pc := 51) o 1 dX0_restart_51 rfl rfl ?_
        refine g_iconst (pc := 52) (v := 0) o dX0_restart_52 (by decide) ?_
        refine g_iast (pc := 53) o (c) (by first | assumption | rfl) (by first | assumption | omega) rfl (by omega) dX0_restart_53 ?_
        refine g_incN (pc := 54) o (c) dX0_restart_54 rfl rfl ?_
        refine g_goto (pc := 57) o 27 dX0_restart_57 (by decide) ?_
        exact g_eq rfl rfl rfl (hp_M (rstC_s M c0 c)) (ih (c + 1) (by omega) (by omega))
  refine g_aload_n (pc := 0) o 0 dX0_restart_0 rfl rfl ?_
  refine g_iconst (pc := 1) (v := 1) o dX0_restart_1 (by decide) ?_
  refine g_putI (pc := 2) o flRX0_45 rfl (by first | assumption | rfl) (by first | assumption | omega) rfl rfl dX0_restart_2 ?_
  refine g_aload_n (pc := 5) o 0 dX0_restart_5 rfl rfl ?_
  refine g_iconst (pc := 6) (v := 1) o dX0_restart_6 (by decide) ?_
  refine g_putI (pc := 7) o flRX0_49 rfl (by first | assumption | rfl) (by first | assumption | omega) rfl rfl dX0_restart_7 ?_
  refine g_aload_n (pc := 10) o 0 dX0_restart_10 rfl rfl ?_
  refine g_iconst (pc := 11) (v := 0) o dX0_restart_11 (by decide) ?_
  refine g_putI (pc := 12) o flRX0_52 rfl (by first | assumption | rfl) (by first | assumption | omega) rfl rfl dX0_restart_12 ?_
  refine g_aload_n (pc := 15) o 0 dX0_restart_15 rfl rfl ?_
  refine g_iconst (pc := 16) (v := 0) o dX0_restart_16 (by decide) ?_
  refine g_putI (pc := 17) o flRX0_56 rfl (by first | assumption | rfl) (by first | assumption | omega) rfl rfl dX0_restart_17 ?_
  refine g_aload_n (pc := 20) o 0 dX0_restart_20 rfl rfl ?_
  refine g_iconst (pc := 21) (v := 0) o dX0_restart_21 (by decide) ?_
  refine g_putI (pc := 22) o flRX0_59 rfl (by first | assumption | rfl) (by first | assumption | omega) rfl rfl dX0_restart_22 ?_
  refine g_iconst (pc := 25) (v := 0) o dX0_restart_25 (by decide) ?_
  refine g_istore_n (pc := 26) o 1 dX0_restart_26 rfl rfl ?_
  exact g_eq rfl rfl rfl (hp_M (rstC_0 M c0)) (loop 5 0 (by omega) (by omega))

set_option maxHeartbeats 2000000 in
set_option maxRecDepth 20000 in
theorem cX0mayCome  {c0 : Nat} (hc : c0 = 4 ∨ c0 = 16) (hn : 96 ≤ n) {T : Nat → Nat} (m2 : M c0 2 = nI (T 5)) (m5 : M c0 5 = nI (T 2)) (m10 : M c0 10 = nI (T 3)) (h2 : T 2 < 1000) (h3 : T 3 < 1000) (h4 : T 4 < 1000) (h5 : T 5 < 1000) {L : Nat} (hL : L < 1000) : Ret Λ (d) mX0_mayComeNext [.ref c0, .int (nI L), .int (nI (T 4))] (n, M, Rf, Lg) (some (.int (bi (may T L = true)))) (n, M, Rf, Lg) 0 0 := by
  refine Ret.of rfl rfl rfl (fun κ o f hin => ?_)
  obtain ⟨z0, z1, z2, z3, z4, z5, z6, z7, z8, z9, z10, z11⟩ := city_shp hc
  refine g_iload_n (pc := 0) o 1 dX0_mayComeNext_0 rfl rfl ?_
  by_cases e99 : L = 99
  · subst e99
    refine g_look (pc := 1) o 67 dX0_mayComeNext_1 (by decide) rfl (by decide) ?_
    refine g_aload_n (pc := 67) o 0 dX0_mayComeNext_67 rfl rfl ?_
    refine g_getI (pc := 68) o flRX0_56 (by first | assumption | rfl) (by first | assumption | omega) dX0_mayComeNext_68 ?_
    refine g_bipush (pc := 71) (v := 6) o dX0_mayComeNext_71 (by decide) ?_
    refine g_icmp_ge (pc := 73) o 80 dX0_mayComeNext_73 (by decide) (fun q73 => ?_) (fun q73 => ?_)
    · have g : ¬ T 2 < 6 := by have := (le_N (a := 6) (by decide) (by omega) rfl m5).mp q73; omega
      refine g_iconst (pc := 80) (v := 0) o dX0_mayComeNext_80 (by decide) ?_
      exact g_iret (pc := 81) o f dX0_mayComeNext_81 rfl (by first | exact (bi_t (by unfold may; simp [g])).symm | exact (bi_f (by unfold may; simp [g])).symm) rfl
    · have g : T 2 < 6 := by have := mt (le_N (a := 6) (by decide) (by omega) rfl m5).mpr q73; omega
      refine g_iconst (pc := 76) (v := 1) o dX0_mayComeNext_76 (by decide) ?_
      refine g_goto (pc := 77) o 81 dX0_mayComeNext_77 (by decide) ?_
      exact g_iret (pc := 81) o f dX0_mayComeNext_81 rfl (by first | exact (bi_t (by unfold may; simp [g])).symm | exact (bi_f (by unfold may; simp [g])).symm) rfl
  · have n99 : ¬ nI L = 99 := mt (eq_N (b := 99) (by omega) (by decide) rfl rfl).mp e99
    by_cases e100 : L = 100
    · subst e100
      refine g_look (pc := 1) o 44 dX0_mayComeNext_1 (by decide) rfl (by decide) ?_
      refine g_iload_n (pc := 44) o 2 dX0_mayComeNext_44 rfl rfl ?_
      refine g_if_ne (pc := 45) o 52 dX0_mayComeNext_45 (by decide) (fun q45 => ?_) (fun q45 => ?_)
      · have g : ¬ T 4 = 0 := mt (eq_N (by omega) (by decide) rfl (rfl : (0 : Int32) = nI 0)).mpr q45
        refine g_iconst (pc := 52) (v := 0) o dX0_mayComeNext_52 (by decide) ?_
        exact g_iret (pc := 53) o f dX0_mayComeNext_53 rfl (by first | exact (bi_t (by unfold may; simp [g])).symm | exact (bi_f (by unfold may; simp [g])).symm) rfl
      · have g : T 4 = 0 := (eq_N (by omega) (by decide) rfl (rfl : (0 : Int32) = nI 0)).mp q45
        refine g_iconst (pc := 48) (v := 1) o dX0_mayComeNext_48 (by decide) ?_
        refine g_goto (pc := 49) o 53 dX0_mayComeNext_49 (by decide) ?_
        exact g_iret (pc := 53) o f dX0_mayComeNext_53 rfl (by first | exact (bi_t (by unfold may; simp [g])).symm | exact (bi_f (by unfold may; simp [g])).symm) rfl
    · have n100 : ¬ nI L = 100 := mt (eq_N (b := 100) (by omega) (by decide) rfl rfl).mp e100
      by_cases e110 : L = 110
      · subst e110
        refine g_look (pc := 1) o 82 dX0_mayComeNext_1 (by decide) rfl (by decide) ?_
        refine g_aload_n (pc := 82) o 0 dX0_mayComeNext_82 rfl rfl ?_
        refine g_getI (pc := 83) o flRX0_59 (by first | assumption | rfl) (by first | assumption | omega) dX0_mayComeNext_83 ?_
        refine g_bipush (pc := 86) (v := 6) o dX0_mayComeNext_86 (by decide) ?_
        refine g_icmp_ge (pc := 88) o 95 dX0_mayComeNext_88 (by decide) (fun q88 => ?_) (fun q88 => ?_)
        · have g : ¬ T 3 < 6 := by have := (le_N (a := 6) (by decide) (by omega) rfl m10).mp q88; omega
          refine g_iconst (pc := 95) (v := 0) o dX0_mayComeNext_95 (by decide) ?_
          exact g_iret (pc := 96) o f dX0_mayComeNext_96 rfl (by first | exact (bi_t (by unfold may; simp [g])).symm | exact (bi_f (by unfold may; simp [g])).symm) rfl
        · have g : T 3 < 6 := by have := mt (le_N (a := 6) (by decide) (by omega) rfl m10).mpr q88; omega
          refine g_iconst (pc := 91) (v := 1) o dX0_mayComeNext_91 (by decide) ?_
          refine g_goto (pc := 92) o 96 dX0_mayComeNext_92 (by decide) ?_
          exact g_iret (pc := 96) o f dX0_mayComeNext_96 rfl (by first | exact (bi_t (by unfold may; simp [g])).symm | exact (bi_f (by unfold may; simp [g])).symm) rfl
      · have n110 : ¬ nI L = 110 := mt (eq_N (b := 110) (by omega) (by decide) rfl rfl).mp e110
        by_cases e113 : L = 113
        · subst e113
          refine g_look (pc := 1) o 54 dX0_mayComeNext_1 (by decide) rfl (by decide) ?_
          refine g_aload_n (pc := 54) o 0 dX0_mayComeNext_54 rfl rfl ?_
          refine g_getI (pc := 55) o flRX0_52 (by first | assumption | rfl) (by first | assumption | omega) dX0_mayComeNext_55 ?_
          refine g_if_ne (pc := 58) o 65 dX0_mayComeNext_58 (by decide) (fun q58 => ?_) (fun q58 => ?_)
          · have g : ¬ T 5 = 0 := mt (eq_N (by omega) (by decide) m2 (rfl : (0 : Int32) = nI 0)).mpr q58
            refine g_iconst (pc := 65) (v := 0) o dX0_mayComeNext_65 (by decide) ?_
            exact g_iret (pc := 66) o f dX0_mayComeNext_66 rfl (by first | exact (bi_t (by unfold may; simp [g])).symm | exact (bi_f (by unfold may; simp [g])).symm) rfl
          · have g : T 5 = 0 := (eq_N (by omega) (by decide) m2 (rfl : (0 : Int32) = nI 0)).mp q58
            refine g_iconst (pc := 61) (v := 1) o dX0_mayComeNext_61 (by decide) ?_
            refine g_goto (pc := 62) o 66 dX0_mayComeNext_62 (by decide) ?_
            exact g_iret (pc := 66) o f dX0_mayComeNext_66 rfl (by first | exact (bi_t (by unfold may; simp [g])).symm | exact (bi_f (by unfold may; simp [g])).symm) rfl
        · have n113 : ¬ nI L = 113 := mt (eq_N (b := 113) (by omega) (by decide) rfl rfl).mp e113
          refine g_look (pc := 1) (off := 96) o 97 dX0_mayComeNext_1 (by decide) (by rw [show (#[((99 : Int), (66 : Int)), (100, 43), (110, 81), (113, 53)] : Array (Int × Int)).toList = [(99, 66), (100, 43), (110, 81), (113, 53)] from rfl, lv_osw (a := 99) n99 (by decide), lv_osw (a := 100) n100 (by decide), lv_osw (a := 110) n110 (by decide), lv_osw (a := 113) n113 (by decide)]; rfl) (by decide) ?_
          refine g_iload_n (pc := 97) o 1 dX0_mayComeNext_97 rfl rfl ?_
          refine g_bipush (pc := 98) (v := 101) o dX0_mayComeNext_98 (by decide) ?_
          refine g_icmp_eq (pc := 100) o 109 dX0_mayComeNext_100 (by decide) (fun q100 => ?_) (fun q100 => ?_)
          · have g : L = 101 := (eq_N (b := 101) (by omega) (by decide) rfl rfl).mp q100
            have gm : may T L = true := by unfold may; rw [if_neg e99, if_neg e100, if_neg e110, if_neg e113]; simp [g]
            refine g_iconst (pc := 109) (v := 1) o dX0_mayComeNext_109 (by decide) ?_
            refine g_goto (pc := 110) o 114 dX0_mayComeNext_110 (by decide) ?_
            exact g_iret (pc := 114) o f dX0_mayComeNext_114 rfl (by first | exact (bi_t gm).symm | exact (bi_f (by rw [gm]; decide)).symm) rfl
          · have g : ¬ L = 101 := mt (eq_N (b := 101) (by omega) (by decide) rfl rfl).mpr q100
            refine g_iload_n (pc := 103) o 1 dX0_mayComeNext_103 rfl rfl ?_
            refine g_bipush (pc := 104) (v := 98) o dX0_mayComeNext_104 (by decide) ?_
            refine g_icmp_ne (pc := 106) o 113 dX0_mayComeNext_106 (by decide) (fun q106 => ?_) (fun q106 => ?_)
            · have g2 : ¬ L = 98 := mt (eq_N (b := 98) (by omega) (by decide) rfl rfl).mpr q106
              have gm : may T L = false := by unfold may; rw [if_neg e99, if_neg e100, if_neg e110, if_neg e113]; simp [g, g2]
              refine g_iconst (pc := 113) (v := 0) o dX0_mayComeNext_113 (by decide) ?_
              exact g_iret (pc := 114) o f dX0_mayComeNext_114 rfl (by first | exact (bi_t gm).symm | exact (bi_f (by rw [gm]; decide)).symm) rfl
            · have g2 : L = 98 := (eq_N (b := 98) (by omega) (by decide) rfl rfl).mp q106
              have gm : may T L = true := by unfold may; rw [if_neg e99, if_neg e100, if_neg e110, if_neg e113]; simp [g2]
              refine g_iconst (pc := 109) (v := 1) o dX0_mayComeNext_109 (by decide) ?_
              refine g_goto (pc := 110) o 114 dX0_mayComeNext_110 (by decide) ?_
              exact g_iret (pc := 114) o f dX0_mayComeNext_114 rfl (by first | exact (bi_t gm).symm | exact (bi_f (by rw [gm]; decide)).symm) rfl

def tciM (M : HM) (c C n0 n1 n2 n3 lv : Nat) : HM := st2 (st2 (st2 (st2 (st2 (st2 M (c + 3) C (nI n0)) (c + 4) C (nI n1)) (c + 5) C (nI n2)) (c + 6) C (nI n3)) (c + 10) n0 (nI (lv ||| 2 ^ C))) c 5 (nI (C + 1))
def tnoM (M : HM) (c C n0 n1 n2 : Nat) : HM := st2 (st2 (st2 (st2 M (c + 7) C (nI n0)) (c + 8) C (nI n1)) (c + 9) C (nI n2)) c 10 (nI (C + 1))
def num4 (M : HM) (n0 n1 n2 n3 : Nat) : Prop := M 3 0 = nI n0 ∧ M 3 1 = nI n1 ∧ M 3 2 = nI n2 ∧ M 3 3 = nI n3
set_option maxHeartbeats 2000000 in
set_option maxRecDepth 20000 in
theorem cX0tellCitizen  {c0 : Nat} (hc : c0 = 4 ∨ c0 = 16) (hn : 96 ≤ n) (rc : RCi Rf c0) {C n0 n1 n2 n3 lv : Nat} (m5 : M c0 5 = nI C) (hC : C < 6) (h04 : n0 < 4) (ml : M (c0 + 10) n0 = nI lv) (hq : num4 M n0 n1 n2 n3) : Ret Λ (d) mX0_tellCitizen [.ref c0, .ref 3] (n, M, Rf, Lg) none (n, tciM M c0 C n0 n1 n2 n3 lv, Rf, Lg) 0 0 := by
  refine Ret.of rfl rfl rfl (fun κ o f hin => ?_)
  obtain ⟨z0, z1, z2, z3, z4, z5, z6, z7, z8, z9, z10, z11⟩ := city_shp hc
  obtain ⟨r3, r4, r6, r7, r8, r9, r11, r12, r13, r14, r15⟩ := id rc
  obtain ⟨hq1, hq2, hq3, hq4⟩ := id hq
  refine g_aload_n (pc := 0) o 0 dX0_tellCitizen_0 rfl rfl ?_
  refine g_getR (pc := 1) o flRX0_18 (by first | assumption | rfl) (by first | assumption | omega) (by assumption) dX0_tellCitizen_1 ?_
  refine g_aload_n (pc := 4) o 0 dX0_tellCitizen_4 rfl rfl ?_
  refine g_getI (pc := 5) o flRX0_56 (by first | assumption | rfl) (by first | assumption | omega) dX0_tellCitizen_5 ?_
  rw [m5]
  refine g_aload_n (pc := 8) o 1 dX0_tellCitizen_8 rfl rfl ?_
  refine g_iconst (pc := 9) (v := 0) o dX0_tellCitizen_9 (by decide) ?_
  refine g_iald (pc := 10) o (0) (by first | assumption | rfl) (by first | assumption | omega) rfl (by omega) dX0_tellCitizen_10 ?_
  rw [hq.1]
  refine g_iast (pc := 11) o (C) (by first | assumption | rfl) (by first | assumption | omega) rfl (by omega) dX0_tellCitizen_11 ?_
  refine g_aload_n (pc := 12) o 0 dX0_tellCitizen_12 rfl rfl ?_
  refine g_getR (pc := 13) o flRX0_21 (by first | assumption | rfl) (by first | assumption | omega) (by assumption) dX0_tellCitizen_13 ?_
  refine g_aload_n (pc := 16) o 0 dX0_tellCitizen_16 rfl rfl ?_
  refine g_getI (pc := 17) o flRX0_56 (by first | assumption | rfl) (by first | assumption | omega) dX0_tellCitizen_17 ?_
  rw [show (st2 M (c0 + 3) C (nI n0)) c0 5 = nI C from by simp only [st2]; grind]
  refine g_aload_n (pc := 20) o 1 dX0_tellCitizen_20 rfl rfl ?_
  refine g_iconst (pc := 21) (v := 1) o dX0_tellCitizen_21 (by decide) ?_
  refine g_iald (pc := 22) o (1) (by first | assumption | rfl) (by first | assumption | omega) rfl (by omega) dX0_tellCitizen_22 ?_
  rw [show (st2 M (c0 + 3) C (nI n0)) 3 1 = nI n1 from by simp only [st2]; grind]
  refine g_iast (pc := 23) o (C) (by first | assumption | rfl) (by first | assumption | omega) rfl (by omega) dX0_tellCitizen_23 ?_
  refine g_aload_n (pc := 24) o 0 dX0_tellCitizen_24 rfl rfl ?_
  refine g_getR (pc := 25) o flRX0_24 (by first | assumption | rfl) (by first | assumption | omega) (by assumption) dX0_tellCitizen_25 ?_
  refine g_aload_n (pc := 28) o 0 dX0_tellCitizen_28 rfl rfl ?_
  refine g_getI (pc := 29) o flRX0_56 (by first | assumption | rfl) (by first | assumption | omega) dX0_tellCitizen_29 ?_
  rw [show (st2 (st2 M (c0 + 3) C (nI n0)) (c0 + 4) C (nI n1)) c0 5 = nI C from by simp only [st2]; grind]
  refine g_aload_n (pc := 32) o 1 dX0_tellCitizen_32 rfl rfl ?_
  refine g_iconst (pc := 33) (v := 2) o dX0_tellCitizen_33 (by decide) ?_
  refine g_iald (pc := 34) o (2) (by first | assumption | rfl) (by first | assumption | omega) rfl (by omega) dX0_tellCitizen_34 ?_
  rw [show (st2 (st2 M (c0 + 3) C (nI n0)) (c0 + 4) C (nI n1)) 3 2 = nI n2 from by simp only [st2]; grind]
  refine g_iast (pc := 35) o (C) (by first | assumption | rfl) (by first | assumption | omega) rfl (by omega) dX0_tellCitizen_35 ?_
  refine g_aload_n (pc := 36) o 0 dX0_tellCitizen_36 rfl rfl ?_
  refine g_getR (pc := 37) o flRX0_27 (by first | assumption | rfl) (by first | assumption | omega) (by assumption) dX0_tellCitizen_37 ?_
  refine g_aload_n (pc := 40) o 0 dX0_tellCitizen_40 rfl rfl ?_
  refine g_getI (pc := 41) o flRX0_56 (by first | assumption | rfl) (by first | assumption | omega) dX0_tellCitizen_41 ?_
  rw [show (st2 (st2 (st2 M (c0 + 3) C (nI n0)) (c0 + 4) C (nI n1)) (c0 + 5) C (nI n2)) c0 5 = nI C from by simp only [st2]; grind]
  refine g_aload_n (pc := 44) o 1 dX0_tellCitizen_44 rfl rfl ?_
  refine g_iconst (pc := 45) (v := 3) o dX0_tellCitizen_45 (by decide) ?_
  refine g_iald (pc := 46) o (3) (by first | assumption | rfl) (by first | assumption | omega) rfl (by omega) dX0_tellCitizen_46 ?_
  rw [show (st2 (st2 (st2 M (c0 + 3) C (nI n0)) (c0 + 4) C (nI n1)) (c0 + 5) C (nI n2)) 3 3 = nI n3 from by simp only [st2]; grind]
  refine g_iast (pc := 47) o (C) (by first | assumption | rfl) (by first | assumption | omega) rfl (by omega) dX0_tellCitizen_47 ?_
  refine g_aload_n (pc := 48) o 0 dX0_tellCitizen_48 rfl rfl ?_
  refine g_getR (pc := 49) o flRX0_39 (by first | assumption | rfl) (by first | assumption | omega) (by assumption) dX0_tellCitizen_49 ?_
  refine g_aload_n (pc := 52) o 1 dX0_tellCitizen_52 rfl rfl ?_
  refine g_iconst (pc := 53) (v := 0) o dX0_tellCitizen_53 (by decide) ?_
  refine g_iald (pc := 54) o (0) (by first | assumption | rfl) (by first | assumption | omega) rfl (by omega) dX0_tellCitizen_54 ?_
  rw [show (st2 (st2 (st2 (st2 M (c0 + 3) C (nI n0)) (c0 + 4) C (nI n1)) (c0 + 5) C (nI n2)) (c0 + 6) C (nI n3)) 3 0 = nI n0 from by simp only [st2]; grind]
  refine g_dup2 (pc := 55) o dX0_tellCitizen_55 rfl rfl ?_
  refine g_iald (pc := 56) o (n0) (by first | assumption | rfl) (by first | assumption | omega) rfl (by omega) dX0_tellCitizen_56 ?_
  rw [show (st2 (st2 (st2 (st2 M (c0 + 3) C (nI n0)) (c0 + 4) C (nI n1)) (c0 + 5) C (nI n2)) (c0 + 6) C (nI n3)) (c0 + 10) n0 = nI lv from by simp only [st2]; grind]
  refine g_iconst (pc := 57) (v := 1) o dX0_tellCitizen_57 (by decide) ?_
  refine g_aload_n (pc := 58) o 0 dX0_tellCitizen_58 rfl rfl ?_
  refine g_getI (pc := 59) o flRX0_56 (by first | assumption | rfl) (by first | assumption | omega) dX0_tellCitizen_59 ?_
  rw [show (st2 (st2 (st2 (st2 M (c0 + 3) C (nI n0)) (c0 + 4) C (nI n1)) (c0 + 5) C (nI n2)) (c0 + 6) C (nI n3)) c0 5 = nI C from by simp only [st2]; grind]
  refine g_ishl (pc := 62) o dX0_tellCitizen_62 ?_
  refine g_ior (pc := 63) o dX0_tellCitizen_63 ?_
  rw [n_one (by omega), n_or]
  refine g_iast (pc := 64) o (n0) (by first | assumption | rfl) (by first | assumption | omega) rfl (by omega) dX0_tellCitizen_64 ?_
  refine g_aload_n (pc := 65) o 0 dX0_tellCitizen_65 rfl rfl ?_
  refine g_dup (pc := 66) o dX0_tellCitizen_66 rfl ?_
  refine g_getI (pc := 67) o flRX0_56 (by first | assumption | rfl) (by first | assumption | omega) dX0_tellCitizen_67 ?_
  rw [show (st2 (st2 (st2 (st2 (st2 M (c0 + 3) C (nI n0)) (c0 + 4) C (nI n1)) (c0 + 5) C (nI n2)) (c0 + 6) C (nI n3)) (c0 + 10) n0 (nI (lv ||| 2 ^ C))) c0 5 = nI C from by simp only [st2]; grind]
  refine g_iconst (pc := 70) (v := 1) o dX0_tellCitizen_70 (by decide) ?_
  refine g_iadd (pc := 71) o dX0_tellCitizen_71 ?_
  rw [nI_1]
  refine g_putI (pc := 72) o flRX0_56 rfl (by first | assumption | rfl) (by first | assumption | omega) rfl rfl dX0_tellCitizen_72 ?_
  exact g_vret (pc := 75) o f dX0_tellCitizen_75 (hp_M rfl)

set_option maxHeartbeats 2000000 in
set_option maxRecDepth 20000 in
theorem cX0tellNoise  {c0 : Nat} (hc : c0 = 4 ∨ c0 = 16) (hn : 96 ≤ n) (rc : RCi Rf c0) {C n0 n1 n2 n3 : Nat} (m10 : M c0 10 = nI C) (hC : C < 6) (hq : num4 M n0 n1 n2 n3) : Ret Λ (d) mX0_tellNoise [.ref c0, .ref 3] (n, M, Rf, Lg) none (n, tnoM M c0 C n0 n1 n2, Rf, Lg) 0 0 := by
  refine Ret.of rfl rfl rfl (fun κ o f hin => ?_)
  obtain ⟨z0, z1, z2, z3, z4, z5, z6, z7, z8, z9, z10, z11⟩ := city_shp hc
  obtain ⟨r3, r4, r6, r7, r8, r9, r11, r12, r13, r14, r15⟩ := id rc
  obtain ⟨hq1, hq2, hq3, hq4⟩ := id hq
  refine g_aload_n (pc := 0) o 0 dX0_tellNoise_0 rfl rfl ?_
  refine g_getR (pc := 1) o flRX0_30 (by first | assumption | rfl) (by first | assumption | omega) (by assumption) dX0_tellNoise_1 ?_
  refine g_aload_n (pc := 4) o 0 dX0_tellNoise_4 rfl rfl ?_
  refine g_getI (pc := 5) o flRX0_59 (by first | assumption | rfl) (by first | assumption | omega) dX0_tellNoise_5 ?_
  rw [m10]
  refine g_aload_n (pc := 8) o 1 dX0_tellNoise_8 rfl rfl ?_
  refine g_iconst (pc := 9) (v := 0) o dX0_tellNoise_9 (by decide) ?_
  refine g_iald (pc := 10) o (0) (by first | assumption | rfl) (by first | assumption | omega) rfl (by omega) dX0_tellNoise_10 ?_
  rw [hq.1]
  refine g_iast (pc := 11) o (C) (by first | assumption | rfl) (by first | assumption | omega) rfl (by omega) dX0_tellNoise_11 ?_
  refine g_aload_n (pc := 12) o 0 dX0_tellNoise_12 rfl rfl ?_
  refine g_getR (pc := 13) o flRX0_33 (by first | assumption | rfl) (by first | assumption | omega) (by assumption) dX0_tellNoise_13 ?_
  refine g_aload_n (pc := 16) o 0 dX0_tellNoise_16 rfl rfl ?_
  refine g_getI (pc := 17) o flRX0_59 (by first | assumption | rfl) (by first | assumption | omega) dX0_tellNoise_17 ?_
  rw [show (st2 M (c0 + 7) C (nI n0)) c0 10 = nI C from by simp only [st2]; grind]
  refine g_aload_n (pc := 20) o 1 dX0_tellNoise_20 rfl rfl ?_
  refine g_iconst (pc := 21) (v := 1) o dX0_tellNoise_21 (by decide) ?_
  refine g_iald (pc := 22) o (1) (by first | assumption | rfl) (by first | assumption | omega) rfl (by omega) dX0_tellNoise_22 ?_
  rw [show (st2 M (c0 + 7) C (nI n0)) 3 1 = nI n1 from by simp only [st2]; grind]
  refine g_iast (pc := 23) o (C) (by first | assumption | rfl) (by first | assumption | omega) rfl (by omega) dX0_tellNoise_23 ?_
  refine g_aload_n (pc := 24) o 0 dX0_tellNoise_24 rfl rfl ?_
  refine g_getR (pc := 25) o flRX0_36 (by first | assumption | rfl) (by first | assumption | omega) (by assumption) dX0_tellNoise_25 ?_
  refine g_aload_n (pc := 28) o 0 dX0_tellNoise_28 rfl rfl ?_
  refine g_getI (pc := 29) o flRX0_59 (by first | assumption | rfl) (by first | assumption | omega) dX0_tellNoise_29 ?_
  rw [show (st2 (st2 M (c0 + 7) C (nI n0)) (c0 + 8) C (nI n1)) c0 10 = nI C from by simp only [st2]; grind]
  refine g_aload_n (pc := 32) o 1 dX0_tellNoise_32 rfl rfl ?_
  refine g_iconst (pc := 33) (v := 2) o dX0_tellNoise_33 (by decide) ?_
  refine g_iald (pc := 34) o (2) (by first | assumption | rfl) (by first | assumption | omega) rfl (by omega) dX0_tellNoise_34 ?_
  rw [show (st2 (st2 M (c0 + 7) C (nI n0)) (c0 + 8) C (nI n1)) 3 2 = nI n2 from by simp only [st2]; grind]
  refine g_iast (pc := 35) o (C) (by first | assumption | rfl) (by first | assumption | omega) rfl (by omega) dX0_tellNoise_35 ?_
  refine g_aload_n (pc := 36) o 0 dX0_tellNoise_36 rfl rfl ?_
  refine g_dup (pc := 37) o dX0_tellNoise_37 rfl ?_
  refine g_getI (pc := 38) o flRX0_59 (by first | assumption | rfl) (by first | assumption | omega) dX0_tellNoise_38 ?_
  rw [show (st2 (st2 (st2 M (c0 + 7) C (nI n0)) (c0 + 8) C (nI n1)) (c0 + 9) C (nI n2)) c0 10 = nI C from by simp only [st2]; grind]
  refine g_iconst (pc := 41) (v := 1) o dX0_tellNoise_41 (by decide) ?_
  refine g_iadd (pc := 42) o dX0_tellNoise_42 ?_
  rw [nI_1]
  refine g_putI (pc := 43) o flRX0_59 rfl (by first | assumption | rfl) (by first | assumption | omega) rfl rfl dX0_tellNoise_43 ?_
  exact g_vret (pc := 46) o f dX0_tellNoise_46 (hp_M rfl)

end M13
