section M43
variable {Λ : PL} {d : Nat} {M : HM} {Rf : HR} {Lg : HL}

/-- the reference as it is made -/
def in4 (M : HM) (Rf : HR) (Lg : HL) (v : Option Value) (h : HP) : Prop := ∃ M' Rf', v = none ∧ h = (109, M', Rf', Lg) ∧ (∀ z, z ≠ 96 → Rf' z = Rf z) ∧ (∀ z, z < 96 → M' z = M z) ∧ MB M' Rf' 109 iniT (bgT iniT) 0 ∧ MF M' 63 (-9) (-9) (-9) 0 ∧ M' 96 7 = 0 ∧ M' 96 11 = 0 ∧ M' 103 0 = 0 ∧ M' 103 1 = 0 ∧ txN M' 0 (fun _ => 0)
/-- its ints ahead of the first reading -/
def i96 (M : HM) : Prop := M 96 2 = 0 ∧ M 96 16 = 63 ∧ M 96 17 = -9 ∧ M 96 18 = -9 ∧ M 96 19 = -9 ∧ M 96 20 = 0
theorem in4_of {M1 M2 : HM} {R1 : HR} (rm : RM R1) (hr : ∀ z, z ≠ 96 → R1 z = Rf z) (hm : ∀ z, z < 96 → M1 z = M z) (hi : i96 M1) {r : Int32} (rq : rdQ 0 (fun _ => 0) M1 r M2) : in4 M Rf Lg none (109, tlM M2, R1, Lg) := by
  unfold rdQ at rq
  rw [rdT_0] at rq
  obtain ⟨⟨f1, f2⟩, -, q2, q3, -⟩ := rq
  obtain ⟨i2, i16, i17, i18, i19, i20⟩ := hi
  obtain ⟨o1, o2, o3, o4⟩ := tlM_o M2
  have k0 : iniT 2 = 0 := rfl
  have low : ∀ j, j ≠ 7 → j ≠ 11 → (j < 12 ∨ 15 < j) → tlM M2 96 j = M1 96 j := fun j g1 g2 g3 => by rw [tlM_96 _ g1 g2, f2 j g3]
  refine ⟨_, _, rfl, rfl, hr, fun z hz => ?_, ⟨rm, Nat.le_refl _, q3, tlM_98 q2, tlM_100 q2, ⟨Nat.le_refl _, by decide, Nat.le_refl _, fun i hi => by rw [k0] at hi; omega⟩, by decide⟩, ⟨?_, by decide, ?_, ?_, ?_, ?_, by decide⟩, o1, o2, o3, o4, ⟨by decide, ?_, fun i hi => by omega⟩⟩
  · rw [tlM_ne _ (by omega) (by omega) (by omega) (by omega), f1 z (by omega) (by omega), hm z hz]
  · rw [low 16 (by decide) (by decide) (by decide), i16]; rfl
  · rw [low 17 (by decide) (by decide) (by decide), i17]
  · rw [low 18 (by decide) (by decide) (by decide), i18]
  · rw [low 19 (by decide) (by decide) (by decide), i19]
  · rw [low 20 (by decide) (by decide) (by decide), i20]; rfl
  · rw [low 2 (by decide) (by decide) (by decide), i2]; rfl

set_option maxHeartbeats 4000000 in
set_option maxRecDepth 20000 in
theorem cX4init (zm : ZM 96 M) : RetE Λ (d + 7) mX4_init [.ref 96] (97, M, Rf, Lg) (in4 M Rf Lg) 12 683 := by
  refine RetE.of rfl rfl rfl (fun κ o f hin => ?_)
  have fin : ∀ (M1 : HM) (R1 : HR), RM R1 → (∀ z, z ≠ 96 → R1 z = Rf z) → (∀ z, z < 96 → M1 z = M z) → i96 M1 → G (Λ, κ) 123 [some (.ref 96)] [] (109, M1, R1, Lg) 12 683 := by
    intro M1 R1 rm hr hm hi
    refine g_aload_n (pc := 123) o 0 dX4_init_123 rfl rfl ?_
    refine e_V0i (pc := 124) o lkRX4_60 cmX4_reads (cX4reads rm (Nat.le_refl _) (tl := 0) (tx := fun _ => 0) ⟨by decide, hi.1, fun i hi => by omega⟩) rfl (by first | decide | (show (_ : Nat) < 109; decide)) rfl rfl (by omega) dX4_init_124 (fun r M2 hq => ?_)
    refine g_pop (pc := 127) o dX4_init_127 rfl ?_
    refine g_aload_n (pc := 128) o 0 dX4_init_128 rfl rfl ?_
    refine g_V0v (pc := 129) o lkRX4_64 cmX4_tells (cX4tells rm (Nat.le_refl _)) rfl (by first | decide | (show (_ : Nat) < 109; decide)) rfl rfl (by omega) dX4_init_129 ?_
    exact e_vret (pc := 132) o f dX4_init_132 (in4_of rm hr hm hi hq)
  refine g_aload_n (pc := 0) o 0 dX4_init_0 rfl rfl ?_
  refine g_objInit (pc := 1) o lkRX4_1 rfl rfl dX4_init_1 ?_ in_obj co_obj
  refine g_aload_n (pc := 4) o 0 dX4_init_4 rfl rfl ?_
  refine g_sipush (pc := 5) (v := 200) o dX4_init_5 (by decide) ?_
  refine g_newa (pc := 8) o (t := 6) rfl (by decide) (by decide) arc_6 rfl rfl (zm _ (by decide)) (by first | decide | omega) dX4_init_8 ?_
  refine g_putRF (pc := 10) o hin flRX4_7 rfl rfl rfl (by decide) dX4_init_10 ?_
  refine g_aload_n (pc := 13) o 0 dX4_init_13 rfl rfl ?_
  refine g_bipush (pc := 14) (v := 56) o dX4_init_14 (by decide) ?_
  refine g_newa (pc := 16) o (t := 6) rfl (by decide) (by decide) arc_6 rfl rfl (zm _ (by decide)) (by first | decide | omega) dX4_init_16 ?_
  refine g_putRF (pc := 18) o hin flRX4_13 rfl rfl rfl (by decide) dX4_init_18 ?_
  refine g_aload_n (pc := 21) o 0 dX4_init_21 rfl rfl ?_
  refine g_bipush (pc := 22) (v := 56) o dX4_init_22 (by decide) ?_
  refine g_newa (pc := 24) o (t := 6) rfl (by decide) (by decide) arc_6 rfl rfl (zm _ (by decide)) (by first | decide | omega) dX4_init_24 ?_
  refine g_putRF (pc := 26) o hin flRX4_16 rfl rfl rfl (by decide) dX4_init_26 ?_
  refine g_aload_n (pc := 29) o 0 dX4_init_29 rfl rfl ?_
  refine g_bipush (pc := 30) (v := 21) o dX4_init_30 (by decide) ?_
  refine g_newa (pc := 32) o (t := 6) rfl (by decide) (by decide) arc_6 rfl rfl (zm _ (by decide)) (by first | decide | omega) dX4_init_32 ?_
  refine g_putRF (pc := 34) o hin flRX4_19 rfl rfl rfl (by decide) dX4_init_34 ?_
  refine g_aload_n (pc := 37) o 0 dX4_init_37 rfl rfl ?_
  refine g_sipush (pc := 38) (v := 210) o dX4_init_38 (by decide) ?_
  refine g_newa (pc := 41) o (t := 6) rfl (by decide) (by decide) arc_6 rfl rfl (zm _ (by decide)) (by first | decide | omega) dX4_init_41 ?_
  refine g_putRF (pc := 43) o hin flRX4_22 rfl rfl rfl (by decide) dX4_init_43 ?_
  refine g_aload_n (pc := 46) o 0 dX4_init_46 rfl rfl ?_
  refine g_bipush (pc := 47) (v := 42) o dX4_init_47 (by decide) ?_
  refine g_newa (pc := 49) o (t := 6) rfl (by decide) (by decide) arc_6 rfl rfl (zm _ (by decide)) (by first | decide | omega) dX4_init_49 ?_
  refine g_putRF (pc := 51) o hin flRX4_25 rfl rfl rfl (by decide) dX4_init_51 ?_
  refine g_aload_n (pc := 54) o 0 dX4_init_54 rfl rfl ?_
  refine g_iconst (pc := 55) (v := 2) o dX4_init_55 (by decide) ?_
  refine g_newa (pc := 56) o (t := 7) rfl (by decide) (by decide) arc_7 rfl rfl (zm _ (by decide)) (by first | decide | omega) dX4_init_56 ?_
  refine g_putRF (pc := 58) o hin flRX4_28 rfl rfl rfl (by decide) dX4_init_58 ?_
  refine g_aload_n (pc := 61) o 0 dX4_init_61 rfl rfl ?_
  refine g_bipush (pc := 62) (v := 6) o dX4_init_62 (by decide) ?_
  refine g_newa (pc := 64) o (t := 6) rfl (by decide) (by decide) arc_6 rfl rfl (zm _ (by decide)) (by first | decide | omega) dX4_init_64 ?_
  refine g_putRF (pc := 66) o hin flRX4_32 rfl rfl rfl (by decide) dX4_init_66 ?_
  refine g_aload_n (pc := 69) o 0 dX4_init_69 rfl rfl ?_
  refine g_bipush (pc := 70) (v := 63) o dX4_init_70 (by decide) ?_
  refine g_putI (pc := 72) o flRX4_35 rfl rfl (by decide) rfl rfl dX4_init_72 ?_
  refine g_aload_n (pc := 75) o 0 dX4_init_75 rfl rfl ?_
  refine g_bipush (pc := 76) (v := -9) o dX4_init_76 (by decide) ?_
  refine g_putI (pc := 78) o flRX4_39 rfl rfl (by decide) rfl rfl dX4_init_78 ?_
  refine g_aload_n (pc := 81) o 0 dX4_init_81 rfl rfl ?_
  refine g_bipush (pc := 82) (v := -9) o dX4_init_82 (by decide) ?_
  refine g_putI (pc := 84) o flRX4_42 rfl rfl (by decide) rfl rfl dX4_init_84 ?_
  refine g_aload_n (pc := 87) o 0 dX4_init_87 rfl rfl ?_
  refine g_bipush (pc := 88) (v := -9) o dX4_init_88 (by decide) ?_
  refine g_putI (pc := 90) o flRX4_45 rfl rfl (by decide) rfl rfl dX4_init_90 ?_
  refine g_aload_n (pc := 93) o 0 dX4_init_93 rfl rfl ?_
  refine g_bipush (pc := 94) (v := 21) o dX4_init_94 (by decide) ?_
  refine g_newa (pc := 96) o (t := 6) rfl (by decide) (by decide) arc_6 rfl rfl (by rw [st2_ne _ _ _ (by decide), st2_ne _ _ _ (by decide), st2_ne _ _ _ (by decide), st2_ne _ _ _ (by decide)]; exact zm _ (by decide)) (by first | decide | omega) dX4_init_96 ?_
  refine g_putRF (pc := 98) o hin flRX4_48 rfl rfl rfl (by decide) dX4_init_98 ?_
  refine g_aload_n (pc := 101) o 0 dX4_init_101 rfl rfl ?_
  refine g_bipush (pc := 102) (v := 63) o dX4_init_102 (by decide) ?_
  refine g_newa (pc := 104) o (t := 6) rfl (by decide) (by decide) arc_6 rfl rfl (by rw [st2_ne _ _ _ (by decide), st2_ne _ _ _ (by decide), st2_ne _ _ _ (by decide), st2_ne _ _ _ (by decide)]; exact zm _ (by decide)) (by first | decide | omega) dX4_init_104 ?_
  refine g_putRF (pc := 106) o hin flRX4_51 rfl rfl rfl (by decide) dX4_init_106 ?_
  refine g_aload_n (pc := 109) o 0 dX4_init_109 rfl rfl ?_
  refine g_iconst (pc := 110) (v := 3) o dX4_init_110 (by decide) ?_
  refine g_newa (pc := 111) o (t := 6) rfl (by decide) (by decide) arc_6 rfl rfl (by rw [st2_ne _ _ _ (by decide), st2_ne _ _ _ (by decide), st2_ne _ _ _ (by decide), st2_ne _ _ _ (by decide)]; exact zm _ (by decide)) (by first | decide | omega) dX4_init_111 ?_
  refine g_putRF (pc := 113) o hin flRX4_54 rfl rfl rfl (by decide) dX4_init_113 ?_
  refine g_aload_n (pc := 116) o 0 dX4_init_116 rfl rfl ?_
  refine g_iconst (pc := 117) (v := 3) o dX4_init_117 (by decide) ?_
  refine g_newa (pc := 118) o (t := 6) rfl (by decide) (by decide) arc_6 rfl rfl (by rw [st2_ne _ _ _ (by decide), st2_ne _ _ _ (by decide), st2_ne _ _ _ (by decide), st2_ne _ _ _ (by decide)]; exact zm _ (by decide)) (by first | decide | omega) dX4_init_118 ?_
  refine g_putRF (pc := 120) o hin flRX4_57 rfl rfl rfl (by decide) dX4_init_120 ?_
  refine fin _ _ ⟨rfl, rfl, rfl, rfl, rfl, rfl, rfl, rfl, rfl, rfl, rfl, rfl⟩ (fun z hz => ?_) (fun z hz => ?_) ⟨?_, rfl, rfl, rfl, rfl, ?_⟩
  · rw [st2_ne _ _ _ hz, st2_ne _ _ _ hz, st2_ne _ _ _ hz, st2_ne _ _ _ hz, st2_ne _ _ _ hz, st2_ne _ _ _ hz, st2_ne _ _ _ hz, st2_ne _ _ _ hz, st2_ne _ _ _ hz, st2_ne _ _ _ hz, st2_ne _ _ _ hz, st2_ne _ _ _ hz]
  · rw [st2_ne _ _ _ (show z ≠ 96 by omega), st2_ne _ _ _ (show z ≠ 96 by omega), st2_ne _ _ _ (show z ≠ 96 by omega), st2_ne _ _ _ (show z ≠ 96 by omega)]
  · show M 96 2 = 0; rw [zm 96 (by decide)]
  · show M 96 20 = 0; rw [zm 96 (by decide)]

end M43
