section M40
variable {Λ : PL} {d : Nat} {M : HM} {Rf : HR} {Lg : HL}

/-- from n on nothing is there yet -/
def ZM (n : Nat) (M : HM) : Prop := ∀ z, n ≤ z → M z = fun _ => 0
def ZR (n : Nat) (Rf : HR) : Prop := ∀ z, n ≤ z → Rf z = fun _ => none
theorem ZM.mono {n k : Nat} (h : ZM n M) (hk : n ≤ k) : ZM k M := fun z hz => h z (Nat.le_trans hk hz)
theorem ZR.mono {n k : Nat} (h : ZR n Rf) (hk : n ≤ k) : ZR k Rf := fun z hz => h z (Nat.le_trans hk hz)
theorem ZR.st {n k j : Nat} {v : Option Nat} (h : ZR n Rf) (hk : k < n) : ZR n (st2 Rf k j v) := fun z hz => by rw [st2_ne _ _ _ (by omega)]; exact h z hz
def nwR (Rf : HR) (a : Nat) : HR := st2 (st2 (st2 Rf a 3 (some (a + 1))) a 4 (some (a + 2))) a 5 (some (a + 3))
def rdR (Rf : HR) : HR := st2 (st2 Rf 1 0 (some 2)) 1 6 (some 3)
def ctR (Rf : HR) (c : Nat) : HR := st2 (st2 (st2 (st2 (st2 (st2 (st2 (st2 (st2 (st2 (st2 Rf c 3 (some (c + 1))) c 4 (some (c + 2))) c 6 (some (c + 3))) c 7 (some (c + 4))) c 8 (some (c + 5))) c 9 (some (c + 6))) c 11 (some (c + 7))) c 12 (some (c + 8))) c 13 (some (c + 9))) c 14 (some (c + 10))) c 15 (some (c + 11))
theorem ZR.nw {n a : Nat} (h : ZR n Rf) (hk : a < n) : ZR n (nwR Rf a) := ((h.st hk).st hk).st hk
theorem ZR.rd {n : Nat} (h : ZR n Rf) (hk : 1 < n) : ZR n (rdR Rf) := (h.st hk).st hk
theorem ZR.ct {n c : Nat} (h : ZR n Rf) (hk : c < n) : ZR n (ctR Rf c) := ((((((((((h.st hk).st hk).st hk).st hk).st hk).st hk).st hk).st hk).st hk).st hk).st hk
theorem nwR_ne {a z : Nat} (h : z ≠ a) : nwR Rf a z = Rf z := by unfold nwR; rw [st2_ne _ _ _ h, st2_ne _ _ _ h, st2_ne _ _ _ h]
theorem nwR_is (Rf : HR) (a : Nat) : RNi (nwR Rf a) a := ⟨by simp [nwR, st2], by simp [nwR, st2], by simp [nwR, st2]⟩

set_option maxHeartbeats 2000000 in
set_option maxRecDepth 20000 in
theorem cX1init {a : Nat} (ha : a ∈ nows) (hz : ZM (a + 1) M) : Ret Λ (d + 1) mX1_init [.ref a] (a + 1, M, Rf, Lg) none (a + 4, M, nwR Rf a, Lg) 3 18 := by
  refine Ret.of rfl rfl rfl (fun κ o f hin => ?_)
  obtain ⟨z0, z1, z2, z3, _⟩ := now_shp ha
  refine g_aload_n (pc := 0) o 0 dX1_init_0 rfl rfl ?_
  refine g_objInit (pc := 1) o lkRX1_3 rfl rfl dX1_init_1 ?_ in_obj co_obj
  refine g_aload_n (pc := 4) o 0 dX1_init_4 rfl rfl ?_
  refine g_bipush (pc := 5) (v := 6) o dX1_init_5 (by decide) ?_
  refine g_newa (pc := 7) o (t := 6) rfl (by decide) (by decide) arc_6 (by first | assumption | rfl) rfl (hz _ (by omega)) (by first | decide | omega) dX1_init_7 ?_
  refine g_putRF (pc := 9) o hin flRX1_9 rfl rfl (by first | assumption | rfl) (by omega) dX1_init_9 ?_
  refine g_aload_n (pc := 12) o 0 dX1_init_12 rfl rfl ?_
  refine g_bipush (pc := 13) (v := 6) o dX1_init_13 (by decide) ?_
  refine g_newa (pc := 15) o (t := 6) rfl (by decide) (by decide) arc_6 (by first | assumption | rfl) rfl (hz _ (by omega)) (by first | decide | omega) dX1_init_15 ?_
  refine g_putRF (pc := 17) o hin flRX1_15 rfl rfl (by first | assumption | rfl) (by omega) dX1_init_17 ?_
  refine g_aload_n (pc := 20) o 0 dX1_init_20 rfl rfl ?_
  refine g_bipush (pc := 21) (v := 6) o dX1_init_21 (by decide) ?_
  refine g_newa (pc := 23) o (t := 6) rfl (by decide) (by decide) arc_6 (by first | assumption | rfl) rfl (hz _ (by omega)) (by first | decide | omega) dX1_init_23 ?_
  refine g_putRF (pc := 25) o hin flRX1_18 rfl rfl (by first | assumption | rfl) (by omega) dX1_init_25 ?_
  exact g_vret (pc := 28) o f dX1_init_28 rfl

set_option maxHeartbeats 2000000 in
set_option maxRecDepth 20000 in
theorem cX2init (hz : ZM 2 M) : Ret Λ (d + 1) mX2_init [.ref 1] (2, M, Rf, Lg) none (4, M, rdR Rf, Lg) 2 204 := by
  refine Ret.of rfl rfl rfl (fun κ o f hin => ?_)
  refine g_aload_n (pc := 0) o 0 dX2_init_0 rfl rfl ?_
  refine g_objInit (pc := 1) o lkRX2_3 rfl rfl dX2_init_1 ?_ in_obj co_obj
  refine g_aload_n (pc := 4) o 0 dX2_init_4 rfl rfl ?_
  refine g_sipush (pc := 5) (v := 200) o dX2_init_5 (by decide) ?_
  refine g_newa (pc := 8) o (t := 5) rfl (by decide) (by decide) arc_5 (by first | assumption | rfl) rfl (hz _ (by omega)) (by first | decide | omega) dX2_init_8 ?_
  refine g_putRF (pc := 10) o hin flRX2_9 rfl rfl rfl (by omega) dX2_init_10 ?_
  refine g_aload_n (pc := 13) o 0 dX2_init_13 rfl rfl ?_
  refine g_iconst (pc := 14) (v := 4) o dX2_init_14 (by decide) ?_
  refine g_newa (pc := 15) o (t := 6) rfl (by decide) (by decide) arc_6 (by first | assumption | rfl) rfl (hz _ (by omega)) (by first | decide | omega) dX2_init_15 ?_
  refine g_putRF (pc := 17) o hin flRX2_15 rfl rfl rfl (by omega) dX2_init_17 ?_
  exact g_vret (pc := 20) o f dX2_init_20 rfl

set_option maxHeartbeats 2000000 in
set_option maxRecDepth 20000 in
theorem cX0init {c : Nat} (hc : c = 4 ∨ c = 16) (hz : ZM (c + 1) M) : Ret Λ (d + 1) mX0_init [.ref c] (c + 1, M, Rf, Lg) none (c + 12, M, ctR Rf c, Lg) 11 62 := by
  refine Ret.of rfl rfl rfl (fun κ o f hin => ?_)
  obtain ⟨z0, z1, z2, z3, z4, z5, z6, z7, z8, z9, z10, z11⟩ := city_shp hc
  refine g_aload_n (pc := 0) o 0 dX0_init_0 rfl rfl ?_
  refine g_objInit (pc := 1) o lkRX0_3 rfl rfl dX0_init_1 ?_ in_obj co_obj
  refine g_aload_n (pc := 4) o 0 dX0_init_4 rfl rfl ?_
  refine g_iconst (pc := 5) (v := 4) o dX0_init_5 (by decide) ?_
  refine g_newa (pc := 6) o (t := 6) rfl (by decide) (by decide) arc_6 (by first | assumption | rfl) rfl (hz _ (by omega)) (by first | decide | omega) dX0_init_6 ?_
  refine g_putRF (pc := 8) o hin flRX0_9 rfl rfl (by first | assumption | rfl) (by omega) dX0_init_8 ?_
  refine g_aload_n (pc := 11) o 0 dX0_init_11 rfl rfl ?_
  refine g_iconst (pc := 12) (v := 4) o dX0_init_12 (by decide) ?_
  refine g_newa (pc := 13) o (t := 6) rfl (by decide) (by decide) arc_6 (by first | assumption | rfl) rfl (hz _ (by omega)) (by first | decide | omega) dX0_init_13 ?_
  refine g_putRF (pc := 15) o hin flRX0_15 rfl rfl (by first | assumption | rfl) (by omega) dX0_init_15 ?_
  refine g_aload_n (pc := 18) o 0 dX0_init_18 rfl rfl ?_
  refine g_bipush (pc := 19) (v := 6) o dX0_init_19 (by decide) ?_
  refine g_newa (pc := 21) o (t := 6) rfl (by decide) (by decide) arc_6 (by first | assumption | rfl) rfl (hz _ (by omega)) (by first | decide | omega) dX0_init_21 ?_
  refine g_putRF (pc := 23) o hin flRX0_18 rfl rfl (by first | assumption | rfl) (by omega) dX0_init_23 ?_
  refine g_aload_n (pc := 26) o 0 dX0_init_26 rfl rfl ?_
  refine g_bipush (pc := 27) (v := 6) o dX0_init_27 (by decide) ?_
  refine g_newa (pc := 29) o (t := 6) rfl (by decide) (by decide) arc_6 (by first | assumption | rfl) rfl (hz _ (by omega)) (by first | decide | omega) dX0_init_29 ?_
  refine g_putRF (pc := 31) o hin flRX0_21 rfl rfl (by first | assumption | rfl) (by omega) dX0_init_31 ?_
  refine g_aload_n (pc := 34) o 0 dX0_init_34 rfl rfl ?_
  refine g_bipush (pc := 35) (v := 6) o dX0_init_35 (by decide) ?_
  refine g_newa (pc := 37) o (t := 6) rfl (by decide) (by decide) arc_6 (by first | assumption | rfl) rfl (hz _ (by omega)) (by first | decide | omega) dX0_init_37 ?_
  refine g_putRF (pc := 39) o hin flRX0_24 rfl rfl (by first | assumption | rfl) (by omega) dX0_init_39 ?_
  refine g_aload_n (pc := 42) o 0 dX0_init_42 rfl rfl ?_
  refine g_bipush (pc := 43) (v := 6) o dX0_init_43 (by decide) ?_
  refine g_newa (pc := 45) o (t := 6) rfl (by decide) (by decide) arc_6 (by first | assumption | rfl) rfl (hz _ (by omega)) (by first | decide | omega) dX0_init_45 ?_
  refine g_putRF (pc := 47) o hin flRX0_27 rfl rfl (by first | assumption | rfl) (by omega) dX0_init_47 ?_
  refine g_aload_n (pc := 50) o 0 dX0_init_50 rfl rfl ?_
  refine g_bipush (pc := 51) (v := 6) o dX0_init_51 (by decide) ?_
  refine g_newa (pc := 53) o (t := 6) rfl (by decide) (by decide) arc_6 (by first | assumption | rfl) rfl (hz _ (by omega)) (by first | decide | omega) dX0_init_53 ?_
  refine g_putRF (pc := 55) o hin flRX0_30 rfl rfl (by first | assumption | rfl) (by omega) dX0_init_55 ?_
  refine g_aload_n (pc := 58) o 0 dX0_init_58 rfl rfl ?_
  refine g_bipush (pc := 59) (v := 6) o dX0_init_59 (by decide) ?_
  refine g_newa (pc := 61) o (t := 6) rfl (by decide) (by decide) arc_6 (by first | assumption | rfl) rfl (hz _ (by omega)) (by first | decide | omega) dX0_init_61 ?_
  refine g_putRF (pc := 63) o hin flRX0_33 rfl rfl (by first | assumption | rfl) (by omega) dX0_init_63 ?_
  refine g_aload_n (pc := 66) o 0 dX0_init_66 rfl rfl ?_
  refine g_bipush (pc := 67) (v := 6) o dX0_init_67 (by decide) ?_
  refine g_newa (pc := 69) o (t := 6) rfl (by decide) (by decide) arc_6 (by first | assumption | rfl) rfl (hz _ (by omega)) (by first | decide | omega) dX0_init_69 ?_
  refine g_putRF (pc := 71) o hin flRX0_36 rfl rfl (by first | assumption | rfl) (by omega) dX0_init_71 ?_
  refine g_aload_n (pc := 74) o 0 dX0_init_74 rfl rfl ?_
  refine g_iconst (pc := 75) (v := 4) o dX0_init_75 (by decide) ?_
  refine g_newa (pc := 76) o (t := 6) rfl (by decide) (by decide) arc_6 (by first | assumption | rfl) rfl (hz _ (by omega)) (by first | decide | omega) dX0_init_76 ?_
  refine g_putRF (pc := 78) o hin flRX0_39 rfl rfl (by first | assumption | rfl) (by omega) dX0_init_78 ?_
  refine g_aload_n (pc := 81) o 0 dX0_init_81 rfl rfl ?_
  refine g_bipush (pc := 82) (v := 8) o dX0_init_82 (by decide) ?_
  refine g_newa (pc := 84) o (t := 6) rfl (by decide) (by decide) arc_6 (by first | assumption | rfl) rfl (hz _ (by omega)) (by first | decide | omega) dX0_init_84 ?_
  refine g_putRF (pc := 86) o hin flRX0_42 rfl rfl (by first | assumption | rfl) (by omega) dX0_init_86 ?_
  exact g_vret (pc := 89) o f dX0_init_89 rfl

end M40
