section M30
variable {Λ : PL} {d n : Nat} {M : HM} {Rf : HR} {Lg : HL}

theorem tk13 (M : HM) (tl : Nat) (tx : Nat → Nat) (p : Nat) : tkM M tl tx p 96 13 = nI (srt tl tx p) := rfl
theorem tk15 (M : HM) (tl : Nat) (tx : Nat → Nat) (p : Nat) : tkM M tl tx p 96 15 = mvI tl tx p := rfl
theorem nm_v {tl : Nat} {tx : Nat → Nat} {p lo hi m : Nat} (hx : ∀ i, i < tl → tx i < 256) (em : mvI tl tx p = nI m) (hm : m < 3000) (h : nmB tl tx p lo hi = true) : m = tkV tl tx p ∧ lo ≤ tkV tl tx p ∧ tkV tl tx p ≤ hi := by
  have hc := nm_c h
  have h1 := (mv_eq hx hc).2.2.1
  have h2 := (tk_num hx hc 0).2
  rw [em] at h1
  refine ⟨(nI_eq (by omega) (by omega)).mp h1, ?_⟩
  unfold nmB at h
  rw [decide_eq_true_iff] at h
  exact h.2

set_option maxHeartbeats 2000000 in
set_option maxRecDepth 20000 in
theorem cX4rBeds (rm : RM Rf) (hn : 109 ≤ n) {tl : Nat} {tx : Nat → Nat} {T : Nat → Nat} {p : Nat} (ds : DS M tl tx T p) (ht : okT T) (ho : okP T) (h4 : T 4 < 1000) {f0 : Nat} (h14 : M 96 14 = nI f0) : RetE Λ (d + 4) mX4_readsBeds [.ref 96] (n, M, Rf, Lg) (pI n Rf Lg (fun r M' => rdI tl tx T 98 p f0 M r M')) 0 0 := by
  refine RetE.of rfl rfl rfl (fun κ o f hin => ?_)
  obtain ⟨y1, y3, y4, y5, y6, y8, y9, y10, y21, y22, y23, y24⟩ := id rm
  obtain ⟨htx, hT, hat, hpl⟩ := id ds
  have hx : ∀ i, i < tl → tx i < 256 := fun i hi => (htx.2.2 i hi).2
  obtain ⟨⟨t0, t0b⟩, t1, t2, t3, tD, tC, tN⟩ := id ht
  obtain ⟨o5, o4⟩ := id ho
  have may98 : may T 98 = true := by unfold may; simp
  refine g_aload_n (pc := 0) o 0 dX4_readsBeds_0 rfl rfl ?_
  refine g_V0v (pc := 1) o lkRX4_97 cmX4_token (cX4token rm hn htx hpl hat) rfl (by omega) rfl rfl ⟨Nat.le_refl _, Nat.le_refl _⟩ dX4_readsBeds_1 ?_
  show G _ _ _ _ (n, tkM M tl tx p, Rf, Lg) _ _
  refine g_aload_n (pc := 4) o 0 dX4_readsBeds_4 rfl rfl ?_
  refine g_getI (pc := 5) o flRX4_91 rfl (by omega) dX4_readsBeds_5 ?_
  refine g_iconst (pc := 8) (v := 2) o dX4_readsBeds_8 (by decide) ?_
  refine g_icmp_ne (pc := 9) o 52 dX4_readsBeds_9 (by decide) (fun q9 => ?_) (fun q9 => ?_)
  · have g9 : ¬ srt tl tx (p) = 2 := mt (eq_N (a := srt tl tx (p)) (b := 2) (by have := srt_lt tl tx (p); omega) (by decide) rfl rfl).mpr q9
    have e1 := tok2n hx g9 0 (T 0 - 1)
    refine g_iconst (pc := 52) (v := 0) o dX4_readsBeds_52 (by decide) ?_
    exact e_iret (pc := 53) o f dX4_readsBeds_53 rfl (pI.of (by first | exact rd_f may98 (pr_f (m := 1) e1 (by simp [chk])) (frK.tk _ _ _ _) rfl rfl | exact rd_f may98 (by show prN tl tx T 98 2 0 p (fun _ => 0) = _; rw [pr_t (m := 1) e1 (by simp [chk])]; exact pr_f (m := 0) e2 (by simp [chk])) ((frK.tk _ _ _ _).trans (frK.nu _ _ _ _ _)) rfl (nu14 _ _ _ _ _) | exact (by refine rd_t may98 (q := tkE tl tx (tkE tl tx p)) (by show prN tl tx T 98 2 0 p (fun _ => 0) = _; rw [pr_t (m := 1) e1 (by simp [chk]), pr_t (m := 0) e2 (by simp [chk])]; rfl) ((frK.tk _ _ _ _).trans (frK.nu _ _ _ _ _)) rfl ?_; exact ds1.nu (nm_c e2) _)))
  · have g9 : srt tl tx (p) = 2 := (eq_N (a := srt tl tx (p)) (b := 2) (by have := srt_lt tl tx (p); omega) (by decide) rfl rfl).mp q9
    obtain ⟨m9, em9, hm9, hmm9⟩ := tok2 hx g9
    refine g_aload_n (pc := 12) o 0 dX4_readsBeds_12 rfl rfl ?_
    refine g_getI (pc := 13) o flRX4_94 rfl (by omega) dX4_readsBeds_13 ?_
    rw [tk15, em9]
    refine g_iconst (pc := 16) (v := 0) o dX4_readsBeds_16 (by decide) ?_
    refine g_aload_n (pc := 17) o 0 dX4_readsBeds_17 rfl rfl ?_
    refine g_getR (pc := 18) o flRX4_16 rfl (by omega) y4 dX4_readsBeds_18 ?_
    refine g_iconst (pc := 21) (v := 0) o dX4_readsBeds_21 (by decide) ?_
    refine g_iald (pc := 22) o (0) rfl (by omega) rfl (by omega) dX4_readsBeds_22 ?_
    refine g_iconst (pc := 23) (v := 1) o dX4_readsBeds_23 (by decide) ?_
    refine g_isub (pc := 24) o dX4_readsBeds_24 ?_
    rw [ds.tk.2.1 0 (by decide), n_sub1 (by omega)]
    refine g_S3i (pc := 25) o lkRX4_67 cmX4_in (cX4inNN (v := m9) (a := 0) (b := T 0 - 1) (by omega) (by decide) (by omega)) rfl rfl ⟨Nat.le_refl _, Nat.le_refl _⟩ dX4_readsBeds_25 ?_
    refine g_if_eq (pc := 28) o 52 dX4_readsBeds_28 (by decide) (fun q28 => ?_) (fun q28 => ?_)
    · have e1 : nmB tl tx p 0 (T 0 - 1) = false := by have := bi_z.mp q28; rw [hmm9 0 (T 0 - 1) (by omega)] at this; simpa using this
      refine g_iconst (pc := 52) (v := 0) o dX4_readsBeds_52 (by decide) ?_
      exact e_iret (pc := 53) o f dX4_readsBeds_53 rfl (pI.of (by first | exact rd_f may98 (pr_f (m := 1) e1 (by simp [chk])) (frK.tk _ _ _ _) rfl rfl | exact rd_f may98 (by show prN tl tx T 98 2 0 p (fun _ => 0) = _; rw [pr_t (m := 1) e1 (by simp [chk])]; exact pr_f (m := 0) e2 (by simp [chk])) ((frK.tk _ _ _ _).trans (frK.nu _ _ _ _ _)) rfl (nu14 _ _ _ _ _) | exact (by refine rd_t may98 (q := tkE tl tx (tkE tl tx p)) (by show prN tl tx T 98 2 0 p (fun _ => 0) = _; rw [pr_t (m := 1) e1 (by simp [chk]), pr_t (m := 0) e2 (by simp [chk])]; rfl) ((frK.tk _ _ _ _).trans (frK.nu _ _ _ _ _)) rfl ?_; exact ds1.nu (nm_c e2) _)))
    · have e1 : nmB tl tx p 0 (T 0 - 1) = true := (hmm9 0 (T 0 - 1) (by omega)).mp (bi_nz.mp q28)
      have v1 := nm_v hx em9 hm9 e1
      have ds1 := ds.tk
      refine g_aload_n (pc := 31) o 0 dX4_readsBeds_31 rfl rfl ?_
      refine g_bipush (pc := 32) (v := 10) o dX4_readsBeds_32 (by decide) ?_
      refine g_aload_n (pc := 34) o 0 dX4_readsBeds_34 rfl rfl ?_
      refine g_getI (pc := 35) o flRX4_94 rfl (by omega) dX4_readsBeds_35 ?_
      refine g_iadd (pc := 38) o dX4_readsBeds_38 ?_
      rw [tk15, em9, v1.1, show (10 : Int32) + nI (tkV tl tx p) = nI (10 + tkV tl tx p) from nI_addE rfl rfl]
      refine g_iconst (pc := 39) (v := 0) o dX4_readsBeds_39 (by decide) ?_
      refine g_bipush (pc := 40) (v := 6) o dX4_readsBeds_40 (by decide) ?_
      refine g_V3i (pc := 42) o lkRX4_100 cmX4_number (cX4number rm hn ds1 (pl := 10 + tkV tl tx p) (lo := 0) (hi := 6) (by omega) (by decide) (by decide)) rfl (by omega) rfl rfl ⟨Nat.le_refl _, Nat.le_refl _⟩ dX4_readsBeds_42 ?_
      refine g_if_eq (pc := 45) o 52 dX4_readsBeds_45 (by decide) (fun q45 => ?_) (fun q45 => ?_)
      · have e2 : nmB tl tx (tkE tl tx p) 0 6 = false := by have := bi_z.mp q45; simpa using this
        refine g_iconst (pc := 52) (v := 0) o dX4_readsBeds_52 (by decide) ?_
        exact e_iret (pc := 53) o f dX4_readsBeds_53 rfl (pI.of (by first | exact rd_f may98 (pr_f (m := 1) e1 (by simp [chk])) (frK.tk _ _ _ _) rfl rfl | exact rd_f may98 (by show prN tl tx T 98 2 0 p (fun _ => 0) = _; rw [pr_t (m := 1) e1 (by simp [chk])]; exact pr_f (m := 0) e2 (by simp [chk])) ((frK.tk _ _ _ _).trans (frK.nu _ _ _ _ _)) rfl (nu14 _ _ _ _ _) | exact (by refine rd_t may98 (q := tkE tl tx (tkE tl tx p)) (by show prN tl tx T 98 2 0 p (fun _ => 0) = _; rw [pr_t (m := 1) e1 (by simp [chk]), pr_t (m := 0) e2 (by simp [chk])]; rfl) ((frK.tk _ _ _ _).trans (frK.nu _ _ _ _ _)) rfl ?_; exact ds1.nu (nm_c e2) _)))
      · have e2 : nmB tl tx (tkE tl tx p) 0 6 = true := bi_nz.mp q45
        refine g_iconst (pc := 48) (v := 1) o dX4_readsBeds_48 (by decide) ?_
        refine g_goto (pc := 49) o 53 dX4_readsBeds_49 (by decide) ?_
        exact e_iret (pc := 53) o f dX4_readsBeds_53 rfl (pI.of (by first | exact rd_f may98 (pr_f (m := 1) e1 (by simp [chk])) (frK.tk _ _ _ _) rfl rfl | exact rd_f may98 (by show prN tl tx T 98 2 0 p (fun _ => 0) = _; rw [pr_t (m := 1) e1 (by simp [chk])]; exact pr_f (m := 0) e2 (by simp [chk])) ((frK.tk _ _ _ _).trans (frK.nu _ _ _ _ _)) rfl (nu14 _ _ _ _ _) | exact (by refine rd_t may98 (q := tkE tl tx (tkE tl tx p)) (by show prN tl tx T 98 2 0 p (fun _ => 0) = _; rw [pr_t (m := 1) e1 (by simp [chk]), pr_t (m := 0) e2 (by simp [chk])]; rfl) ((frK.tk _ _ _ _).trans (frK.nu _ _ _ _ _)) rfl ?_; exact ds1.nu (nm_c e2) _)))

set_option maxHeartbeats 2000000 in
set_option maxRecDepth 20000 in
theorem cX4rRoad (rm : RM Rf) (hn : 109 ≤ n) {tl : Nat} {tx : Nat → Nat} {T : Nat → Nat} {p : Nat} (ds : DS M tl tx T p) (ht : okT T) (ho : okP T) (h4 : T 4 < 1000) {f0 : Nat} (h14 : M 96 14 = nI f0) : RetE Λ (d + 4) mX4_readsRoad [.ref 96] (n, M, Rf, Lg) (pI n Rf Lg (fun r M' => rdI tl tx T 101 p f0 M r M')) 0 0 := by
  refine RetE.of rfl rfl rfl (fun κ o f hin => ?_)
  obtain ⟨y1, y3, y4, y5, y6, y8, y9, y10, y21, y22, y23, y24⟩ := id rm
  obtain ⟨htx, hT, hat, hpl⟩ := id ds
  have hx : ∀ i, i < tl → tx i < 256 := fun i hi => (htx.2.2 i hi).2
  obtain ⟨⟨t0, t0b⟩, t1, t2, t3, tD, tC, tN⟩ := id ht
  obtain ⟨o5, o4⟩ := id ho
  have may101 : may T 101 = true := by unfold may; simp
  refine g_aload_n (pc := 0) o 0 dX4_readsRoad_0 rfl rfl ?_
  refine g_V0v (pc := 1) o lkRX4_97 cmX4_token (cX4token rm hn htx hpl hat) rfl (by omega) rfl rfl ⟨Nat.le_refl _, Nat.le_refl _⟩ dX4_readsRoad_1 ?_
  show G _ _ _ _ (n, tkM M tl tx p, Rf, Lg) _ _
  refine g_aload_n (pc := 4) o 0 dX4_readsRoad_4 rfl rfl ?_
  refine g_getI (pc := 5) o flRX4_94 rfl (by omega) dX4_readsRoad_5 ?_
  refine g_istore_n (pc := 8) o 1 dX4_readsRoad_8 rfl rfl ?_
  rw [tk15]
  refine g_aload_n (pc := 9) o 0 dX4_readsRoad_9 rfl rfl ?_
  refine g_getI (pc := 10) o flRX4_91 rfl (by omega) dX4_readsRoad_10 ?_
  refine g_iconst (pc := 13) (v := 2) o dX4_readsRoad_13 (by decide) ?_
  refine g_icmp_ne (pc := 14) o 33 dX4_readsRoad_14 (by decide) (fun q14 => ?_) (fun q14 => ?_)
  · have g14 : ¬ srt tl tx (p) = 2 := mt (eq_N (a := srt tl tx (p)) (b := 2) (by have := srt_lt tl tx (p); omega) (by decide) rfl rfl).mpr q14
    have e1 := tok2n hx g14 0 (T 0 - 1)
    refine g_iconst (pc := 33) (v := 0) o dX4_readsRoad_33 (by decide) ?_
    exact e_iret (pc := 34) o f dX4_readsRoad_34 rfl (pI.of (rd_f may101 (pr_f (m := 1) e1 (by simp [chk])) (frK.tk _ _ _ _) rfl rfl))
  · have g14 : srt tl tx (p) = 2 := (eq_N (a := srt tl tx (p)) (b := 2) (by have := srt_lt tl tx (p); omega) (by decide) rfl rfl).mp q14
    obtain ⟨m14, em14, hm14, hmm14⟩ := tok2 hx g14
    rw [em14]
    refine g_iload_n (pc := 17) o 1 dX4_readsRoad_17 rfl rfl ?_
    refine g_iconst (pc := 18) (v := 0) o dX4_readsRoad_18 (by decide) ?_
    refine g_aload_n (pc := 19) o 0 dX4_readsRoad_19 rfl rfl ?_
    refine g_getR (pc := 20) o flRX4_16 rfl (by omega) y4 dX4_readsRoad_20 ?_
    refine g_iconst (pc := 23) (v := 0) o dX4_readsRoad_23 (by decide) ?_
    refine g_iald (pc := 24) o (0) rfl (by omega) rfl (by omega) dX4_readsRoad_24 ?_
    refine g_iconst (pc := 25) (v := 1) o dX4_readsRoad_25 (by decide) ?_
    refine g_isub (pc := 26) o dX4_readsRoad_26 ?_
    rw [ds.tk.2.1 0 (by decide), n_sub1 (by omega)]
    refine g_S3i (pc := 27) o lkRX4_67 cmX4_in (cX4inNN (v := m14) (a := 0) (b := T 0 - 1) (by omega) (by decide) (by omega)) rfl rfl ⟨Nat.le_refl _, Nat.le_refl _⟩ dX4_readsRoad_27 ?_
    refine g_if_ne (pc := 30) o 35 dX4_readsRoad_30 (by decide) (fun q30 => ?_) (fun q30 => ?_)
    · have e1 : nmB tl tx p 0 (T 0 - 1) = true := (hmm14 0 (T 0 - 1) (by omega)).mp (bi_nz.mp q30)
      have v1 := nm_v hx em14 hm14 e1
      have ds1 := ds.tk
      have ds2 := ds1.tk
      rw [v1.1]
      refine g_aload_n (pc := 35) o 0 dX4_readsRoad_35 rfl rfl ?_
      refine g_V0v (pc := 36) o lkRX4_97 cmX4_token (cX4token rm hn ds1.1 ds1.2.2.2 ds1.2.2.1) rfl (by omega) rfl rfl ⟨Nat.le_refl _, Nat.le_refl _⟩ dX4_readsRoad_36 ?_
      show G _ _ _ _ (n, tkM (tkM M tl tx p) tl tx (tkE tl tx p), Rf, Lg) _ _
      refine g_aload_n (pc := 39) o 0 dX4_readsRoad_39 rfl rfl ?_
      refine g_getI (pc := 40) o flRX4_91 rfl (by omega) dX4_readsRoad_40 ?_
      refine g_iconst (pc := 43) (v := 2) o dX4_readsRoad_43 (by decide) ?_
      refine g_icmp_ne (pc := 44) o 74 dX4_readsRoad_44 (by decide) (fun q44 => ?_) (fun q44 => ?_)
      · have g44 : ¬ srt tl tx ((tkE tl tx p)) = 2 := mt (eq_N (a := srt tl tx ((tkE tl tx p))) (b := 2) (by have := srt_lt tl tx ((tkE tl tx p)); omega) (by decide) rfl rfl).mpr q44
        have nc : ¬ (tkC tl tx (tkE tl tx p) = 256 ∧ chk T 101 1 (tkV tl tx p) (tkV tl tx (tkE tl tx p)) = true) := fun q => g44 (mv_eq hx q.1).2.2.2
        refine g_iconst (pc := 74) (v := 0) o dX4_readsRoad_74 (by decide) ?_
        exact e_iret (pc := 75) o f dX4_readsRoad_75 rfl (pI.of (rd_f may101 (by show prN tl tx T 101 2 0 p (fun _ => 0) = _; rw [pr_t (m := 1) e1 (by simp [chk])]; exact if_neg nc) ((frK.tk _ _ _ _).trans (frK.tk _ _ _ _)) rfl rfl))
      · have g44 : srt tl tx ((tkE tl tx p)) = 2 := (eq_N (a := srt tl tx ((tkE tl tx p))) (b := 2) (by have := srt_lt tl tx ((tkE tl tx p)); omega) (by decide) rfl rfl).mp q44
        obtain ⟨m44, em44, hm44, hmm44⟩ := tok2 hx g44
        refine g_aload_n (pc := 47) o 0 dX4_readsRoad_47 rfl rfl ?_
        refine g_getI (pc := 48) o flRX4_94 rfl (by omega) dX4_readsRoad_48 ?_
        rw [tk15, em44]
        refine g_iconst (pc := 51) (v := 0) o dX4_readsRoad_51 (by decide) ?_
        refine g_aload_n (pc := 52) o 0 dX4_readsRoad_52 rfl rfl ?_
        refine g_getR (pc := 53) o flRX4_16 rfl (by omega) y4 dX4_readsRoad_53 ?_
        refine g_iconst (pc := 56) (v := 0) o dX4_readsRoad_56 (by decide) ?_
        refine g_iald (pc := 57) o (0) rfl (by omega) rfl (by omega) dX4_readsRoad_57 ?_
        refine g_iconst (pc := 58) (v := 1) o dX4_readsRoad_58 (by decide) ?_
        refine g_isub (pc := 59) o dX4_readsRoad_59 ?_
        rw [ds2.2.1 0 (by decide), n_sub1 (by omega)]
        refine g_S3i (pc := 60) o lkRX4_67 cmX4_in (cX4inNN (v := m44) (a := 0) (b := T 0 - 1) (by omega) (by decide) (by omega)) rfl rfl ⟨Nat.le_refl _, Nat.le_refl _⟩ dX4_readsRoad_60 ?_
        refine g_if_eq (pc := 63) o 74 dX4_readsRoad_63 (by decide) (fun q63 => ?_) (fun q63 => ?_)
        · have e2 : nmB tl tx (tkE tl tx p) 0 (T 0 - 1) = false := by have := bi_z.mp q63; rw [hmm44 0 (T 0 - 1) (by omega)] at this; simpa using this
          have nc : ¬ (tkC tl tx (tkE tl tx p) = 256 ∧ chk T 101 1 (tkV tl tx p) (tkV tl tx (tkE tl tx p)) = true) := fun q => by have h := q.2; simp [chk] at h; unfold nmB at e2; rw [decide_eq_false_iff_not] at e2; exact e2 ⟨q.1, by omega, h.1⟩
          refine g_iconst (pc := 74) (v := 0) o dX4_readsRoad_74 (by decide) ?_
          exact e_iret (pc := 75) o f dX4_readsRoad_75 rfl (pI.of (rd_f may101 (by show prN tl tx T 101 2 0 p (fun _ => 0) = _; rw [pr_t (m := 1) e1 (by simp [chk])]; exact if_neg nc) ((frK.tk _ _ _ _).trans (frK.tk _ _ _ _)) rfl rfl))
        · have e2 : nmB tl tx (tkE tl tx p) 0 (T 0 - 1) = true := (hmm44 0 (T 0 - 1) (by omega)).mp (bi_nz.mp q63)
          have v2 := nm_v hx em44 hm44 e2
          refine g_aload_n (pc := 66) o 0 dX4_readsRoad_66 rfl rfl ?_
          refine g_getI (pc := 67) o flRX4_94 rfl (by omega) dX4_readsRoad_67 ?_
          rw [tk15, em44, v2.1]
          refine g_iload_n (pc := 70) o 1 dX4_readsRoad_70 rfl rfl ?_
          refine g_icmp_ne (pc := 71) o 76 dX4_readsRoad_71 (by decide) (fun q71 => ?_) (fun q71 => ?_)
          · have g : ¬ tkV tl tx (tkE tl tx p) = tkV tl tx p := fun h => q71 (by rw [h])
            have pc : (tkC tl tx (tkE tl tx p) = 256 ∧ chk T 101 1 (tkV tl tx p) (tkV tl tx (tkE tl tx p)) = true) := ⟨nm_c e2, by simp [chk]; exact ⟨v2.2.2, g⟩⟩
            refine g_aload_n (pc := 76) o 0 dX4_readsRoad_76 rfl rfl ?_
            refine g_getR (pc := 77) o flRX4_16 rfl (by omega) y4 dX4_readsRoad_77 ?_
            refine g_bipush (pc := 80) (v := 6) o dX4_readsRoad_80 (by decide) ?_
            refine g_iload_n (pc := 82) o 1 dX4_readsRoad_82 rfl rfl ?_
            refine g_iadd (pc := 83) o dX4_readsRoad_83 ?_
            refine g_dup2 (pc := 84) o dX4_readsRoad_84 rfl rfl ?_
            refine g_iald (pc := 85) o (6 + tkV tl tx p) rfl (by omega) (nI_addE rfl rfl) (by omega) dX4_readsRoad_85 ?_
            refine g_iconst (pc := 86) (v := 1) o dX4_readsRoad_86 (by decide) ?_
            refine g_aload_n (pc := 87) o 0 dX4_readsRoad_87 rfl rfl ?_
            refine g_getI (pc := 88) o flRX4_94 rfl (by omega) dX4_readsRoad_88 ?_
            rw [tk15, em44, v2.1, ds2.2.1 (6 + tkV tl tx p) (by omega)]
            refine g_ishl (pc := 91) o dX4_readsRoad_91 ?_
            rw [n_one (by omega)]
            refine g_ior (pc := 92) o dX4_readsRoad_92 ?_
            rw [n_or]
            have dsA := ds2.st (6 + tkV tl tx p) (T (6 + tkV tl tx p) ||| 2 ^ tkV tl tx (tkE tl tx p))
            refine g_iast (pc := 93) o (6 + tkV tl tx p) rfl (by omega) (nI_addE rfl rfl) (by omega) dX4_readsRoad_93 ?_
            refine g_aload_n (pc := 94) o 0 dX4_readsRoad_94 rfl rfl ?_
            refine g_getR (pc := 95) o flRX4_16 rfl (by omega) y4 dX4_readsRoad_95 ?_
            refine g_bipush (pc := 98) (v := 6) o dX4_readsRoad_98 (by decide) ?_
            refine g_aload_n (pc := 100) o 0 dX4_readsRoad_100 rfl rfl ?_
            refine g_getI (pc := 101) o flRX4_94 rfl (by omega) dX4_readsRoad_101 ?_
            rw [show st2 (tkM (tkM M tl tx p) tl tx (tkE tl tx p)) 99 (6 + tkV tl tx p) (nI (T (6 + tkV tl tx p) ||| 2 ^ tkV tl tx (tkE tl tx p))) 96 15 = nI (tkV tl tx (tkE tl tx p)) from by rw [st2_ne _ _ _ (by decide), tk15, em44, v2.1]]
            refine g_iadd (pc := 104) o dX4_readsRoad_104 ?_
            refine g_dup2 (pc := 105) o dX4_readsRoad_105 rfl rfl ?_
            refine g_iald (pc := 106) o (6 + tkV tl tx (tkE tl tx p)) rfl (by omega) (nI_addE rfl rfl) (by omega) dX4_readsRoad_106 ?_
            rw [dsA.2.1 (6 + tkV tl tx (tkE tl tx p)) (by omega)]
            refine g_iconst (pc := 107) (v := 1) o dX4_readsRoad_107 (by decide) ?_
            refine g_iload_n (pc := 108) o 1 dX4_readsRoad_108 rfl rfl ?_
            refine g_ishl (pc := 109) o dX4_readsRoad_109 ?_
            rw [n_one (by omega)]
            refine g_ior (pc := 110) o dX4_readsRoad_110 ?_
            rw [n_or]
            have dsB := dsA.st (6 + tkV tl tx (tkE tl tx p)) (upN T (6 + tkV tl tx p) (T (6 + tkV tl tx p) ||| 2 ^ tkV tl tx (tkE tl tx p)) (6 + tkV tl tx (tkE tl tx p)) ||| 2 ^ tkV tl tx p)
            refine g_iast (pc := 111) o (6 + tkV tl tx (tkE tl tx p)) rfl (by omega) (nI_addE rfl rfl) (by omega) dX4_readsRoad_111 ?_
            refine g_iconst (pc := 112) (v := 1) o dX4_readsRoad_112 (by decide) ?_
            exact e_iret (pc := 113) o f dX4_readsRoad_113 rfl (pI.of (by refine rd_t may101 (q := tkE tl tx (tkE tl tx p)) (acc := upN (upN (fun _ => 0) 0 (tkV tl tx p)) 1 (tkV tl tx (tkE tl tx p))) (by show prN tl tx T 101 2 0 p (fun _ => 0) = _; rw [pr_t (m := 1) e1 (by simp [chk])]; exact if_pos pc) (((frK.tk _ _ _ _).trans (frK.tk _ _ _ _)).trans ((frK.st _ _ _).trans (frK.st _ _ _))) rfl ?_; exact dsB))
          · have g : tkV tl tx (tkE tl tx p) = tkV tl tx p := (nI_eq (by omega) (by omega)).mp q71
            have nc : ¬ (tkC tl tx (tkE tl tx p) = 256 ∧ chk T 101 1 (tkV tl tx p) (tkV tl tx (tkE tl tx p)) = true) := fun q => by have h := q.2; simp [chk] at h; exact h.2 g
            refine g_iconst (pc := 74) (v := 0) o dX4_readsRoad_74 (by decide) ?_
            exact e_iret (pc := 75) o f dX4_readsRoad_75 rfl (pI.of (rd_f may101 (by show prN tl tx T 101 2 0 p (fun _ => 0) = _; rw [pr_t (m := 1) e1 (by simp [chk])]; exact if_neg nc) ((frK.tk _ _ _ _).trans (frK.tk _ _ _ _)) rfl rfl))
    · have e1 : nmB tl tx p 0 (T 0 - 1) = false := by have := bi_z.mp q30; rw [hmm14 0 (T 0 - 1) (by omega)] at this; simpa using this
      refine g_iconst (pc := 33) (v := 0) o dX4_readsRoad_33 (by decide) ?_
      exact e_iret (pc := 34) o f dX4_readsRoad_34 rfl (pI.of (rd_f may101 (pr_f (m := 1) e1 (by simp [chk])) (frK.tk _ _ _ _) rfl rfl))

theorem srt_0 {tl : Nat} {tx : Nat → Nat} {p : Nat} (hx : ∀ i, i < tl → tx i < 256) : srt tl tx p = 0 ↔ tkC tl tx p = 258 := by
  unfold srt tkC
  by_cases q : tl ≤ tkS tl tx p
  · rw [if_pos q, if_pos q]; simp
  · rw [if_neg q, if_neg q]
    have h1 := hx (tkS tl tx p) (by omega)
    constructor
    · intro h; exfalso; revert h; unfold srN; split
      · decide
      · split
        · decide
        · split <;> decide
    · intro h; exfalso; revert h; split
      · split <;> decide
      · omega
theorem srt_3 {tl : Nat} {tx : Nat → Nat} {p : Nat} : srt tl tx p = 3 ↔ tkC tl tx p = 59 := by
  unfold srt tkC
  by_cases q : tl ≤ tkS tl tx p
  · rw [if_pos q, if_pos q]; simp
  · rw [if_neg q, if_neg q]
    generalize tx (tkS tl tx p) = y
    unfold srN
    by_cases i : isIt y = true
    · rw [if_pos i]
      have : isDg y = false := by unfold isIt at i; unfold isDg; simp at i ⊢; omega
      rw [this]
      unfold isIt at i
      simp at i ⊢
      omega
    · rw [if_neg i]
      by_cases g : isDg y = true
      · rw [if_pos g, if_pos g]
        constructor
        · intro h; cases h
        · intro h; revert h; split <;> decide
      · rw [if_neg g, if_neg g]
        by_cases e : y = 59
        · rw [if_pos e]; simp [e]
        · rw [if_neg e]; simp [e]
theorem srt_1 {tl : Nat} {tx : Nat → Nat} {p : Nat} : srt tl tx p = 1 → mvI tl tx p = nI (tkC tl tx p) ∧ isIt (tkC tl tx p) = true := by
  unfold srt tkC mvI
  by_cases q : tl ≤ tkS tl tx p
  · rw [if_pos q]; intro h; cases h
  · rw [if_neg q, if_neg q, if_neg q]
    generalize tx (tkS tl tx p) = y
    unfold srN
    by_cases i : isIt y = true
    · intro _
      have : isDg y = false := by unfold isIt at i; unfold isDg; simp at i ⊢; omega
      rw [this]
      exact ⟨rfl, i⟩
    · rw [if_neg i]
      intro h; exfalso; revert h; split
      · decide
      · split <;> decide
theorem srt_n1 {tl : Nat} {tx T : Nat → Nat} {p : Nat} (h : ¬ srt tl tx p = 1) : ¬ may T (tkC tl tx p) = true := by
  intro hm
  apply h
  have hL := may_L hm
  unfold srt
  unfold tkC at hL
  by_cases q : tl ≤ tkS tl tx p
  · rw [if_pos q] at hL; omega
  · rw [if_neg q] at hL ⊢
    by_cases g : isDg (tx (tkS tl tx p)) = true
    · exfalso; rw [if_pos g] at hL; revert hL; split <;> decide
    · rw [if_neg g] at hL
      unfold srN
      rw [if_pos (by unfold isIt; simp; omega)]
theorem rd_nar {tl : Nat} {tx T : Nat → Nat} {L p f0 : Nat} {M M' : HM} {r : Int32} (h : rdI tl tx T L p f0 M r M') : narrow .boolean (.int r) = .int r := by
  have h2 : r = 0 ∨ r = 1 := by
    have := h.2
    split at this
    · split at this
      · exact Or.inl this.1
      · exact Or.inr this.1
    · exact Or.inl this.1
  rcases h2 with rfl | rfl <;> rfl
set_option maxHeartbeats 2000000 in
set_option maxRecDepth 20000 in
theorem cX4rItem (rm : RM Rf) (hn : 109 ≤ n) {tl : Nat} {tx : Nat → Nat} {T : Nat → Nat} {p1 : Nat} (ds : DS M tl tx T (tkE tl tx p1)) (ht : okT T) (ho : okP T) (h4 : T 4 < 1000) (h13 : M 96 13 = nI (srt tl tx p1)) (h14 : M 96 14 = nI (tkS tl tx p1)) (h15 : M 96 15 = mvI tl tx p1) : RetE Λ (d + 5) mX4_readsItem [.ref 96] (n, M, Rf, Lg) (pI n Rf Lg (fun r M' => rdI tl tx T (tkC tl tx p1) (tkE tl tx p1) (tkS tl tx p1) M r M')) 0 0 := by
  refine RetE.of rfl rfl rfl (fun κ o f hin => ?_)
  obtain ⟨y1, y3, y4, y5, y6, y8, y9, y10, y21, y22, y23, y24⟩ := id rm
  refine g_aload_n (pc := 0) o 0 dX4_readsItem_0 rfl rfl ?_
  refine g_getI (pc := 1) o flRX4_91 rfl (by omega) dX4_readsItem_1 ?_
  refine g_iconst (pc := 4) (v := 1) o dX4_readsItem_4 (by decide) ?_
  refine g_icmp_ne (pc := 5) o 15 dX4_readsItem_5 (by decide) (fun q5 => ?_) (fun q5 => ?_)
  · have g5 : ¬ srt tl tx p1 = 1 := mt (eq_N (a := srt tl tx p1) (b := 1) (by have := srt_lt tl tx p1; omega) (by decide) h13 rfl).mpr q5
    refine g_iconst (pc := 15) (v := 0) o dX4_readsItem_15 (by decide) ?_
    refine g_istore_n (pc := 16) o 1 dX4_readsItem_16 rfl rfl ?_
    refine g_iload_n (pc := 17) o 1 dX4_readsItem_17 rfl rfl ?_
    refine g_tabO (pc := 18) o 126 dX4_readsItem_18 (by decide) (by decide) ?_
    refine g_iconst (pc := 126) (v := 0) o dX4_readsItem_126 (by decide) ?_
    exact e_iret (pc := 127) o f dX4_readsItem_127 rfl (pI.of (rd_no (srt_n1 g5) (frK.refl _) rfl h14))
  · have g5 : srt tl tx p1 = 1 := (eq_N (a := srt tl tx p1) (b := 1) (by have := srt_lt tl tx p1; omega) (by decide) h13 rfl).mp q5
    refine g_aload_n (pc := 8) o 0 dX4_readsItem_8 rfl rfl ?_
    refine g_getI (pc := 9) o flRX4_94 rfl (by omega) dX4_readsItem_9 ?_
    refine g_goto (pc := 12) o 16 dX4_readsItem_12 (by decide) ?_
    refine g_istore_n (pc := 16) o 1 dX4_readsItem_16 rfl rfl ?_
    refine g_iload_n (pc := 17) o 1 dX4_readsItem_17 rfl rfl ?_
    rw [h15]
    have hit := srt_1 g5
    have hL := hit.2
    unfold isIt at hL
    rw [decide_eq_true_iff] at hL
    rw [hit.1]
    rcases hL with hL | hL | hL | hL | hL | hL
    · rw [hL]
      refine g_tabI (pc := 18) o 96 dX4_readsItem_18 (by decide) (by decide) rfl (by decide) ?_
      refine g_aload_n (pc := 96) o 0 dX4_readsItem_96 rfl rfl ?_
      refine e_V0i (pc := 97) o lkRX4_103 cmX4_readsDistricts (cX4rDistricts rm hn ds ht ho h4 h14) rfl (by omega) rfl rfl ⟨Nat.le_refl _, Nat.le_refl _⟩ dX4_readsItem_97 (fun r M2 hp => ?_)
      exact e_iret (pc := 100) o f dX4_readsItem_100 (rd_nar hp) (pI.of (by rw [hL]; exact hp))
    · rw [hL]
      refine g_tabI (pc := 18) o 101 dX4_readsItem_18 (by decide) (by decide) rfl (by decide) ?_
      refine g_aload_n (pc := 101) o 0 dX4_readsItem_101 rfl rfl ?_
      refine e_V0i (pc := 102) o lkRX4_106 cmX4_readsQuota (cX4rQuota rm hn ds ht ho h4 h14) rfl (by omega) rfl rfl ⟨Nat.le_refl _, Nat.le_refl _⟩ dX4_readsItem_102 (fun r M2 hp => ?_)
      exact e_iret (pc := 105) o f dX4_readsItem_105 (rd_nar hp) (pI.of (by rw [hL]; exact hp))
    · rw [hL]
      refine g_tabI (pc := 18) o 106 dX4_readsItem_18 (by decide) (by decide) rfl (by decide) ?_
      refine g_aload_n (pc := 106) o 0 dX4_readsItem_106 rfl rfl ?_
      refine e_V0i (pc := 107) o lkRX4_109 cmX4_readsRoad (cX4rRoad rm hn ds ht ho h4 h14) rfl (by omega) rfl rfl ⟨Nat.le_refl _, Nat.le_refl _⟩ dX4_readsItem_107 (fun r M2 hp => ?_)
      exact e_iret (pc := 110) o f dX4_readsItem_110 (rd_nar hp) (pI.of (by rw [hL]; exact hp))
    · rw [hL]
      refine g_tabI (pc := 18) o 111 dX4_readsItem_18 (by decide) (by decide) rfl (by decide) ?_
      refine g_aload_n (pc := 111) o 0 dX4_readsItem_111 rfl rfl ?_
      refine e_V0i (pc := 112) o lkRX4_112 cmX4_readsBeds (cX4rBeds rm hn ds ht ho h4 h14) rfl (by omega) rfl rfl ⟨Nat.le_refl _, Nat.le_refl _⟩ dX4_readsItem_112 (fun r M2 hp => ?_)
      exact e_iret (pc := 115) o f dX4_readsItem_115 (rd_nar hp) (pI.of (by rw [hL]; exact hp))
    · rw [hL]
      refine g_tabI (pc := 18) o 116 dX4_readsItem_18 (by decide) (by decide) rfl (by decide) ?_
      refine g_aload_n (pc := 116) o 0 dX4_readsItem_116 rfl rfl ?_
      refine e_V0i (pc := 117) o lkRX4_115 cmX4_readsCitizen (cX4rCitizen rm hn ds ht ho h4 h14) rfl (by omega) rfl rfl ⟨Nat.le_refl _, Nat.le_refl _⟩ dX4_readsItem_117 (fun r M2 hp => ?_)
      exact e_iret (pc := 120) o f dX4_readsItem_120 (rd_nar hp) (pI.of (by rw [hL]; exact hp))
    · rw [hL]
      refine g_tabI (pc := 18) o 121 dX4_readsItem_18 (by decide) (by decide) rfl (by decide) ?_
      refine g_aload_n (pc := 121) o 0 dX4_readsItem_121 rfl rfl ?_
      refine e_V0i (pc := 122) o lkRX4_118 cmX4_readsNoise (cX4rNoise rm hn ds ht ho h4 h14) rfl (by omega) rfl rfl ⟨Nat.le_refl _, Nat.le_refl _⟩ dX4_readsItem_122 (fun r M2 hp => ?_)
      exact e_iret (pc := 125) o f dX4_readsItem_125 (rd_nar hp) (pI.of (by rw [hL]; exact hp))

end M30
