section M29
variable {Λ : PL} {d n : Nat} {M : HM} {Rf : HR} {Lg : HL}

def tkM (M : HM) (tl : Nat) (tx : Nat → Nat) (p : Nat) : HM := tokM M (nI (tkE tl tx p)) (nI (srt tl tx p)) (nI (tkS tl tx p)) (mvI tl tx p)
def nuM (M : HM) (tl : Nat) (tx : Nat → Nat) (p pl : Nat) : HM := st2 (tkM M tl tx p) 99 pl (mvI tl tx p)
/-- nothing but the draft and the reading's place has changed -/
def frK (M M' : HM) : Prop := (∀ z, z ≠ 96 → z ≠ 99 → M' z = M z) ∧ ∀ j, j < 12 ∨ 15 < j → M' 96 j = M 96 j
theorem frK.refl (M : HM) : frK M M := ⟨fun _ _ _ => rfl, fun _ _ => rfl⟩
theorem frK.trans {A B C : HM} (h : frK A B) (g : frK B C) : frK A C := ⟨fun z a b => (g.1 z a b).trans (h.1 z a b), fun j a => (g.2 j a).trans (h.2 j a)⟩
theorem frK.tk (M : HM) (tl : Nat) (tx : Nat → Nat) (p : Nat) : frK M (tkM M tl tx p) := ⟨fun z a _ => tokM_ne _ _ _ _ _ a, fun j a => tokM_f _ _ _ _ _ a⟩
theorem frK.st (M : HM) (k : Nat) (v : Int32) : frK M (st2 M 99 k v) := ⟨fun z _ b => st2_ne _ _ _ b, fun j _ => by rw [st2_ne _ _ _ (by decide)]⟩
theorem frK.nu (M : HM) (tl : Nat) (tx : Nat → Nat) (p pl : Nat) : frK M (nuM M tl tx p pl) := (frK.tk M tl tx p).trans (frK.st _ _ _)
/-- the text, the draft, where the reading is -/
def DS (M : HM) (tl : Nat) (tx T : Nat → Nat) (p : Nat) : Prop := txN M tl tx ∧ mR M 99 56 T ∧ M 96 12 = nI p ∧ p ≤ tl
theorem txN.fr {M M' : HM} {tl : Nat} {tx : Nat → Nat} (h : txN M tl tx) (f : frK M M') : txN M' tl tx := ⟨h.1, by rw [f.2 2 (by decide)]; exact h.2.1, fun i hi => by rw [f.1 97 (by decide) (by decide)]; exact h.2.2 i hi⟩
theorem DS.tk {tl : Nat} {tx T : Nat → Nat} {p : Nat} (h : DS M tl tx T p) : DS (tkM M tl tx p) tl tx T (tkE tl tx p) := ⟨h.1.fr (frK.tk _ _ _ _), h.2.1.kept (tokM_ne _ _ _ _ _ (by decide)), rfl, tkE_le tx h.2.2.2⟩
theorem mR_up {M : HM} {a N : Nat} {f : Nat → Nat} (h : mR M a N f) (k v : Nat) : mR (st2 M a k (nI v)) a N (upN f k v) := by
  intro j hj
  by_cases e : j = k
  · subst e; rw [st2_same, upN_s]
  · rw [st2_ne2 _ _ (fun q => e q.2), upN_n _ _ e]; exact h j hj
theorem DS.st {tl : Nat} {tx T : Nat → Nat} {p : Nat} (h : DS M tl tx T p) (k v : Nat) : DS (st2 M 99 k (nI v)) tl tx (upN T k v) p := ⟨h.1.fr (frK.st _ _ _), mR_up h.2.1 k v, by rw [st2_ne _ _ _ (by decide)]; exact h.2.2.1, h.2.2.2⟩
theorem DS.nu {tl : Nat} {tx T : Nat → Nat} {p : Nat} (h : DS M tl tx T p) (hc : tkC tl tx p = 256) (pl : Nat) : DS (nuM M tl tx p pl) tl tx (upN T pl (tkV tl tx p)) (tkE tl tx p) := by
  unfold nuM
  rw [(mv_eq (fun i hi => (h.1.2.2 i hi).2) hc).2.2.1]
  exact h.tk.st pl _
theorem nu14 (M : HM) (tl : Nat) (tx : Nat → Nat) (p pl : Nat) : nuM M tl tx p pl 96 14 = nI (tkS tl tx p) := by unfold nuM; rw [st2_ne _ _ _ (by decide)]; rfl
theorem tok2 {tl : Nat} {tx : Nat → Nat} {p : Nat} (hx : ∀ i, i < tl → tx i < 256) (h : srt tl tx p = 2) : ∃ m, mvI tl tx p = nI m ∧ m < 3000 ∧ ∀ lo hi, hi ≤ 255 → ((lo ≤ m ∧ m ≤ hi) ↔ nmB tl tx p lo hi = true) := by
  have hs : tkS tl tx p < tl := by
    by_cases q : tkS tl tx p < tl
    · exact q
    · unfold srt at h; rw [if_pos (by omega)] at h; cases h
  have hd : isDg (tx (tkS tl tx p)) = true := by
    unfold srt srN at h
    rw [if_neg (by omega)] at h
    cases q : isDg (tx (tkS tl tx p)) with
    | true => rfl
    | false =>
      rw [q] at h
      exfalso
      revert h
      split
      · decide
      · rw [if_neg (by decide)]; split <;> decide
  have hg : dge tl tx (tkS tl tx p) ≤ tl := run_le _ (by omega)
  have hg2 : tkS tl tx p < dge tl tx (tkS tl tx p) := by
    unfold dge
    rw [run_go hs hd]
    exact Nat.lt_of_lt_of_le (Nat.lt_succ_self _) (run_ge _ _ _)
  refine ⟨_, by unfold mvI; rw [if_neg (by omega), if_pos hd], mvl_lt hx _ (by omega), fun lo hi h2 => ?_⟩
  rw [mv_ok h2 hx hs hd]
  unfold nmB
  rw [decide_eq_true_iff]
theorem tok2n {tl : Nat} {tx : Nat → Nat} {p : Nat} (hx : ∀ i, i < tl → tx i < 256) (h : ¬ srt tl tx p = 2) (lo hi : Nat) : nmB tl tx p lo hi = false := by
  unfold nmB
  rw [decide_eq_false_iff_not]
  intro q
  exact h (mv_eq hx q.1).2.2.2
theorem srt_lt (tl : Nat) (tx : Nat → Nat) (p : Nat) : srt tl tx p < 5 := by
  unfold srt srN
  split
  · decide
  · split
    · decide
    · split
      · decide
      · split <;> decide
theorem nm_c {tl : Nat} {tx : Nat → Nat} {p lo hi : Nat} (h : nmB tl tx p lo hi = true) : tkC tl tx p = 256 := by unfold nmB at h; rw [decide_eq_true_iff] at h; exact h.1
theorem pr_t {tl : Nat} {tx T : Nat → Nat} {L m k p : Nat} {acc : Nat → Nat} {lo hi : Nat} (h : nmB tl tx p lo hi = true) (hc : chk T L k (acc 0) (tkV tl tx p) = decide (lo ≤ tkV tl tx p ∧ tkV tl tx p ≤ hi)) : prN tl tx T L (m + 1) k p acc = prN tl tx T L m (k + 1) (tkE tl tx p) (upN acc k (tkV tl tx p)) := by
  unfold nmB at h
  rw [decide_eq_true_iff] at h
  show (if _ then _ else _) = _
  rw [if_pos ⟨h.1, by rw [hc, decide_eq_true_iff]; exact h.2⟩]
theorem pr_f {tl : Nat} {tx T : Nat → Nat} {L m k p : Nat} {acc : Nat → Nat} {lo hi : Nat} (h : nmB tl tx p lo hi = false) (hc : chk T L k (acc 0) (tkV tl tx p) = decide (lo ≤ tkV tl tx p ∧ tkV tl tx p ≤ hi)) : prN tl tx T L (m + 1) k p acc = .inl (tkS tl tx p) := by
  unfold nmB at h
  rw [decide_eq_false_iff_not] at h
  show (if _ then _ else _) = _
  rw [if_neg (fun q => h ⟨q.1, by have := q.2; rw [hc, decide_eq_true_iff] at this; exact this⟩)]
/-- what an item's reading comes to -/
def rdI (tl : Nat) (tx : Nat → Nat) (T : Nat → Nat) (L p f0 : Nat) (M : HM) (r : Int32) (M' : HM) : Prop := frK M M' ∧ (if may T L = true then (match prN tl tx T L (hmN L) 0 p (fun _ => 0) with
    | .inl f => r = 0 ∧ M' 96 14 = nI f
    | .inr (acc, q) => r = 1 ∧ DS M' tl tx (telB T L (acc 0) (acc 1) (acc 2) (acc 3)) q) else r = 0 ∧ M' 96 14 = nI f0)
theorem rd_no {tl : Nat} {tx T : Nat → Nat} {L p f0 : Nat} {M M' : HM} {r : Int32} (h : ¬ may T L = true) (a : frK M M') (b : r = 0) (c : M' 96 14 = nI f0) : rdI tl tx T L p f0 M r M' := ⟨a, by rw [if_neg h]; exact ⟨b, c⟩⟩
theorem rd_f {tl : Nat} {tx T : Nat → Nat} {L p f0 f : Nat} {M M' : HM} {r : Int32} (h : may T L = true) (e : prN tl tx T L (hmN L) 0 p (fun _ => 0) = .inl f) (a : frK M M') (b : r = 0) (c : M' 96 14 = nI f) : rdI tl tx T L p f0 M r M' := ⟨a, by rw [if_pos h, e]; exact ⟨b, c⟩⟩
theorem rd_t {tl : Nat} {tx T : Nat → Nat} {L p f0 q : Nat} {acc : Nat → Nat} {M M' : HM} {r : Int32} (h : may T L = true) (e : prN tl tx T L (hmN L) 0 p (fun _ => 0) = .inr (acc, q)) (a : frK M M') (b : r = 1) (c : DS M' tl tx (telB T L (acc 0) (acc 1) (acc 2) (acc 3)) q) : rdI tl tx T L p f0 M r M' := ⟨a, by rw [if_pos h, e]; exact ⟨b, c⟩⟩

set_option maxHeartbeats 2000000 in
set_option maxRecDepth 20000 in
theorem cX4number (rm : RM Rf) (hn : 109 ≤ n) {tl : Nat} {tx : Nat → Nat} {T : Nat → Nat} {p : Nat} (ds : DS M tl tx T p) {pl lo hi : Nat} (hp56 : pl < 56) (hlo : lo < 1000) (hhi : hi ≤ 255) : Ret Λ (d + 3) mX4_number [.ref 96, .int (nI pl), .int (nI lo), .int (nI hi)] (n, M, Rf, Lg) (some (.int (bi (nmB tl tx p lo hi = true)))) (n, nuM M tl tx p pl, Rf, Lg) 0 0 := by
  refine Ret.of rfl rfl rfl (fun κ o f hin => ?_)
  obtain ⟨y1, y3, y4, y5, y6, y8, y9, y10, y21, y22, y23, y24⟩ := id rm
  obtain ⟨htx, hT, hat, hpl⟩ := id ds
  have hx : ∀ i, i < tl → tx i < 256 := fun i hi => (htx.2.2 i hi).2
  refine g_aload_n (pc := 0) o 0 dX4_number_0 rfl rfl ?_
  refine g_V0v (pc := 1) o lkRX4_97 cmX4_token (cX4token rm hn htx hpl hat) rfl (by omega) rfl rfl ⟨Nat.le_refl _, Nat.le_refl _⟩ dX4_number_1 ?_
  refine g_aload_n (pc := 4) o 0 dX4_number_4 rfl rfl ?_
  refine g_getR (pc := 5) o flRX4_16 rfl (by omega) y4 dX4_number_5 ?_
  refine g_iload_n (pc := 8) o 1 dX4_number_8 rfl rfl ?_
  refine g_aload_n (pc := 9) o 0 dX4_number_9 rfl rfl ?_
  refine g_getI (pc := 10) o flRX4_94 rfl (by omega) dX4_number_10 ?_
  refine g_iast (pc := 13) o (pl) rfl (by omega) rfl (by omega) dX4_number_13 ?_
  refine g_aload_n (pc := 14) o 0 dX4_number_14 rfl rfl ?_
  refine g_getI (pc := 15) o flRX4_91 rfl (by omega) dX4_number_15 ?_
  refine g_iconst (pc := 18) (v := 2) o dX4_number_18 (by decide) ?_
  refine g_icmp_ne (pc := 19) o 38 dX4_number_19 (by decide) (fun q19 => ?_) (fun q19 => ?_)
  · have g : ¬ srt tl tx p = 2 := mt (eq_N (a := srt tl tx p) (b := 2) (by have := srt_lt tl tx p; omega) (by decide) (by rw [st2_ne _ _ _ (by decide)]; rfl) rfl).mpr q19
    have e1 := tok2n hx g lo hi
    refine g_iconst (pc := 38) (v := 0) o dX4_number_38 (by decide) ?_
    exact g_iret (pc := 39) o f dX4_number_39 rfl (by rw [bi_cong (q := nmB tl tx p lo hi = true) Iff.rfl]; first | exact (bi_t e1).symm | exact (bi_f (by rw [e1]; decide)).symm) rfl
  · have g : srt tl tx p = 2 := (eq_N (a := srt tl tx p) (b := 2) (by have := srt_lt tl tx p; omega) (by decide) (by rw [st2_ne _ _ _ (by decide)]; rfl) rfl).mp q19
    obtain ⟨m, em, hm, hmm⟩ := tok2 hx g
    refine g_aload_n (pc := 22) o 0 dX4_number_22 rfl rfl ?_
    refine g_getI (pc := 23) o flRX4_94 rfl (by omega) dX4_number_23 ?_
    rw [show st2 (tokM M (nI (tkE tl tx p)) (nI (srt tl tx p)) (nI (tkS tl tx p)) (mvI tl tx p)) 99 pl (tokM M (nI (tkE tl tx p)) (nI (srt tl tx p)) (nI (tkS tl tx p)) (mvI tl tx p) 96 15) 96 15 = nI m from by rw [st2_ne _ _ _ (by decide)]; exact em]
    refine g_iload_n (pc := 26) o 2 dX4_number_26 rfl rfl ?_
    refine g_iload_n (pc := 27) o 3 dX4_number_27 rfl rfl ?_
    refine g_S3i (pc := 28) o lkRX4_67 cmX4_in (cX4inNN (v := m) (by omega) (by omega) (by omega)) rfl rfl ⟨Nat.le_refl _, Nat.le_refl _⟩ dX4_number_28 ?_
    refine g_if_eq (pc := 31) o 38 dX4_number_31 (by decide) (fun q31 => ?_) (fun q31 => ?_)
    · have e1 : nmB tl tx p lo hi = false := by have := bi_z.mp q31; rw [hmm lo hi hhi] at this; simpa using this
      refine g_iconst (pc := 38) (v := 0) o dX4_number_38 (by decide) ?_
      exact g_iret (pc := 39) o f dX4_number_39 rfl (by rw [bi_cong (q := nmB tl tx p lo hi = true) Iff.rfl]; first | exact (bi_t e1).symm | exact (bi_f (by rw [e1]; decide)).symm) rfl
    · have e1 : nmB tl tx p lo hi = true := (hmm lo hi hhi).mp (bi_nz.mp q31)
      refine g_iconst (pc := 34) (v := 1) o dX4_number_34 (by decide) ?_
      refine g_goto (pc := 35) o 39 dX4_number_35 (by decide) ?_
      exact g_iret (pc := 39) o f dX4_number_39 rfl (by rw [bi_cong (q := nmB tl tx p lo hi = true) Iff.rfl]; first | exact (bi_t e1).symm | exact (bi_f (by rw [e1]; decide)).symm) rfl

set_option maxHeartbeats 2000000 in
set_option maxRecDepth 20000 in
theorem cX4rDistricts (rm : RM Rf) (hn : 109 ≤ n) {tl : Nat} {tx : Nat → Nat} {T : Nat → Nat} {p : Nat} (ds : DS M tl tx T p) (ht : okT T) (ho : okP T) (h4 : T 4 < 1000) {f0 : Nat} (h14 : M 96 14 = nI f0) : RetE Λ (d + 4) mX4_readsDistricts [.ref 96] (n, M, Rf, Lg) (pI n Rf Lg (fun r M' => rdI tl tx T 100 p f0 M r M')) 0 0 := by
  refine RetE.of rfl rfl rfl (fun κ o f hin => ?_)
  obtain ⟨y1, y3, y4, y5, y6, y8, y9, y10, y21, y22, y23, y24⟩ := id rm
  obtain ⟨htx, hT, hat, hpl⟩ := id ds
  have hx : ∀ i, i < tl → tx i < 256 := fun i hi => (htx.2.2 i hi).2
  obtain ⟨⟨t0, t0b⟩, t1, t2, t3, tD, tC, tN⟩ := id ht
  obtain ⟨o5, o4⟩ := id ho
  refine g_aload_n (pc := 0) o 0 dX4_readsDistricts_0 rfl rfl ?_
  refine g_getR (pc := 1) o flRX4_16 rfl (by omega) y4 dX4_readsDistricts_1 ?_
  refine g_iconst (pc := 4) (v := 4) o dX4_readsDistricts_4 (by decide) ?_
  refine g_iald (pc := 5) o (4) rfl (by omega) rfl (by omega) dX4_readsDistricts_5 ?_
  refine g_if_gt (pc := 6) o 19 dX4_readsDistricts_6 (by decide) (fun q6 => ?_) (fun q6 => ?_)
  · have g : ¬ T 4 = 0 := by have := (lt_N (a := 0) (b := T 4) (by decide) (by omega) rfl (hT 4 (by decide))).mp q6; omega
    refine g_iconst (pc := 19) (v := 0) o dX4_readsDistricts_19 (by decide) ?_
    exact e_iret (pc := 20) o f dX4_readsDistricts_20 rfl (pI.of (by first | exact rd_no (by unfold may; simp [g]) (frK.refl _) rfl h14 | exact rd_f hmay (pr_f (m := 0) e1 (by simp [chk])) (frK.nu _ _ _ _ _) rfl (nu14 _ _ _ _ _)))
  · have g : T 4 = 0 := by have := mt (lt_N (a := 0) (b := T 4) (by decide) (by omega) rfl (hT 4 (by decide))).mpr q6; omega
    have hmay : may T 100 = true := by unfold may; simp [g]
    refine g_aload_n (pc := 9) o 0 dX4_readsDistricts_9 rfl rfl ?_
    refine g_iconst (pc := 10) (v := 0) o dX4_readsDistricts_10 (by decide) ?_
    refine g_iconst (pc := 11) (v := 1) o dX4_readsDistricts_11 (by decide) ?_
    refine g_iconst (pc := 12) (v := 4) o dX4_readsDistricts_12 (by decide) ?_
    refine g_V3i (pc := 13) o lkRX4_100 cmX4_number (cX4number rm hn ds (pl := 0) (lo := 1) (hi := 4) (by decide) (by decide) (by decide)) rfl (by omega) rfl rfl ⟨Nat.le_refl _, Nat.le_refl _⟩ dX4_readsDistricts_13 ?_
    refine g_if_ne (pc := 16) o 21 dX4_readsDistricts_16 (by decide) (fun q16 => ?_) (fun q16 => ?_)
    · have e1 := bi_nz.mp q16
      refine g_iconst (pc := 21) (v := 1) o dX4_readsDistricts_21 (by decide) ?_
      exact e_iret (pc := 22) o f dX4_readsDistricts_22 rfl (pI.of (by refine rd_t hmay (pr_t (m := 0) e1 (by simp [chk])) (frK.nu _ _ _ _ _) rfl ?_; exact ds.nu (nm_c e1) 0))
    · have e1 : nmB tl tx p 1 4 = false := by have := bi_z.mp q16; simpa using this
      refine g_iconst (pc := 19) (v := 0) o dX4_readsDistricts_19 (by decide) ?_
      exact e_iret (pc := 20) o f dX4_readsDistricts_20 rfl (pI.of (by first | exact rd_no (by unfold may; simp [g]) (frK.refl _) rfl h14 | exact rd_f hmay (pr_f (m := 0) e1 (by simp [chk])) (frK.nu _ _ _ _ _) rfl (nu14 _ _ _ _ _)))

theorem upN_comm (g : Nat → Nat) {a b : Nat} (h : a ≠ b) (x y : Nat) : upN (upN g a x) b y = upN (upN g b y) a x := by
  funext j; unfold upN; grind
theorem quo {tl : Nat} {tx T : Nat → Nat} {p f0 : Nat} (hmay : may T 113 = true) (ds : DS M tl tx T p) (ds2 : DS (st2 M 99 5 (nI 1)) tl tx (upN T 5 1) p) : rdI tl tx T 113 p f0 M (bi (nmB tl tx p 0 6 = true)) (nuM (st2 M 99 5 (nI 1)) tl tx p 1) := by
  cases e1 : nmB tl tx p 0 6 with
  | false => exact rd_f hmay (pr_f (m := 0) e1 (by simp [chk])) ((frK.st _ _ _).trans (frK.nu _ _ _ _ _)) (bi_f (by decide)) (nu14 _ _ _ _ _)
  | true =>
    refine rd_t hmay (pr_t (m := 0) e1 (by simp [chk])) ((frK.st _ _ _).trans (frK.nu _ _ _ _ _)) (bi_t rfl) ?_
    have h := ds2.nu (nm_c e1) 1
    rw [upN_comm _ (by decide)] at h
    exact h
set_option maxHeartbeats 2000000 in
set_option maxRecDepth 20000 in
theorem cX4rQuota (rm : RM Rf) (hn : 109 ≤ n) {tl : Nat} {tx : Nat → Nat} {T : Nat → Nat} {p : Nat} (ds : DS M tl tx T p) (ht : okT T) (ho : okP T) (h4 : T 4 < 1000) {f0 : Nat} (h14 : M 96 14 = nI f0) : RetE Λ (d + 4) mX4_readsQuota [.ref 96] (n, M, Rf, Lg) (pI n Rf Lg (fun r M' => rdI tl tx T 113 p f0 M r M')) 0 0 := by
  refine RetE.of rfl rfl rfl (fun κ o f hin => ?_)
  obtain ⟨y1, y3, y4, y5, y6, y8, y9, y10, y21, y22, y23, y24⟩ := id rm
  obtain ⟨htx, hT, hat, hpl⟩ := id ds
  have hx : ∀ i, i < tl → tx i < 256 := fun i hi => (htx.2.2 i hi).2
  obtain ⟨⟨t0, t0b⟩, t1, t2, t3, tD, tC, tN⟩ := id ht
  obtain ⟨o5, o4⟩ := id ho
  refine g_aload_n (pc := 0) o 0 dX4_readsQuota_0 rfl rfl ?_
  refine g_getR (pc := 1) o flRX4_16 rfl (by omega) y4 dX4_readsQuota_1 ?_
  refine g_iconst (pc := 4) (v := 5) o dX4_readsQuota_4 (by decide) ?_
  refine g_iald (pc := 5) o (5) rfl (by omega) rfl (by omega) dX4_readsQuota_5 ?_
  refine g_iconst (pc := 6) (v := 1) o dX4_readsQuota_6 (by decide) ?_
  refine g_icmp_ne (pc := 7) o 12 dX4_readsQuota_7 (by decide) (fun q7 => ?_) (fun q7 => ?_)
  · have g : T 5 = 0 := by have := mt (eq_N (a := T 5) (b := 1) (by omega) (by decide) (hT 5 (by decide)) rfl).mpr q7; omega
    have hmay : may T 113 = true := by unfold may; simp [g]
    have ds2 := ds.st 5 1
    refine g_aload_n (pc := 12) o 0 dX4_readsQuota_12 rfl rfl ?_
    refine g_getR (pc := 13) o flRX4_16 rfl (by omega) y4 dX4_readsQuota_13 ?_
    refine g_iconst (pc := 16) (v := 5) o dX4_readsQuota_16 (by decide) ?_
    refine g_iconst (pc := 17) (v := 1) o dX4_readsQuota_17 (by decide) ?_
    refine g_iast (pc := 18) o (5) rfl (by omega) rfl (by omega) dX4_readsQuota_18 ?_
    refine g_aload_n (pc := 19) o 0 dX4_readsQuota_19 rfl rfl ?_
    refine g_iconst (pc := 20) (v := 1) o dX4_readsQuota_20 (by decide) ?_
    refine g_iconst (pc := 21) (v := 0) o dX4_readsQuota_21 (by decide) ?_
    refine g_bipush (pc := 22) (v := 6) o dX4_readsQuota_22 (by decide) ?_
    refine g_V3i (pc := 24) o lkRX4_100 cmX4_number (cX4number rm hn ds2 (pl := 1) (lo := 0) (hi := 6) (by decide) (by decide) (by decide)) rfl (by omega) rfl rfl ⟨Nat.le_refl _, Nat.le_refl _⟩ dX4_readsQuota_24 ?_
    exact e_iret (pc := 27) o f dX4_readsQuota_27 bi_nar (pI.of (quo hmay ds ds2))
  · have g : T 5 = 1 := (eq_N (a := T 5) (b := 1) (by omega) (by decide) (hT 5 (by decide)) rfl).mp q7
    refine g_iconst (pc := 10) (v := 0) o dX4_readsQuota_10 (by decide) ?_
    exact e_iret (pc := 11) o f dX4_readsQuota_11 rfl (pI.of (rd_no (by unfold may; simp [g]) (frK.refl _) rfl h14))

set_option maxHeartbeats 2000000 in
set_option maxRecDepth 20000 in
theorem cX4rCitizen (rm : RM Rf) (hn : 109 ≤ n) {tl : Nat} {tx : Nat → Nat} {T : Nat → Nat} {p : Nat} (ds : DS M tl tx T p) (ht : okT T) (ho : okP T) (h4 : T 4 < 1000) {f0 : Nat} (h14 : M 96 14 = nI f0) : RetE Λ (d + 4) mX4_readsCitizen [.ref 96] (n, M, Rf, Lg) (pI n Rf Lg (fun r M' => rdI tl tx T 99 p f0 M r M')) 0 0 := by
  refine RetE.of rfl rfl rfl (fun κ o f hin => ?_)
  obtain ⟨y1, y3, y4, y5, y6, y8, y9, y10, y21, y22, y23, y24⟩ := id rm
  obtain ⟨htx, hT, hat, hpl⟩ := id ds
  have hx : ∀ i, i < tl → tx i < 256 := fun i hi => (htx.2.2 i hi).2
  obtain ⟨⟨t0, t0b⟩, t1, t2, t3, tD, tC, tN⟩ := id ht
  obtain ⟨o5, o4⟩ := id ho
  refine g_aload_n (pc := 0) o 0 dX4_readsCitizen_0 rfl rfl ?_
  refine g_getR (pc := 1) o flRX4_16 rfl (by omega) y4 dX4_readsCitizen_1 ?_
  refine g_iconst (pc := 4) (v := 2) o dX4_readsCitizen_4 (by decide) ?_
  refine g_iald (pc := 5) o (2) rfl (by omega) rfl (by omega) dX4_readsCitizen_5 ?_
  refine g_istore_n (pc := 6) o 1 dX4_readsCitizen_6 rfl rfl ?_
  rw [hT 2 (by decide)]
  refine g_iload_n (pc := 7) o 1 dX4_readsCitizen_7 rfl rfl ?_
  refine g_bipush (pc := 8) (v := 6) o dX4_readsCitizen_8 (by decide) ?_
  refine g_icmp_eq (pc := 10) o 76 dX4_readsCitizen_10 (by decide) (fun q10 => ?_) (fun q10 => ?_)
  · have g : T 2 = 6 := (eq_N (a := T 2) (b := 6) (by omega) (by decide) rfl rfl).mp q10
    refine g_iconst (pc := 76) (v := 0) o dX4_readsCitizen_76 (by decide) ?_
    exact e_iret (pc := 77) o f dX4_readsCitizen_77 rfl (pI.of (by first | exact rd_f hmay ef ff rfl f14 | exact rd_no (by unfold may; simp; omega) (frK.refl _) rfl h14))
  · have g : ¬ T 2 = 6 := mt (eq_N (a := T 2) (b := 6) (by omega) (by decide) rfl rfl).mpr q10
    have hmay : may T 99 = true := by unfold may; simp; omega
    refine g_aload_n (pc := 13) o 0 dX4_readsCitizen_13 rfl rfl ?_
    refine g_bipush (pc := 14) (v := 14) o dX4_readsCitizen_14 (by decide) ?_
    refine g_iload_n (pc := 16) o 1 dX4_readsCitizen_16 rfl rfl ?_
    refine g_iadd (pc := 17) o dX4_readsCitizen_17 ?_
    refine g_iconst (pc := 18) (v := 0) o dX4_readsCitizen_18 (by decide) ?_
    refine g_aload_n (pc := 19) o 0 dX4_readsCitizen_19 rfl rfl ?_
    refine g_getR (pc := 20) o flRX4_16 rfl (by omega) y4 dX4_readsCitizen_20 ?_
    refine g_iconst (pc := 23) (v := 0) o dX4_readsCitizen_23 (by decide) ?_
    refine g_iald (pc := 24) o (0) rfl (by omega) rfl (by omega) dX4_readsCitizen_24 ?_
    refine g_iconst (pc := 25) (v := 1) o dX4_readsCitizen_25 (by decide) ?_
    refine g_isub (pc := 26) o dX4_readsCitizen_26 ?_
    rw [hT 0 (by decide), n_sub1 (by omega), show (14 : Int32) + nI (T 2) = nI (14 + T 2) from nI_addE rfl rfl]
    refine g_V3i (pc := 27) o lkRX4_100 cmX4_number (cX4number rm hn ds (pl := 14 + T 2) (lo := 0) (hi := T 0 - 1) (by omega) (by decide) (by omega)) rfl (by omega) rfl rfl ⟨Nat.le_refl _, Nat.le_refl _⟩ dX4_readsCitizen_27 ?_
    refine g_if_eq (pc := 30) o 76 dX4_readsCitizen_30 (by decide) (fun q30 => ?_) (fun q30 => ?_)
    · have e0 : nmB tl tx (p) 0 (T 0 - 1) = false := by have := bi_z.mp q30; simpa using this
      have ef : prN tl tx T 99 4 0 p (fun _ => 0) = .inl (tkS tl tx (p)) := by exact pr_f (m := 3) e0 (by simp [chk, chC])
      have ff : frK M (nuM (M) tl tx (p) (14 + T 2)) := (frK.refl _).trans (frK.nu _ _ _ _ _)
      have f14 := nu14 (M) tl tx (p) (14 + T 2)
      refine g_iconst (pc := 76) (v := 0) o dX4_readsCitizen_76 (by decide) ?_
      exact e_iret (pc := 77) o f dX4_readsCitizen_77 rfl (pI.of (by first | exact rd_f hmay ef ff rfl f14 | exact rd_no (by unfold may; simp; omega) (frK.refl _) rfl h14))
    · have e0 : nmB tl tx (p) 0 (T 0 - 1) = true := bi_nz.mp q30
      have p0 : prN tl tx T 99 4 0 (p) (fun _ => 0) = prN tl tx T 99 3 1 (tkE tl tx (p)) (upN (fun _ => 0) 0 (tkV tl tx (p))) := pr_t (m := 3) e0 (by simp [chk, chC])
      have ds0 := ds.nu (nm_c e0) (14 + T 2)
      refine g_aload_n (pc := 33) o 0 dX4_readsCitizen_33 rfl rfl ?_
      refine g_bipush (pc := 34) (v := 20) o dX4_readsCitizen_34 (by decide) ?_
      refine g_iload_n (pc := 36) o 1 dX4_readsCitizen_36 rfl rfl ?_
      refine g_iadd (pc := 37) o dX4_readsCitizen_37 ?_
      refine g_iconst (pc := 38) (v := 0) o dX4_readsCitizen_38 (by decide) ?_
      refine g_bipush (pc := 39) (v := 20) o dX4_readsCitizen_39 (by decide) ?_
      rw [show (20 : Int32) + nI (T 2) = nI (20 + T 2) from nI_addE rfl rfl]
      refine g_V3i (pc := 41) o lkRX4_100 cmX4_number (cX4number rm hn ds0 (pl := 20 + T 2) (lo := 0) (hi := 20) (by omega) (by decide) (by omega)) rfl (by omega) rfl rfl ⟨Nat.le_refl _, Nat.le_refl _⟩ dX4_readsCitizen_41 ?_
      refine g_if_eq (pc := 44) o 76 dX4_readsCitizen_44 (by decide) (fun q44 => ?_) (fun q44 => ?_)
      · have e1 : nmB tl tx (tkE tl tx (p)) 0 (20) = false := by have := bi_z.mp q44; simpa using this
        have ef : prN tl tx T 99 4 0 p (fun _ => 0) = .inl (tkS tl tx (tkE tl tx (p))) := by rw [p0]; exact pr_f (m := 2) e1 (by simp [chk, chC])
        have ff : frK M (nuM (nuM (M) tl tx (p) (14 + T 2)) tl tx (tkE tl tx (p)) (20 + T 2)) := ((frK.refl _).trans (frK.nu (M) tl tx (p) (14 + T 2))).trans (frK.nu _ _ _ _ _)
        have f14 := nu14 (nuM (M) tl tx (p) (14 + T 2)) tl tx (tkE tl tx (p)) (20 + T 2)
        refine g_iconst (pc := 76) (v := 0) o dX4_readsCitizen_76 (by decide) ?_
        exact e_iret (pc := 77) o f dX4_readsCitizen_77 rfl (pI.of (by first | exact rd_f hmay ef ff rfl f14 | exact rd_no (by unfold may; simp; omega) (frK.refl _) rfl h14))
      · have e1 : nmB tl tx (tkE tl tx (p)) 0 (20) = true := bi_nz.mp q44
        have p1 : prN tl tx T 99 3 1 (tkE tl tx (p)) (upN (fun _ => 0) 0 (tkV tl tx (p))) = prN tl tx T 99 2 2 (tkE tl tx (tkE tl tx (p))) (upN (upN (fun _ => 0) 0 (tkV tl tx (p))) 1 (tkV tl tx (tkE tl tx (p)))) := pr_t (m := 2) e1 (by simp [chk, chC])
        have ds1 := ds0.nu (nm_c e1) (20 + T 2)
        refine g_aload_n (pc := 47) o 0 dX4_readsCitizen_47 rfl rfl ?_
        refine g_bipush (pc := 48) (v := 26) o dX4_readsCitizen_48 (by decide) ?_
        refine g_iload_n (pc := 50) o 1 dX4_readsCitizen_50 rfl rfl ?_
        refine g_iadd (pc := 51) o dX4_readsCitizen_51 ?_
        refine g_iconst (pc := 52) (v := 0) o dX4_readsCitizen_52 (by decide) ?_
        refine g_sipush (pc := 53) (v := 255) o dX4_readsCitizen_53 (by decide) ?_
        rw [show (26 : Int32) + nI (T 2) = nI (26 + T 2) from nI_addE rfl rfl]
        refine g_V3i (pc := 56) o lkRX4_100 cmX4_number (cX4number rm hn ds1 (pl := 26 + T 2) (lo := 0) (hi := 255) (by omega) (by decide) (by omega)) rfl (by omega) rfl rfl ⟨Nat.le_refl _, Nat.le_refl _⟩ dX4_readsCitizen_56 ?_
        refine g_if_eq (pc := 59) o 76 dX4_readsCitizen_59 (by decide) (fun q59 => ?_) (fun q59 => ?_)
        · have e2 : nmB tl tx (tkE tl tx (tkE tl tx (p))) 0 (255) = false := by have := bi_z.mp q59; simpa using this
          have ef : prN tl tx T 99 4 0 p (fun _ => 0) = .inl (tkS tl tx (tkE tl tx (tkE tl tx (p)))) := by rw [p0, p1]; exact pr_f (m := 1) e2 (by simp [chk, chC])
          have ff : frK M (nuM (nuM (nuM (M) tl tx (p) (14 + T 2)) tl tx (tkE tl tx (p)) (20 + T 2)) tl tx (tkE tl tx (tkE tl tx (p))) (26 + T 2)) := (((frK.refl _).trans (frK.nu (M) tl tx (p) (14 + T 2))).trans (frK.nu (nuM (M) tl tx (p) (14 + T 2)) tl tx (tkE tl tx (p)) (20 + T 2))).trans (frK.nu _ _ _ _ _)
          have f14 := nu14 (nuM (nuM (M) tl tx (p) (14 + T 2)) tl tx (tkE tl tx (p)) (20 + T 2)) tl tx (tkE tl tx (tkE tl tx (p))) (26 + T 2)
          refine g_iconst (pc := 76) (v := 0) o dX4_readsCitizen_76 (by decide) ?_
          exact e_iret (pc := 77) o f dX4_readsCitizen_77 rfl (pI.of (by first | exact rd_f hmay ef ff rfl f14 | exact rd_no (by unfold may; simp; omega) (frK.refl _) rfl h14))
        · have e2 : nmB tl tx (tkE tl tx (tkE tl tx (p))) 0 (255) = true := bi_nz.mp q59
          have p2 : prN tl tx T 99 2 2 (tkE tl tx (tkE tl tx (p))) (upN (upN (fun _ => 0) 0 (tkV tl tx (p))) 1 (tkV tl tx (tkE tl tx (p)))) = prN tl tx T 99 1 3 (tkE tl tx (tkE tl tx (tkE tl tx (p)))) (upN (upN (upN (fun _ => 0) 0 (tkV tl tx (p))) 1 (tkV tl tx (tkE tl tx (p)))) 2 (tkV tl tx (tkE tl tx (tkE tl tx (p))))) := pr_t (m := 1) e2 (by simp [chk, chC])
          have ds2 := ds1.nu (nm_c e2) (26 + T 2)
          refine g_aload_n (pc := 62) o 0 dX4_readsCitizen_62 rfl rfl ?_
          refine g_bipush (pc := 63) (v := 32) o dX4_readsCitizen_63 (by decide) ?_
          refine g_iload_n (pc := 65) o 1 dX4_readsCitizen_65 rfl rfl ?_
          refine g_iadd (pc := 66) o dX4_readsCitizen_66 ?_
          refine g_iconst (pc := 67) (v := 1) o dX4_readsCitizen_67 (by decide) ?_
          refine g_bipush (pc := 68) (v := 9) o dX4_readsCitizen_68 (by decide) ?_
          rw [show (32 : Int32) + nI (T 2) = nI (32 + T 2) from nI_addE rfl rfl]
          refine g_V3i (pc := 70) o lkRX4_100 cmX4_number (cX4number rm hn ds2 (pl := 32 + T 2) (lo := 1) (hi := 9) (by omega) (by decide) (by omega)) rfl (by omega) rfl rfl ⟨Nat.le_refl _, Nat.le_refl _⟩ dX4_readsCitizen_70 ?_
          refine g_if_ne (pc := 73) o 78 dX4_readsCitizen_73 (by decide) (fun q73 => ?_) (fun q73 => ?_)
          · have e3 : nmB tl tx (tkE tl tx (tkE tl tx (tkE tl tx (p)))) 1 (9) = true := bi_nz.mp q73
            have p3 : prN tl tx T 99 1 3 (tkE tl tx (tkE tl tx (tkE tl tx (p)))) (upN (upN (upN (fun _ => 0) 0 (tkV tl tx (p))) 1 (tkV tl tx (tkE tl tx (p)))) 2 (tkV tl tx (tkE tl tx (tkE tl tx (p))))) = prN tl tx T 99 0 4 (tkE tl tx (tkE tl tx (tkE tl tx (tkE tl tx (p))))) (upN (upN (upN (upN (fun _ => 0) 0 (tkV tl tx (p))) 1 (tkV tl tx (tkE tl tx (p)))) 2 (tkV tl tx (tkE tl tx (tkE tl tx (p))))) 3 (tkV tl tx (tkE tl tx (tkE tl tx (tkE tl tx (p)))))) := pr_t (m := 0) e3 (by simp [chk, chC])
            have ds3 := ds2.nu (nm_c e3) (32 + T 2)
            refine g_aload_n (pc := 78) o 0 dX4_readsCitizen_78 rfl rfl ?_
            refine g_getR (pc := 79) o flRX4_16 rfl (by omega) y4 dX4_readsCitizen_79 ?_
            refine g_iconst (pc := 82) (v := 2) o dX4_readsCitizen_82 (by decide) ?_
            refine g_dup2 (pc := 83) o dX4_readsCitizen_83 rfl rfl ?_
            refine g_iald (pc := 84) o (2) rfl (by omega) rfl (by omega) dX4_readsCitizen_84 ?_
            have eC : (nuM (nuM (nuM (nuM (M) tl tx (p) (14 + T 2)) tl tx (tkE tl tx (p)) (20 + T 2)) tl tx (tkE tl tx (tkE tl tx (p))) (26 + T 2)) tl tx (tkE tl tx (tkE tl tx (tkE tl tx (p)))) (32 + T 2)) 99 2 + 1 = nI (T 2 + 1) := by rw [ds3.2.1 2 (by decide), nI_succ (T 2)]; congr 1; unfold upN; rw [if_neg (show ¬ 2 = 32 + T 2 by omega), if_neg (show ¬ 2 = 26 + T 2 by omega), if_neg (show ¬ 2 = 20 + T 2 by omega), if_neg (show ¬ 2 = 14 + T 2 by omega)]
            refine g_iconst (pc := 85) (v := 1) o dX4_readsCitizen_85 (by decide) ?_
            refine g_iadd (pc := 86) o dX4_readsCitizen_86 ?_
            refine g_iast (pc := 87) o (2) rfl (by omega) rfl (by omega) dX4_readsCitizen_87 ?_
            refine g_iconst (pc := 88) (v := 1) o dX4_readsCitizen_88 (by decide) ?_
            exact e_iret (pc := 89) o f dX4_readsCitizen_89 rfl (pI.of (by refine rd_t hmay (acc := (upN (upN (upN (upN (fun _ => 0) 0 (tkV tl tx (p))) 1 (tkV tl tx (tkE tl tx (p)))) 2 (tkV tl tx (tkE tl tx (tkE tl tx (p))))) 3 (tkV tl tx (tkE tl tx (tkE tl tx (tkE tl tx (p))))))) (q := tkE tl tx (tkE tl tx (tkE tl tx (tkE tl tx (p))))) (by show prN tl tx T 99 4 0 p (fun _ => 0) = _; rw [p0, p1, p2, p3]; rfl) ((((((frK.refl _).trans (frK.nu (M) tl tx (p) (14 + T 2))).trans (frK.nu (nuM (M) tl tx (p) (14 + T 2)) tl tx (tkE tl tx (p)) (20 + T 2))).trans (frK.nu (nuM (nuM (M) tl tx (p) (14 + T 2)) tl tx (tkE tl tx (p)) (20 + T 2)) tl tx (tkE tl tx (tkE tl tx (p))) (26 + T 2))).trans (frK.nu (nuM (nuM (nuM (M) tl tx (p) (14 + T 2)) tl tx (tkE tl tx (p)) (20 + T 2)) tl tx (tkE tl tx (tkE tl tx (p))) (26 + T 2)) tl tx (tkE tl tx (tkE tl tx (tkE tl tx (p)))) (32 + T 2))).trans (frK.st _ _ _)) rfl ?_; rw [eC]; exact ds3.st 2 (T 2 + 1)))
          · have e3 : nmB tl tx (tkE tl tx (tkE tl tx (tkE tl tx (p)))) 1 (9) = false := by have := bi_z.mp q73; simpa using this
            have ef : prN tl tx T 99 4 0 p (fun _ => 0) = .inl (tkS tl tx (tkE tl tx (tkE tl tx (tkE tl tx (p))))) := by rw [p0, p1, p2]; exact pr_f (m := 0) e3 (by simp [chk, chC])
            have ff : frK M (nuM (nuM (nuM (nuM (M) tl tx (p) (14 + T 2)) tl tx (tkE tl tx (p)) (20 + T 2)) tl tx (tkE tl tx (tkE tl tx (p))) (26 + T 2)) tl tx (tkE tl tx (tkE tl tx (tkE tl tx (p)))) (32 + T 2)) := ((((frK.refl _).trans (frK.nu (M) tl tx (p) (14 + T 2))).trans (frK.nu (nuM (M) tl tx (p) (14 + T 2)) tl tx (tkE tl tx (p)) (20 + T 2))).trans (frK.nu (nuM (nuM (M) tl tx (p) (14 + T 2)) tl tx (tkE tl tx (p)) (20 + T 2)) tl tx (tkE tl tx (tkE tl tx (p))) (26 + T 2))).trans (frK.nu _ _ _ _ _)
            have f14 := nu14 (nuM (nuM (nuM (M) tl tx (p) (14 + T 2)) tl tx (tkE tl tx (p)) (20 + T 2)) tl tx (tkE tl tx (tkE tl tx (p))) (26 + T 2)) tl tx (tkE tl tx (tkE tl tx (tkE tl tx (p)))) (32 + T 2)
            refine g_iconst (pc := 76) (v := 0) o dX4_readsCitizen_76 (by decide) ?_
            exact e_iret (pc := 77) o f dX4_readsCitizen_77 rfl (pI.of (by first | exact rd_f hmay ef ff rfl f14 | exact rd_no (by unfold may; simp; omega) (frK.refl _) rfl h14))

set_option maxHeartbeats 2000000 in
set_option maxRecDepth 20000 in
theorem cX4rNoise (rm : RM Rf) (hn : 109 ≤ n) {tl : Nat} {tx : Nat → Nat} {T : Nat → Nat} {p : Nat} (ds : DS M tl tx T p) (ht : okT T) (ho : okP T) (h4 : T 4 < 1000) {f0 : Nat} (h14 : M 96 14 = nI f0) : RetE Λ (d + 4) mX4_readsNoise [.ref 96] (n, M, Rf, Lg) (pI n Rf Lg (fun r M' => rdI tl tx T 110 p f0 M r M')) 0 0 := by
  refine RetE.of rfl rfl rfl (fun κ o f hin => ?_)
  obtain ⟨y1, y3, y4, y5, y6, y8, y9, y10, y21, y22, y23, y24⟩ := id rm
  obtain ⟨htx, hT, hat, hpl⟩ := id ds
  have hx : ∀ i, i < tl → tx i < 256 := fun i hi => (htx.2.2 i hi).2
  obtain ⟨⟨t0, t0b⟩, t1, t2, t3, tD, tC, tN⟩ := id ht
  obtain ⟨o5, o4⟩ := id ho
  refine g_aload_n (pc := 0) o 0 dX4_readsNoise_0 rfl rfl ?_
  refine g_getR (pc := 1) o flRX4_16 rfl (by omega) y4 dX4_readsNoise_1 ?_
  refine g_iconst (pc := 4) (v := 3) o dX4_readsNoise_4 (by decide) ?_
  refine g_iald (pc := 5) o (3) rfl (by omega) rfl (by omega) dX4_readsNoise_5 ?_
  refine g_istore_n (pc := 6) o 1 dX4_readsNoise_6 rfl rfl ?_
  rw [hT 3 (by decide)]
  refine g_iload_n (pc := 7) o 1 dX4_readsNoise_7 rfl rfl ?_
  refine g_bipush (pc := 8) (v := 6) o dX4_readsNoise_8 (by decide) ?_
  refine g_icmp_eq (pc := 10) o 61 dX4_readsNoise_10 (by decide) (fun q10 => ?_) (fun q10 => ?_)
  · have g : T 3 = 6 := (eq_N (a := T 3) (b := 6) (by omega) (by decide) rfl rfl).mp q10
    refine g_iconst (pc := 61) (v := 0) o dX4_readsNoise_61 (by decide) ?_
    exact e_iret (pc := 62) o f dX4_readsNoise_62 rfl (pI.of (by first | exact rd_f hmay ef ff rfl f14 | exact rd_no (by unfold may; simp; omega) (frK.refl _) rfl h14))
  · have g : ¬ T 3 = 6 := mt (eq_N (a := T 3) (b := 6) (by omega) (by decide) rfl rfl).mpr q10
    have hmay : may T 110 = true := by unfold may; simp; omega
    refine g_aload_n (pc := 13) o 0 dX4_readsNoise_13 rfl rfl ?_
    refine g_bipush (pc := 14) (v := 38) o dX4_readsNoise_14 (by decide) ?_
    refine g_iload_n (pc := 16) o 1 dX4_readsNoise_16 rfl rfl ?_
    refine g_iadd (pc := 17) o dX4_readsNoise_17 ?_
    refine g_iconst (pc := 18) (v := 0) o dX4_readsNoise_18 (by decide) ?_
    refine g_aload_n (pc := 19) o 0 dX4_readsNoise_19 rfl rfl ?_
    refine g_getR (pc := 20) o flRX4_16 rfl (by omega) y4 dX4_readsNoise_20 ?_
    refine g_iconst (pc := 23) (v := 0) o dX4_readsNoise_23 (by decide) ?_
    refine g_iald (pc := 24) o (0) rfl (by omega) rfl (by omega) dX4_readsNoise_24 ?_
    refine g_iconst (pc := 25) (v := 1) o dX4_readsNoise_25 (by decide) ?_
    refine g_isub (pc := 26) o dX4_readsNoise_26 ?_
    rw [hT 0 (by decide), n_sub1 (by omega), show (38 : Int32) + nI (T 3) = nI (38 + T 3) from nI_addE rfl rfl]
    refine g_V3i (pc := 27) o lkRX4_100 cmX4_number (cX4number rm hn ds (pl := 38 + T 3) (lo := 0) (hi := T 0 - 1) (by omega) (by decide) (by omega)) rfl (by omega) rfl rfl ⟨Nat.le_refl _, Nat.le_refl _⟩ dX4_readsNoise_27 ?_
    refine g_if_eq (pc := 30) o 61 dX4_readsNoise_30 (by decide) (fun q30 => ?_) (fun q30 => ?_)
    · have e0 : nmB tl tx (p) 0 (T 0 - 1) = false := by have := bi_z.mp q30; simpa using this
      have ef : prN tl tx T 110 3 0 p (fun _ => 0) = .inl (tkS tl tx (p)) := by exact pr_f (m := 2) e0 (by simp [chk, chC])
      have ff : frK M (nuM (M) tl tx (p) (38 + T 3)) := (frK.refl _).trans (frK.nu _ _ _ _ _)
      have f14 := nu14 (M) tl tx (p) (38 + T 3)
      refine g_iconst (pc := 61) (v := 0) o dX4_readsNoise_61 (by decide) ?_
      exact e_iret (pc := 62) o f dX4_readsNoise_62 rfl (pI.of (by first | exact rd_f hmay ef ff rfl f14 | exact rd_no (by unfold may; simp; omega) (frK.refl _) rfl h14))
    · have e0 : nmB tl tx (p) 0 (T 0 - 1) = true := bi_nz.mp q30
      have p0 : prN tl tx T 110 3 0 (p) (fun _ => 0) = prN tl tx T 110 2 1 (tkE tl tx (p)) (upN (fun _ => 0) 0 (tkV tl tx (p))) := pr_t (m := 2) e0 (by simp [chk, chC])
      have ds0 := ds.nu (nm_c e0) (38 + T 3)
      refine g_aload_n (pc := 33) o 0 dX4_readsNoise_33 rfl rfl ?_
      refine g_bipush (pc := 34) (v := 44) o dX4_readsNoise_34 (by decide) ?_
      refine g_iload_n (pc := 36) o 1 dX4_readsNoise_36 rfl rfl ?_
      refine g_iadd (pc := 37) o dX4_readsNoise_37 ?_
      refine g_iconst (pc := 38) (v := 0) o dX4_readsNoise_38 (by decide) ?_
      refine g_bipush (pc := 39) (v := 7) o dX4_readsNoise_39 (by decide) ?_
      rw [show (44 : Int32) + nI (T 3) = nI (44 + T 3) from nI_addE rfl rfl]
      refine g_V3i (pc := 41) o lkRX4_100 cmX4_number (cX4number rm hn ds0 (pl := 44 + T 3) (lo := 0) (hi := 7) (by omega) (by decide) (by omega)) rfl (by omega) rfl rfl ⟨Nat.le_refl _, Nat.le_refl _⟩ dX4_readsNoise_41 ?_
      refine g_if_eq (pc := 44) o 61 dX4_readsNoise_44 (by decide) (fun q44 => ?_) (fun q44 => ?_)
      · have e1 : nmB tl tx (tkE tl tx (p)) 0 (7) = false := by have := bi_z.mp q44; simpa using this
        have ef : prN tl tx T 110 3 0 p (fun _ => 0) = .inl (tkS tl tx (tkE tl tx (p))) := by rw [p0]; exact pr_f (m := 1) e1 (by simp [chk, chC])
        have ff : frK M (nuM (nuM (M) tl tx (p) (38 + T 3)) tl tx (tkE tl tx (p)) (44 + T 3)) := ((frK.refl _).trans (frK.nu (M) tl tx (p) (38 + T 3))).trans (frK.nu _ _ _ _ _)
        have f14 := nu14 (nuM (M) tl tx (p) (38 + T 3)) tl tx (tkE tl tx (p)) (44 + T 3)
        refine g_iconst (pc := 61) (v := 0) o dX4_readsNoise_61 (by decide) ?_
        exact e_iret (pc := 62) o f dX4_readsNoise_62 rfl (pI.of (by first | exact rd_f hmay ef ff rfl f14 | exact rd_no (by unfold may; simp; omega) (frK.refl _) rfl h14))
      · have e1 : nmB tl tx (tkE tl tx (p)) 0 (7) = true := bi_nz.mp q44
        have p1 : prN tl tx T 110 2 1 (tkE tl tx (p)) (upN (fun _ => 0) 0 (tkV tl tx (p))) = prN tl tx T 110 1 2 (tkE tl tx (tkE tl tx (p))) (upN (upN (fun _ => 0) 0 (tkV tl tx (p))) 1 (tkV tl tx (tkE tl tx (p)))) := pr_t (m := 1) e1 (by simp [chk, chC])
        have ds1 := ds0.nu (nm_c e1) (44 + T 3)
        refine g_aload_n (pc := 47) o 0 dX4_readsNoise_47 rfl rfl ?_
        refine g_bipush (pc := 48) (v := 50) o dX4_readsNoise_48 (by decide) ?_
        refine g_iload_n (pc := 50) o 1 dX4_readsNoise_50 rfl rfl ?_
        refine g_iadd (pc := 51) o dX4_readsNoise_51 ?_
        refine g_iconst (pc := 52) (v := 1) o dX4_readsNoise_52 (by decide) ?_
        refine g_bipush (pc := 53) (v := 9) o dX4_readsNoise_53 (by decide) ?_
        rw [show (50 : Int32) + nI (T 3) = nI (50 + T 3) from nI_addE rfl rfl]
        refine g_V3i (pc := 55) o lkRX4_100 cmX4_number (cX4number rm hn ds1 (pl := 50 + T 3) (lo := 1) (hi := 9) (by omega) (by decide) (by omega)) rfl (by omega) rfl rfl ⟨Nat.le_refl _, Nat.le_refl _⟩ dX4_readsNoise_55 ?_
        refine g_if_ne (pc := 58) o 63 dX4_readsNoise_58 (by decide) (fun q58 => ?_) (fun q58 => ?_)
        · have e2 : nmB tl tx (tkE tl tx (tkE tl tx (p))) 1 (9) = true := bi_nz.mp q58
          have p2 : prN tl tx T 110 1 2 (tkE tl tx (tkE tl tx (p))) (upN (upN (fun _ => 0) 0 (tkV tl tx (p))) 1 (tkV tl tx (tkE tl tx (p)))) = prN tl tx T 110 0 3 (tkE tl tx (tkE tl tx (tkE tl tx (p)))) (upN (upN (upN (fun _ => 0) 0 (tkV tl tx (p))) 1 (tkV tl tx (tkE tl tx (p)))) 2 (tkV tl tx (tkE tl tx (tkE tl tx (p))))) := pr_t (m := 0) e2 (by simp [chk, chC])
          have ds2 := ds1.nu (nm_c e2) (50 + T 3)
          refine g_aload_n (pc := 63) o 0 dX4_readsNoise_63 rfl rfl ?_
          refine g_getR (pc := 64) o flRX4_16 rfl (by omega) y4 dX4_readsNoise_64 ?_
          refine g_iconst (pc := 67) (v := 3) o dX4_readsNoise_67 (by decide) ?_
          refine g_dup2 (pc := 68) o dX4_readsNoise_68 rfl rfl ?_
          refine g_iald (pc := 69) o (3) rfl (by omega) rfl (by omega) dX4_readsNoise_69 ?_
          have eC : (nuM (nuM (nuM (M) tl tx (p) (38 + T 3)) tl tx (tkE tl tx (p)) (44 + T 3)) tl tx (tkE tl tx (tkE tl tx (p))) (50 + T 3)) 99 3 + 1 = nI (T 3 + 1) := by rw [ds2.2.1 3 (by decide), nI_succ (T 3)]; congr 1; unfold upN; rw [if_neg (show ¬ 3 = 50 + T 3 by omega), if_neg (show ¬ 3 = 44 + T 3 by omega), if_neg (show ¬ 3 = 38 + T 3 by omega)]
          refine g_iconst (pc := 70) (v := 1) o dX4_readsNoise_70 (by decide) ?_
          refine g_iadd (pc := 71) o dX4_readsNoise_71 ?_
          refine g_iast (pc := 72) o (3) rfl (by omega) rfl (by omega) dX4_readsNoise_72 ?_
          refine g_iconst (pc := 73) (v := 1) o dX4_readsNoise_73 (by decide) ?_
          exact e_iret (pc := 74) o f dX4_readsNoise_74 rfl (pI.of (by refine rd_t hmay (acc := (upN (upN (upN (fun _ => 0) 0 (tkV tl tx (p))) 1 (tkV tl tx (tkE tl tx (p)))) 2 (tkV tl tx (tkE tl tx (tkE tl tx (p)))))) (q := tkE tl tx (tkE tl tx (tkE tl tx (p)))) (by show prN tl tx T 110 3 0 p (fun _ => 0) = _; rw [p0, p1, p2]; rfl) (((((frK.refl _).trans (frK.nu (M) tl tx (p) (38 + T 3))).trans (frK.nu (nuM (M) tl tx (p) (38 + T 3)) tl tx (tkE tl tx (p)) (44 + T 3))).trans (frK.nu (nuM (nuM (M) tl tx (p) (38 + T 3)) tl tx (tkE tl tx (p)) (44 + T 3)) tl tx (tkE tl tx (tkE tl tx (p))) (50 + T 3))).trans (frK.st _ _ _)) rfl ?_; rw [eC]; exact ds2.st 3 (T 3 + 1)))
        · have e2 : nmB tl tx (tkE tl tx (tkE tl tx (p))) 1 (9) = false := by have := bi_z.mp q58; simpa using this
          have ef : prN tl tx T 110 3 0 p (fun _ => 0) = .inl (tkS tl tx (tkE tl tx (tkE tl tx (p)))) := by rw [p0, p1]; exact pr_f (m := 0) e2 (by simp [chk, chC])
          have ff : frK M (nuM (nuM (nuM (M) tl tx (p) (38 + T 3)) tl tx (tkE tl tx (p)) (44 + T 3)) tl tx (tkE tl tx (tkE tl tx (p))) (50 + T 3)) := (((frK.refl _).trans (frK.nu (M) tl tx (p) (38 + T 3))).trans (frK.nu (nuM (M) tl tx (p) (38 + T 3)) tl tx (tkE tl tx (p)) (44 + T 3))).trans (frK.nu _ _ _ _ _)
          have f14 := nu14 (nuM (nuM (M) tl tx (p) (38 + T 3)) tl tx (tkE tl tx (p)) (44 + T 3)) tl tx (tkE tl tx (tkE tl tx (p))) (50 + T 3)
          refine g_iconst (pc := 61) (v := 0) o dX4_readsNoise_61 (by decide) ?_
          exact e_iret (pc := 62) o f dX4_readsNoise_62 rfl (pI.of (by first | exact rd_f hmay ef ff rfl f14 | exact rd_no (by unfold may; simp; omega) (frK.refl _) rfl h14))

end M29
