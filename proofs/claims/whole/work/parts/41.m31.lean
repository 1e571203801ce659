section M31
variable {Λ : PL} {d n : Nat} {M : HM} {Rf : HR} {Lg : HL}

theorem telB_4 {T : Nat → Nat} {L n0 n1 n2 n3 : Nat} : telB T L n0 n1 n2 n3 4 = T 4 := by
  unfold telB
  repeat' split
  · exact upN_n _ _ (by omega)
  · unfold ciT; rw [upN_n _ _ (by omega), upN_n _ _ (by omega), upN_n _ _ (by omega), upN_n _ _ (by omega), upN_n _ _ (by omega)]
  · exact upN_n _ _ (by omega)
  · rw [upN_n _ _ (by omega), upN_n _ _ (by omega)]
  · unfold noT; rw [upN_n _ _ (by omega), upN_n _ _ (by omega), upN_n _ _ (by omega), upN_n _ _ (by omega)]
  · rw [upN_n _ _ (by omega), upN_n _ _ (by omega)]
def inF (k : Nat) : Int32 := if 10 ≤ k ∧ k ≤ 13 then 6 else 0
def dr0 (M : HM) : HM := st2 (st2 (st2 (rowM M 99 56 inF) 99 0 1) 99 1 1) 96 12 0
theorem dr0_ds {tl : Nat} {tx : Nat → Nat} (h : txN M tl tx) : DS (dr0 M) tl tx iniT 0 ∧ frK M (dr0 M) := by
  have f : frK M (dr0 M) := by
    refine ⟨fun z a b => ?_, fun j a => ?_⟩
    · unfold dr0; rw [st2_ne _ _ _ a, st2_ne _ _ _ b, st2_ne _ _ _ b]; funext j; exact rowM_ne _ _ _ b j
    · unfold dr0; rw [st2_ne2 _ _ (by omega), st2_ne _ _ _ (by decide), st2_ne _ _ _ (by decide)]; exact rowM_ne _ _ _ (by decide) j
  refine ⟨⟨h.fr f, fun k hk => ?_, by unfold dr0; rw [st2_same]; rfl, by omega⟩, f⟩
  unfold dr0
  rw [st2_ne _ _ _ (by decide)]
  by_cases e1 : k = 1
  · subst e1; rw [st2_same]; rfl
  · rw [st2_ne2 _ _ (by omega)]
    by_cases e0 : k = 0
    · subst e0; rw [st2_same]; rfl
    · rw [st2_ne2 _ _ (by omega), rowM_in _ _ _ hk]
      unfold inF iniT
      by_cases q : 10 ≤ k ∧ k ≤ 13
      · rw [if_pos q, if_neg (by omega), if_pos (by omega)]; rfl
      · rw [if_neg q, if_neg (by omega), if_neg (by omega)]; rfl
/-- what the reading comes to -/
def rdQ (tl : Nat) (tx : Nat → Nat) (M : HM) (r : Int32) (M' : HM) : Prop := frK M M' ∧ match rdT tl tx (tl + 1) iniT 0 with
  | .inl f => r = 0 ∧ M' 96 14 = nI f ∧ f ≤ 200
  | .inr T' => r = 1 ∧ mR M' 99 56 T' ∧ okT T' ∧ T' 4 ≤ 200
theorem rq_f {tl : Nat} {tx : Nat → Nat} {M M' : HM} {r : Int32} {f : Nat} (e : rdT tl tx (tl + 1) iniT 0 = .inl f) (a : frK M M') (b : r = 0) (c : M' 96 14 = nI f) (c2 : f ≤ 200) : rdQ tl tx M r M' := ⟨a, by rw [e]; exact ⟨b, c, c2⟩⟩
theorem rq_t {tl : Nat} {tx : Nat → Nat} {M M' : HM} {r : Int32} {T' : Nat → Nat} (e : rdT tl tx (tl + 1) iniT 0 = .inr T') (a : frK M M') (b : r = 1) (c : mR M' 99 56 T') (c2 : okT T') (c3 : T' 4 ≤ 200) : rdQ tl tx M r M' := ⟨a, by rw [e]; exact ⟨b, c, c2, c3⟩⟩
theorem rd_s1 {tl : Nat} {tx T : Nat → Nat} {f p : Nat} (h : ¬ tkC tl tx p = 258) {e : Nat} (hi : itm tl tx T p = .inl e) : rdT tl tx (f + 1) T p = .inl e := by
  simp only [rdT]; rw [if_neg h, hi]
theorem rd_s2 {tl : Nat} {tx T : Nat → Nat} {f p : Nat} (h : ¬ tkC tl tx p = 258) {T' : Nat → Nat} {q : Nat} (hi : itm tl tx T p = .inr (T', q)) : rdT tl tx (f + 1) T p = rdT tl tx f T' q := by
  simp only [rdT]; rw [if_neg h, hi]
theorem it_no {tl : Nat} {tx T : Nat → Nat} {p : Nat} (h : ¬ may T (tkC tl tx p) = true) : itm tl tx T p = .inl (tkS tl tx p) := by unfold itm; rw [if_neg h]
theorem it_f {tl : Nat} {tx T : Nat → Nat} {p f : Nat} (h : may T (tkC tl tx p) = true) (e : prN tl tx T (tkC tl tx p) (hmN (tkC tl tx p)) 0 (tkE tl tx p) (fun _ => 0) = .inl f) : itm tl tx T p = .inl f := by unfold itm; rw [if_pos h, e]; rfl
theorem it_t {tl : Nat} {tx T : Nat → Nat} {p q : Nat} {acc : Nat → Nat} (h : may T (tkC tl tx p) = true) (e : prN tl tx T (tkC tl tx p) (hmN (tkC tl tx p)) 0 (tkE tl tx p) (fun _ => 0) = .inr (acc, q)) : itm tl tx T p = if tkC tl tx q = 59 then .inr (tel T (tkC tl tx p) (acc 0) (acc 1) (acc 2) (acc 3), tkE tl tx q) else .inl (tkS tl tx q) := by unfold itm; rw [if_pos h, e]; rfl

theorem rd_bad {tl : Nat} {tx T : Nat → Nat} {p k : Nat} {M0 M2 : HM} {r : Int32} (hx : ∀ i, i < tl → tx i < 256) (hpl : p ≤ tl) (ht : okT T) (ho : okP T) (g258 : ¬ tkC tl tx p = 258) (hrt : rdT tl tx (tl + 1) iniT 0 = rdT tl tx (k + 1) T p) (fk : frK M0 M2) (hp2 : if may T (tkC tl tx p) = true then (match prN tl tx T (tkC tl tx p) (hmN (tkC tl tx p)) 0 (tkE tl tx p) (fun _ => 0) with
    | .inl f => r = 0 ∧ M2 96 14 = nI f
    | .inr (acc, q) => r = 1 ∧ DS M2 tl tx (telB T (tkC tl tx p) (acc 0) (acc 1) (acc 2) (acc 3)) q) else r = 0 ∧ M2 96 14 = nI (tkS tl tx p)) (q71 : r = 0) (hl : tl ≤ 200) : rdQ tl tx M0 0 M2 := by
  by_cases hmay : may T (tkC tl tx p) = true
  · rw [if_pos hmay] at hp2
    generalize hpr : prN tl tx T (tkC tl tx p) (hmN (tkC tl tx p)) 0 (tkE tl tx p) (fun _ => 0) = o9 at hp2
    match o9, hp2 with
    | .inl f, hp3 =>
      have hit := it_f hmay hpr
      exact rq_f (hrt.trans (rd_s1 g258 hit)) fk rfl hp3.2 (by have := itm_f hx hpl hit; omega)
    | .inr (acc, q), hp3 => have := hp3.1; rw [q71] at this; exact absurd this (by decide)
  · rw [if_neg hmay] at hp2
    exact rq_f (hrt.trans (rd_s1 g258 (it_no hmay))) fk rfl hp2.2 (by have := tkS_le tx hpl; omega)
set_option maxHeartbeats 2000000 in
set_option maxRecDepth 20000 in
theorem cX4reads (rm : RM Rf) (hn : 109 ≤ n) {tl : Nat} {tx : Nat → Nat} (htx : txN M tl tx) : RetE Λ (d + 6) mX4_reads [.ref 96] (n, M, Rf, Lg) (pI n Rf Lg (fun r M' => rdQ tl tx M r M')) 0 0 := by
  refine RetE.of rfl rfl rfl (fun κ o f hin => ?_)
  obtain ⟨y1, y3, y4, y5, y6, y8, y9, y10, y21, y22, y23, y24⟩ := id rm
  have hx : ∀ i, i < tl → tx i < 256 := fun i hi => (htx.2.2 i hi).2
  have hl := htx.1
  have d0 := dr0_ds htx
  have loop : ∀ (k p : Nat) (T : Nat → Nat) (M1 : HM), p ≤ tl → tl < p + k → rdT tl tx (tl + 1) iniT 0 = rdT tl tx k T p → frK M M1 → DS M1 tl tx T (tkE tl tx p) → M1 96 13 = nI (srt tl tx p) → M1 96 14 = nI (tkS tl tx p) → M1 96 15 = mvI tl tx p → okT T → okP T → T 4 ≤ p → G (Λ, κ) 60 [some (.ref 96), some (.int (nI 56))] [] (n, M1, Rf, Lg) 0 0 := by
    intro k
    induction k with
    | zero => intro p T M1 h1 h2; exact absurd h2 (by omega)
    | succ k ih =>
      intro p T M1 tkp_le h2 hrt fk ds h13 h14 h15 ht ho h4p
      refine g_aload_n (pc := 60) o 0 dX4_reads_60 rfl rfl ?_
      refine g_getI (pc := 61) o flRX4_91 rfl (by omega) dX4_reads_61 ?_
      refine g_if_eq (pc := 64) o 107 dX4_reads_64 (by decide) (fun q64 => ?_) (fun q64 => ?_)
      · have g0 : srt tl tx p = 0 := (eq_N (a := srt tl tx p) (b := 0) (by have := srt_lt tl tx p; omega) (by decide) h13 rfl).mp q64
        have g258 := (srt_0 hx).mp g0
        refine g_iconst (pc := 107) (v := 1) o dX4_reads_107 (by decide) ?_
        exact e_iret (pc := 108) o f dX4_reads_108 rfl (pI.of (rq_t (hrt.trans (by simp only [rdT]; rw [if_pos g258])) fk rfl ds.2.1 ht (by omega)))
      · have g0 : ¬ srt tl tx p = 0 := mt (eq_N (a := srt tl tx p) (b := 0) (by have := srt_lt tl tx p; omega) (by decide) h13 rfl).mpr q64
        have g258 := mt (srt_0 hx).mpr g0
        refine g_aload_n (pc := 67) o 0 dX4_reads_67 rfl rfl ?_
        refine e_V0i (pc := 68) o lkRX4_121 cmX4_readsItem (cX4rItem rm hn ds ht ho (by omega) h13 h14 h15) rfl (by omega) rfl rfl ⟨Nat.le_refl _, Nat.le_refl _⟩ dX4_reads_68 (fun r M2 hp => ?_)
        refine g_if_ne (pc := 71) o 76 dX4_reads_71 (by decide) (fun q71 => ?_) (fun q71 => ?_)
        · obtain ⟨fk2, hp2⟩ := hp
          by_cases hmay : may T (tkC tl tx p) = true
          · rw [if_pos hmay] at hp2
            generalize hpr : prN tl tx T (tkC tl tx p) (hmN (tkC tl tx p)) 0 (tkE tl tx p) (fun _ => 0) = o9 at hp2
            match o9, hp2 with
            | .inl f, hp3 => exact absurd hp3.1 q71
            | .inr (acc, q), hp3 =>
              obtain ⟨_, ds2⟩ := hp3
              refine g_aload_n (pc := 76) o 0 dX4_reads_76 rfl rfl ?_
              refine g_V0v (pc := 77) o lkRX4_97 cmX4_token (cX4token rm hn ds2.1 ds2.2.2.2 ds2.2.2.1) rfl (by omega) rfl rfl ⟨Nat.le_refl _, Nat.le_refl _⟩ dX4_reads_77 ?_
              show G _ _ _ _ (n, tkM M2 tl tx q, Rf, Lg) _ _
              refine g_aload_n (pc := 80) o 0 dX4_reads_80 rfl rfl ?_
              refine g_getI (pc := 81) o flRX4_91 rfl (by omega) dX4_reads_81 ?_
              refine g_iconst (pc := 84) (v := 3) o dX4_reads_84 (by decide) ?_
              refine g_icmp_eq (pc := 85) o 90 dX4_reads_85 (by decide) (fun q85 => ?_) (fun q85 => ?_)
              · have g3 : srt tl tx q = 3 := (eq_N (a := srt tl tx q) (b := 3) (by have := srt_lt tl tx q; omega) (by decide) (tk13 _ _ _ _) rfl).mp q85
                have g59 := srt_3.mp g3
                have hit := it_t hmay hpr
                rw [if_pos g59] at hit
                have hok := itm_ok hx (tkp_le) ht ho hit
                have hrd := rd_s2 (f := k) g258 hit
                have ds3 := ds2.tk
                refine g_aload_n (pc := 90) o 0 dX4_reads_90 rfl rfl ?_
                refine g_getR (pc := 91) o flRX4_16 rfl (by omega) y4 dX4_reads_91 ?_
                refine g_iconst (pc := 94) (v := 4) o dX4_reads_94 (by decide) ?_
                refine g_dup2 (pc := 95) o dX4_reads_95 rfl rfl ?_
                refine g_iald (pc := 96) o (4) rfl (by omega) rfl (by omega) dX4_reads_96 ?_
                rw [ds3.2.1 4 (by decide), telB_4]
                refine g_iconst (pc := 97) (v := 1) o dX4_reads_97 (by decide) ?_
                refine g_iadd (pc := 98) o dX4_reads_98 ?_
                rw [show nI (T 4) + 1 = nI (T 4 + 1) from (nI_succ _).symm]
                refine g_iast (pc := 99) o (4) rfl (by omega) rfl (by omega) dX4_reads_99 ?_
                have ds4 := ds3.st 4 (T 4 + 1)
                refine g_aload_n (pc := 100) o 0 dX4_reads_100 rfl rfl ?_
                refine g_V0v (pc := 101) o lkRX4_97 cmX4_token (cX4token rm hn ds4.1 ds4.2.2.2 ds4.2.2.1) rfl (by omega) rfl rfl ⟨Nat.le_refl _, Nat.le_refl _⟩ dX4_reads_101 ?_
                refine g_goto (pc := 104) o 60 dX4_reads_104 (by decide) ?_
                exact ih (tkE tl tx q) _ _ (by omega) (by omega) (hrt.trans hrd) (((fk.trans fk2).trans (frK.tk _ _ _ _)).trans ((frK.st _ _ _).trans (frK.tk _ _ _ _))) (ds4.tk) rfl rfl rfl hok.1 hok.2.1 (by omega)
              · have g3 : ¬ srt tl tx q = 3 := mt (eq_N (a := srt tl tx q) (b := 3) (by have := srt_lt tl tx q; omega) (by decide) (tk13 _ _ _ _) rfl).mpr q85
                have g59 := mt srt_3.mpr g3
                have hit := it_t hmay hpr
                rw [if_neg g59] at hit
                refine g_iconst (pc := 88) (v := 0) o dX4_reads_88 (by decide) ?_
                exact e_iret (pc := 89) o f dX4_reads_89 rfl (pI.of (rq_f (hrt.trans (rd_s1 g258 hit)) ((fk.trans fk2).trans (frK.tk _ _ _ _)) rfl rfl (by have := tkS_le tx ds2.2.2.2; have := ds2.1.1; omega)))
          · rw [if_neg hmay] at hp2
            exact absurd hp2.1 q71
        · refine g_iconst (pc := 74) (v := 0) o dX4_reads_74 (by decide) ?_
          exact e_iret (pc := 75) o f dX4_reads_75 rfl (pI.of (by obtain ⟨fk2, hp2⟩ := hp; exact rd_bad hx tkp_le ht ho g258 hrt (fk.trans fk2) hp2 q71 hl))
  have loop2 : ∀ k c : Nat, c ≤ 56 → 56 < c + k → G (Λ, κ) 2 [some (.ref 96), some (.int (nI c))] [] (n, rowM M 99 c inF, Rf, Lg) 0 0 := by
    intro k
    induction k with
    | zero => intro c h1 h2; exact absurd h2 (by omega)
    | succ k ih =>
      intro c h1 h2
      refine g_iload_n (pc := 2) o 1 dX4_reads_2 rfl rfl ?_
      refine g_bipush (pc := 3) (v := 56) o dX4_reads_3 (by decide) ?_
      refine g_icmp_ge (pc := 5) o 37 dX4_reads_5 (by decide) (fun q5 => ?_) (fun q5 => ?_)
      · have ec : c = 56 := by have := (le_N (a := 56) (b := c) (by omega) (by omega) rfl rfl).mp q5; omega
        refine g_aload_n (pc := 37) o 0 dX4_reads_37 rfl rfl ?_
        refine g_getR (pc := 38) o flRX4_16 rfl (by omega) y4 dX4_reads_38 ?_
        refine g_iconst (pc := 41) (v := 0) o dX4_reads_41 (by decide) ?_
        refine g_iconst (pc := 42) (v := 1) o dX4_reads_42 (by decide) ?_
        refine g_iast (pc := 43) o (0) rfl (by omega) rfl (by omega) dX4_reads_43 ?_
        refine g_aload_n (pc := 44) o 0 dX4_reads_44 rfl rfl ?_
        refine g_getR (pc := 45) o flRX4_16 rfl (by omega) y4 dX4_reads_45 ?_
        refine g_iconst (pc := 48) (v := 1) o dX4_reads_48 (by decide) ?_
        refine g_iconst (pc := 49) (v := 1) o dX4_reads_49 (by decide) ?_
        refine g_iast (pc := 50) o (1) rfl (by omega) rfl (by omega) dX4_reads_50 ?_
        subst ec
        refine g_aload_n (pc := 51) o 0 dX4_reads_51 rfl rfl ?_
        refine g_iconst (pc := 52) (v := 0) o dX4_reads_52 (by decide) ?_
        refine g_putI (pc := 53) o flRX4_74 rfl rfl (by omega) rfl rfl dX4_reads_53 ?_
        show G _ _ _ _ (n, dr0 M, Rf, Lg) _ _
        refine g_aload_n (pc := 56) o 0 dX4_reads_56 rfl rfl ?_
        refine g_V0v (pc := 57) o lkRX4_97 cmX4_token (cX4token rm hn d0.1.1 d0.1.2.2.2 d0.1.2.2.1) rfl (by omega) rfl rfl ⟨Nat.le_refl _, Nat.le_refl _⟩ dX4_reads_57 ?_
        exact loop (tl + 1) 0 iniT _ (by omega) (by omega) rfl (d0.2.trans (frK.tk _ _ _ _)) d0.1.tk rfl rfl rfl iniT_ok.1 iniT_ok.2 (by show iniT 4 ≤ 0; decide)
      · have hc1 : c < 56 := by have := mt (le_N (a := 56) (b := c) (by omega) (by omega) rfl rfl).mpr q5; omega
        refine g_aload_n (pc := 8) o 0 dX4_reads_8 rfl rfl ?_
        refine g_getR (pc := 9) o flRX4_16 rfl (by omega) y4 dX4_reads_9 ?_
        refine g_iload_n (pc := 12) o 1 dX4_reads_12 rfl rfl ?_
        refine g_iload_n (pc := 13) o 1 dX4_reads_13 rfl rfl ?_
        refine g_bipush (pc := 14) (v := 10) o dX4_reads_14 (by decide) ?_
        refine g_bipush (pc := 16) (v := 13) o dX4_reads_16 (by decide) ?_
        refine g_S3i (pc := 18) o lkRX4_67 cmX4_in (cX4inNN (v := c) (a := 10) (b := 13) (by omega) (by decide) (by decide)) rfl rfl ⟨Nat.le_refl _, Nat.le_refl _⟩ dX4_reads_18 ?_
        refine g_if_eq (pc := 21) o 29 dX4_reads_21 (by decide) (fun q21 => ?_) (fun q21 => ?_)
        · have e1 : inF c = 0 := if_neg (bi_z.mp q21)
          refine g_iconst (pc := 29) (v := 0) o dX4_reads_29 (by decide) ?_
          refine g_iast (pc := 30) o (c) rfl (by omega) rfl (by omega) dX4_reads_30 ?_
          refine g_incN (pc := 31) o (c) dX4_reads_31 rfl rfl ?_
          refine g_goto (pc := 34) o 2 dX4_reads_34 (by decide) ?_
          exact g_eq rfl rfl rfl (hp_M (rowM_s M 99 c inF e1.symm)) (ih (c + 1) (by omega) (by omega))
        · have e1 : inF c = 6 := if_pos (bi_nz.mp q21)
          refine g_bipush (pc := 24) (v := 6) o dX4_reads_24 (by decide) ?_
          refine g_goto (pc := 26) o 30 dX4_reads_26 (by decide) ?_
          refine g_iast (pc := 30) o (c) rfl (by omega) rfl (by omega) dX4_reads_30 ?_
          refine g_incN (pc := 31) o (c) dX4_reads_31 rfl rfl ?_
          refine g_goto (pc := 34) o 2 dX4_reads_34 (by decide) ?_
          exact g_eq rfl rfl rfl (hp_M (rowM_s M 99 c inF e1.symm)) (ih (c + 1) (by omega) (by omega))
  refine g_iconst (pc := 0) (v := 0) o dX4_reads_0 (by decide) ?_
  refine g_istore_n (pc := 1) o 1 dX4_reads_1 rfl rfl ?_
  have h9 := loop2 57 0 (by omega) (by omega)
  rw [rowM_0] at h9
  exact h9

end M31
