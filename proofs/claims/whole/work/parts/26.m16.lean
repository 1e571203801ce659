section M16
variable {Λ : PL} {d n : Nat} {M : HM} {Rf : HR} {Lg : HL}

theorem anyI (x : Int32) : ∃ k, x = nI k := by
  refine ⟨x.toBitVec.toNat, ?_⟩
  apply Int32.toBitVec_inj.mp
  apply BitVec.eq_of_toNat_eq
  exact (pk_tn x.toBitVec.isLt).symm
theorem cX0tell {c0 : Nat} (hc : c0 = 4 ∨ c0 = 16) (hn : 96 ≤ n) (rc : RCi Rf c0) {T : Nat → Nat} (ht : okT T) (hm : cyT M c0 T) (m2 : M c0 2 = nI (T 5)) {L n0 n1 n2 n3 : Nat} (hL : may T L = true) (q0 : M 3 0 = nI n0) (q1 : 1 < hmN L → M 3 1 = nI n1) (q2 : 2 < hmN L → M 3 2 = nI n2) (q3 : 3 < hmN L → M 3 3 = nI n3) (h0 : chk T L 0 n0 n0 = true) (h1 : 1 < hmN L → chk T L 1 n0 n1 = true) : RetE Λ (d + 1) mX0_tell [.ref c0, .int (nI L), .ref 3] (n, M, Rf, Lg) (pV n Rf Lg (fun M' => cyT M' c0 (tel T L n0 n1 n2 n3) ∧ M' c0 2 = nI (tel T L n0 n1 n2 n3 5) ∧ frY c0 M M')) 0 0 := by
  obtain ⟨k1, e1⟩ := anyI (M 3 1)
  obtain ⟨k2, e2⟩ := anyI (M 3 2)
  obtain ⟨k3, e3⟩ := anyI (M 3 3)
  have t0 := ht.1
  rcases may_L hL with rfl | rfl | rfl | rfl | rfl | rfl
  · have c0' : n0 ≤ T 0 - 1 := by simpa [chk] using h0
    exact cX0tell_b (n2 := k2) (n3 := k3) hc hn rc hm m2 ⟨q0, q1 (by decide), e2, e3⟩ (by omega)
  · have c0' : n0 ≤ T 0 - 1 := by simpa [chk] using h0
    have g2 : T 2 < 6 := by simpa [may] using hL
    exact cX0tell_c hc hn rc hm m2 ⟨q0, q1 (by decide), q2 (by decide), q3 (by decide)⟩ (by omega) g2
  · exact cX0tell_d (n1 := k1) (n2 := k2) (n3 := k3) hc hn rc hm m2 ⟨q0, e1, e2, e3⟩
  · have c0' : n0 ≤ T 0 - 1 := by simpa [chk] using h0
    have c1 : n1 ≤ T 0 - 1 ∧ ¬ n1 = n0 := by simpa [chk] using h1 (by decide)
    exact cX0tell_e (n2 := k2) (n3 := k3) hc hn rc hm m2 ⟨q0, q1 (by decide), e2, e3⟩ (by omega) (by omega)
  · have g3 : T 3 < 6 := by simpa [may] using hL
    exact cX0tell_n (n3 := k3) hc hn rc hm m2 ⟨q0, q1 (by decide), q2 (by decide), e3⟩ ht.2.2.1 g3
  · exact cX0tell_q (n1 := k1) (n2 := k2) (n3 := k3) hc hn rc hm m2 ⟨q0, e1, e2, e3⟩
def frR (c : Nat) (M M' : HM) : Prop := ∀ z, z ≠ 1 → z ≠ 3 → (z < c ∨ c + 12 ≤ z) → M' z = M z
def fr13 (M M' : HM) : Prop := ∀ z, z ≠ 1 → z ≠ 3 → M' z = M z
def itP (c0 : Nat) (o : Nat ⊕ ((Nat → Nat) × Nat)) (r : Int32) (M' : HM) : Prop := match o with
  | .inl f => r = 0 ∧ M' 1 4 = nI f
  | .inr (T', q) => r = 1 ∧ cyT M' c0 T' ∧ M' c0 2 = nI (T' 5) ∧ M' 1 2 = nI q
theorem hmN_le (L : Nat) : hmN L ≤ 4 ∧ 1 ≤ hmN L := by unfold hmN; split <;> (try split) <;> (try split) <;> (try split) <;> omega
theorem tel_4 (T : Nat → Nat) (L n0 n1 n2 n3 : Nat) : tel T L n0 n1 n2 n3 4 = T 4 + 1 := upN_s _ _ _
theorem itm_ok {tl : Nat} {tx : Nat → Nat} {T T' : Nat → Nat} {p q : Nat} (hx : ∀ i, i < tl → tx i < 256) (hp : p ≤ tl) (ht : okT T) (ho : okP T) (h : itm tl tx T p = .inr (T', q)) : okT T' ∧ okP T' ∧ p < q ∧ q ≤ tl ∧ T' 4 = T 4 + 1 := by
  unfold itm at h
  by_cases hm : may T (tkC tl tx p) = true
  · rw [if_pos hm] at h
    have hL := may_L hm
    cases e : prN tl tx T (tkC tl tx p) (hmN (tkC tl tx p)) 0 (tkE tl tx p) (fun _ => 0) with
    | inl f => rw [e] at h; cases h
    | inr x =>
      obtain ⟨acc, q1⟩ := x
      rw [e] at h
      obtain ⟨a1, a2, a3⟩ := prN_ok hx _ _ _ _ _ _ (tkE_le tx hp) (fun j hj => absurd hj (by omega)) e
      simp only [itmB] at h
      split at h
      · rename_i g
        cases h
        have b1 := tkE_gt (tl := tl) (tx := tx) (p := p) (by omega)
        have b2 := tkE_gt (tl := tl) (tx := tx) (p := q1) (by omega)
        have b3 := tkE_le tx a3
        have hl := hmN_le (tkC tl tx p)
        obtain ⟨k1, k2⟩ := tel_ok (n1 := acc 1) (n2 := acc 2) (n3 := acc 3) ht ho hm (a1 0 (by omega)).1 (fun z => (a1 1 (by omega)).1) (fun z => (a1 2 (by omega)).1) (fun z => (a1 3 (by omega)).1)
        exact ⟨k1, k2, by omega, b3, tel_4 _ _ _ _ _ _⟩
      · cases h
  · rw [if_neg hm] at h; cases h
theorem hstep {tl : Nat} {tx : Nat → Nat} {T : Nat → Nat} {L k pk : Nat} {acc : Nat → Nat} (ha : ∀ j, j < k → chk T L j (acc 0) (acc j) = true ∧ acc j ≤ 255) (g1 : tkC tl tx pk = 256) (g2 : chk T L k (acc 0) (tkV tl tx pk) = true) (hv : tkV tl tx pk ≤ 255) : ∀ j, j < k + 1 → chk T L j (upN acc k (tkV tl tx pk) 0) (upN acc k (tkV tl tx pk) j) = true ∧ upN acc k (tkV tl tx pk) j ≤ 255 := by
  intro j hj
  by_cases e : j = k
  · subst e
    rw [upN_s]
    refine ⟨?_, hv⟩
    by_cases j0 : j = 0
    · subst j0
      rw [upN_s]
      unfold chk at g2 ⊢
      simpa using g2
    · rw [upN_n _ _ (by omega)]; exact g2
  · rw [upN_n _ _ e]
    have g5 := ha j (by omega)
    rw [upN_n _ _ (by omega)]; exact g5
set_option maxHeartbeats 2000000 in
set_option maxRecDepth 20000 in
theorem cX2readItem  {c0 : Nat} (hc : c0 = 4 ∨ c0 = 16) (hn : 96 ≤ n) (rc : RCi Rf c0) (xL : Rf 1 0 = some 2) (xN : Rf 1 6 = some 3) {tl : Nat} {tx : Nat → Nat} (htx : txM M tl tx) {T : Nat → Nat} (ht : okT T) (hp : okP T) (h4 : T 4 < 1000) (hm : cyT M c0 T) (m2 : M c0 2 = nI (T 5)) {p : Nat} (hpp : p ≤ tl) (k2 : M 1 2 = nI (tkE tl tx p)) (k3 : M 1 3 = nI (tkC tl tx p)) (k4 : M 1 4 = nI (tkS tl tx p)) : RetE Λ (d + 3) mX2_readItem [.ref 1, .ref c0, .int (nI (T 4))] (n, M, Rf, Lg) (pI n Rf Lg (fun r M' => frR c0 M M' ∧ txM M' tl tx ∧ itP c0 (itm tl tx T p) r M')) 0 0 := by
  refine RetE.of rfl rfl rfl (fun κ o f hin => ?_)
  obtain ⟨z0, z1, z2, z3, z4, z5, z6, z7, z8, z9, z10, z11⟩ := city_shp hc
  obtain ⟨r3, r4, r6, r7, r8, r9, r11, r12, r13, r14, r15⟩ := id rc
  have hxx : ∀ i, i < tl → tx i < 256 := fun i hi => (htx.2.2 i hi).2
  have hcl := tkC_lt (tl := tl) (tx := tx) (p := p) hxx
  refine g_aload_n (pc := 0) o 0 dX2_readItem_0 rfl rfl ?_
  refine g_getI (pc := 1) o flRX2_31 (by first | assumption | rfl) (by first | assumption | omega) dX2_readItem_1 ?_
  rw [k3]
  refine g_istore_n (pc := 4) o 3 dX2_readItem_4 rfl rfl ?_
  refine g_aload_n (pc := 5) o 1 dX2_readItem_5 rfl rfl ?_
  refine g_iload_n (pc := 6) o 3 dX2_readItem_6 rfl rfl ?_
  refine g_iload_n (pc := 7) o 2 dX2_readItem_7 rfl rfl ?_
  refine g_V2i (pc := 8) o lkRX2_44 cmX0_mayComeNext (cX0mayCome hc hn (T := T) m2 hm.2.2.1 hm.2.2.2.1 (by have := ht.2.2.1; omega) (by have := ht.2.2.2.1; omega) h4 (by have := hp.1; omega) (L := tkC tl tx p) (by omega)) (by first | assumption | rfl) (by first | assumption | omega) rfl rfl ⟨Nat.le_refl _, Nat.le_refl _⟩ dX2_readItem_8 ?_
  refine g_if_ne (pc := 11) o 16 dX2_readItem_11 (by decide) (fun q11 => ?_) (fun q11 => ?_)
  · have hmy := bi_nz.mp q11
    obtain ⟨L, eL⟩ : ∃ L, L = tkC tl tx p := ⟨_, rfl⟩
    rw [← eL] at hmy hcl ⊢
    have ei : itm tl tx T p = itmB tl tx T L (prN tl tx T L (hmN L) 0 (tkE tl tx p) (fun _ => 0)) := by unfold itm; rw [← eL, if_pos hmy]
    have loop : ∀ (kf m k pk : Nat) (acc : Nat → Nat) (M1 : HM), fr13 M M1 → txM M1 tl tx → M1 1 2 = nI pk → pk ≤ tl → acc 0 ≤ 255 → (∀ j, j < k → M1 3 j = nI (acc j)) → (∀ j, j < k → chk T L j (acc 0) (acc j) = true ∧ acc j ≤ 255) → prN tl tx T L (hmN L) 0 (tkE tl tx p) (fun _ => 0) = prN tl tx T L m k pk acc → k + m = hmN L → m < kf → G (Λ, κ) 25 [some (.ref 1), some (.ref c0), some (.int (nI (T 4))), some (.int (nI L)), some (.int (nI (hmN L))), some (.int (nI k))] [] (n, M1, Rf, Lg) 0 0 := by
      intro kf
      induction kf with
      | zero => intro m k pk acc M1 hf hx1 t2 hpk ha0 ha hch er h1 h2; exact absurd h2 (by omega)
      | succ kf ih =>
        intro m k pk acc M1 hf hx1 t2 hpk ha0 ha hch er h1 h2
        have hl4 := hmN_le L
        refine g_iload (pc := 25) o dX2_readItem_25 rfl ?_
        refine g_iload (pc := 27) o dX2_readItem_27 rfl ?_
        refine g_icmp_ge (pc := 29) o 76 dX2_readItem_29 (by decide) (fun q29 => ?_) (fun q29 => ?_)
        · have ek : k = hmN L := by have := (le_N (by omega) (by omega) rfl rfl).mp q29; omega
          have em : m = 0 := by omega
          subst em
          refine g_aload_n (pc := 76) o 0 dX2_readItem_76 rfl rfl ?_
          refine g_V0v (pc := 77) o lkRX2_28 cmX2_nextToken (cX2nextToken hn xL (tl := tl) (tx := tx) (p0 := pk) hx1 hpk t2 rfl rfl rfl) (by first | assumption | rfl) (by first | assumption | omega) rfl rfl ⟨Nat.le_refl _, Nat.le_refl _⟩ dX2_readItem_77 ?_
          refine g_aload_n (pc := 80) o 0 dX2_readItem_80 rfl rfl ?_
          refine g_getI (pc := 81) o flRX2_31 (by first | assumption | rfl) (by first | assumption | omega) dX2_readItem_81 ?_
          refine g_bipush (pc := 84) (v := 59) o dX2_readItem_84 (by decide) ?_
          refine g_icmp_eq (pc := 86) o 91 dX2_readItem_86 (by decide) (fun q86 => ?_) (fun q86 => ?_)
          · have g3 : tkC tl tx pk = 59 := (eq_N (b := 59) (by have := tkC_lt (p := pk) hxx; omega) (by decide) rfl rfl).mp q86
            refine g_aload_n (pc := 91) o 1 dX2_readItem_91 rfl rfl ?_
            refine g_iload_n (pc := 92) o 3 dX2_readItem_92 rfl rfl ?_
            refine g_aload_n (pc := 93) o 0 dX2_readItem_93 rfl rfl ?_
            refine g_getR (pc := 94) o flRX2_15 (by first | assumption | rfl) (by first | assumption | omega) (by assumption) dX2_readItem_94 ?_
            refine e_V2v (pc := 97) o lkRX2_59 cmX0_tell (cX0tell (M := setR M1 (nI (tkE tl tx pk)) (nI (tkC tl tx pk)) (nI (tkS tl tx pk)) (tkW tl tx pk (M1 1 5))) hc hn rc ht (hm.kept (fun z g1 g2 => by rw [setR_ne _ _ _ _ _ (by omega), hf z (by omega) (by omega)])) (by rw [setR_ne _ _ _ _ _ (by omega), hf c0 (by omega) (by omega)]; exact m2) (L := L) (n0 := acc 0) (n1 := acc 1) (n2 := acc 2) (n3 := acc 3) hmy (ha 0 (by omega)) (fun z => ha 1 (by omega)) (fun z => ha 2 (by omega)) (fun z => ha 3 (by omega)) (hch 0 (by omega)).1 (fun z => (hch 1 (by omega)).1)) (by first | assumption | rfl) (by first | assumption | omega) rfl rfl ⟨Nat.le_refl _, Nat.le_refl _⟩ dX2_readItem_97 (fun M3 hp3 => ?_)
            obtain ⟨b1, b2, b3⟩ := hp3
            have eI : itm tl tx T p = .inr (tel T L (acc 0) (acc 1) (acc 2) (acc 3), tkE tl tx pk) := by rw [ei, er]; simp only [prN, itmB]; rw [if_pos g3]
            refine g_iconst (pc := 100) (v := 1) o dX2_readItem_100 (by decide) ?_
            exact e_iret (pc := 101) o f dX2_readItem_101 rfl (pI.of ⟨fun z g1 g2 g4 => by rw [b3 z (by omega), setR_ne _ _ _ _ _ g1]; exact hf z g1 g2, ⟨hx1.1, by rw [b3 1 (by omega)]; exact hx1.2.1, fun i hi => by rw [b3 2 (by omega)]; exact hx1.2.2 i hi⟩, by rw [eI]; exact ⟨rfl, b1, b2, by rw [b3 1 (by omega)]; rfl⟩⟩)
          · have g3 : ¬ tkC tl tx pk = 59 := mt (eq_N (b := 59) (by have := tkC_lt (p := pk) hxx; omega) (by decide) rfl rfl).mpr q86
            have eI : itm tl tx T p = .inl (tkS tl tx pk) := by rw [ei, er]; simp only [prN, itmB]; rw [if_neg g3]
            refine g_iconst (pc := 89) (v := 0) o dX2_readItem_89 (by decide) ?_
            exact e_iret (pc := 90) o f dX2_readItem_90 rfl (pI.of ⟨fun z g1 g2 g3 => by rw [setR_ne _ _ _ _ _ g1]; exact hf z g1 g2, hx1.setR _ _ _ _, by rw [eI]; exact ⟨rfl, rfl⟩⟩)
        · have hk1 : k < hmN L := by have := mt (le_N (by omega) (by omega) rfl rfl).mpr q29; omega
          obtain ⟨m, rfl⟩ : ∃ m8, m = m8 + 1 := ⟨m - 1, by omega⟩
          refine g_aload_n (pc := 32) o 0 dX2_readItem_32 rfl rfl ?_
          refine g_V0v (pc := 33) o lkRX2_28 cmX2_nextToken (cX2nextToken hn xL (tl := tl) (tx := tx) (p0 := pk) hx1 hpk t2 rfl rfl rfl) (by first | assumption | rfl) (by first | assumption | omega) rfl rfl ⟨Nat.le_refl _, Nat.le_refl _⟩ dX2_readItem_33 ?_
          skip
          refine g_aload_n (pc := 36) o 0 dX2_readItem_36 rfl rfl ?_
          refine g_getI (pc := 37) o flRX2_31 (by first | assumption | rfl) (by first | assumption | omega) dX2_readItem_37 ?_
          refine g_sipush (pc := 40) (v := 256) o dX2_readItem_40 (by decide) ?_
          refine g_icmp_ne (pc := 43) o 57 dX2_readItem_43 (by decide) (fun q43 => ?_) (fun q43 => ?_)
          · have g1 : ¬ tkC tl tx pk = 256 := mt (eq_N (b := 256) (by have := tkC_lt (p := pk) hxx; omega) (by decide) rfl rfl).mpr q43
            have eI : itm tl tx T p = .inl (tkS tl tx pk) := by rw [ei, er]; simp only [prN]; rw [if_neg (fun q => g1 q.1)]; rfl
            refine g_iconst (pc := 57) (v := 0) o dX2_readItem_57 (by decide) ?_
            exact e_iret (pc := 58) o f dX2_readItem_58 rfl (pI.of ⟨fun z g1 g2 g3 => by rw [setR_ne _ _ _ _ _ g1]; exact hf z g1 g2, hx1.setR _ _ _ _, by rw [eI]; exact ⟨rfl, rfl⟩⟩)
          · have g1 : tkC tl tx pk = 256 := (eq_N (b := 256) (by have := tkC_lt (p := pk) hxx; omega) (by decide) rfl rfl).mp q43
            have hv := tk_num hxx g1 (M1 1 5)
            refine g_aload_n (pc := 46) o 0 dX2_readItem_46 rfl rfl ?_
            refine g_aload_n (pc := 47) o 1 dX2_readItem_47 rfl rfl ?_
            refine g_iload_n (pc := 48) o 3 dX2_readItem_48 rfl rfl ?_
            refine g_iload (pc := 49) o dX2_readItem_49 rfl ?_
            refine g_V3i (pc := 51) o lkRX2_52 cmX2_mayStand (cX2mayStand (M := setR M1 (nI (tkE tl tx pk)) (nI (tkC tl tx pk)) (nI (tkS tl tx pk)) (tkW tl tx pk (M1 1 5))) hc hn ht.1.1 ht.1.2 (show (setR M1 (nI (tkE tl tx pk)) (nI (tkC tl tx pk)) (nI (tkS tl tx pk)) (tkW tl tx pk (M1 1 5))) c0 0 = nI (T 0) from by rw [setR_ne _ _ _ _ _ (by omega), hf c0 (by omega) (by omega)]; exact hm.1) xN (L := L) (k := k) (v := tkV tl tx pk) (n0 := acc 0) (by omega) (by omega) hv.1 (by omega) (fun k0 => ha 0 (by omega) ▸ rfl) (by omega)) (by first | assumption | rfl) (by first | assumption | omega) rfl rfl ⟨Nat.le_refl _, Nat.le_refl _⟩ dX2_readItem_51 ?_
            refine g_if_ne (pc := 54) o 59 dX2_readItem_54 (by decide) (fun q54 => ?_) (fun q54 => ?_)
            · have g2 := bi_nz.mp q54
              refine g_aload_n (pc := 59) o 0 dX2_readItem_59 rfl rfl ?_
              refine g_getR (pc := 60) o flRX2_15 (by first | assumption | rfl) (by first | assumption | omega) (by assumption) dX2_readItem_60 ?_
              refine g_iload (pc := 63) o dX2_readItem_63 rfl ?_
              refine g_aload_n (pc := 65) o 0 dX2_readItem_65 rfl rfl ?_
              refine g_getI (pc := 66) o flRX2_56 (by first | assumption | rfl) (by first | assumption | omega) dX2_readItem_66 ?_
              rw [show (setR M1 (nI (tkE tl tx pk)) (nI (tkC tl tx pk)) (nI (tkS tl tx pk)) (tkW tl tx pk (M1 1 5))) 1 5 = nI (tkV tl tx pk) from hv.1]
              refine g_iast (pc := 69) o (k) (by first | assumption | rfl) (by first | assumption | omega) rfl (by omega) dX2_readItem_69 ?_
              refine g_incN (pc := 70) o (k) dX2_readItem_70 rfl rfl ?_
              refine g_goto (pc := 73) o 25 dX2_readItem_73 (by decide) ?_
              exact ih m (k + 1) (tkE tl tx pk) (upN acc k (tkV tl tx pk)) _ (fun z g3 g4 => by rw [st2_ne _ _ _ g4, setR_ne _ _ _ _ _ g3]; exact hf z g3 g4) ⟨hx1.1, hx1.2.1, hx1.2.2⟩ rfl (tkE_le tx hpk) (by show (if 0 = k then _ else _ : Nat) ≤ 255; split; exact hv.2; exact ha0) (fun j hj => by unfold upN; rw [st2_row]; by_cases e : j = k; rw [if_pos e, if_pos e]; rw [if_neg e, if_neg e]; exact ha j (by omega)) (hstep hch g1 g2 hv.2) (by rw [er]; simp only [prN]; rw [if_pos ⟨g1, g2⟩]) (by omega) (by omega)
            · have g2 := bi_z.mp q54
              have eI : itm tl tx T p = .inl (tkS tl tx pk) := by rw [ei, er]; simp only [prN]; rw [if_neg (fun q => g2 q.2)]; rfl
              refine g_iconst (pc := 57) (v := 0) o dX2_readItem_57 (by decide) ?_
              exact e_iret (pc := 58) o f dX2_readItem_58 rfl (pI.of ⟨fun z g1 g2 g3 => by rw [setR_ne _ _ _ _ _ g1]; exact hf z g1 g2, hx1.setR _ _ _ _, by rw [eI]; exact ⟨rfl, rfl⟩⟩)
    refine g_iload_n (pc := 16) o 3 dX2_readItem_16 rfl rfl ?_
    refine g_S1i (pc := 17) o lkRX2_48 cmX2_howManyNumbers (cX2howMany (L := L) (by omega)) rfl rfl ⟨Nat.le_refl _, Nat.le_refl _⟩ dX2_readItem_17 ?_
    refine g_istore (pc := 20) o dX2_readItem_20 rfl ?_
    refine g_iconst (pc := 22) (v := 0) o dX2_readItem_22 (by decide) ?_
    refine g_istore (pc := 23) o dX2_readItem_23 rfl ?_
    exact loop 5 (hmN L) 0 (tkE tl tx p) (fun _ => 0) M (fun _ _ _ => rfl) htx k2 (tkE_le tx hpp) (by decide) (fun j hj => absurd hj (by omega)) (fun j hj => absurd hj (by omega)) rfl (by omega) (by have := hmN_le L; omega)
  · have hmy := bi_z.mp q11
    have eI : itm tl tx T p = .inl (tkS tl tx p) := by unfold itm; rw [if_neg hmy]
    refine g_iconst (pc := 14) (v := 0) o dX2_readItem_14 (by decide) ?_
    exact e_iret (pc := 15) o f dX2_readItem_15 rfl (pI.of ⟨fun _ _ _ _ => rfl, htx, by rw [eI]; exact ⟨rfl, k4⟩⟩)

def rdP (c0 : Nat) (o : Nat ⊕ (Nat → Nat)) (r : Int32) (M' : HM) : Prop := match o with
  | .inl f => r = -10 - nI f ∧ f ≤ 200
  | .inr T' => r = nI (T' 4) ∧ cyT M' c0 T' ∧ cyR M' c0 T' ∧ okT T' ∧ T' 4 ≤ 200
theorem iniT_ok : okT iniT ∧ okP iniT := by
  have e2 : iniT 2 = 0 := rfl
  have e3 : iniT 3 = 0 := rfl
  refine ⟨⟨⟨by decide, by decide⟩, by decide, by decide, by decide, fun d hd => ?_, fun i hi => ?_, fun i hi => ?_⟩, by decide, fun _ => ⟨rfl, rfl⟩⟩
  · unfold iniT; rw [if_neg (by omega), if_neg (by omega), if_neg (by omega), if_pos (by omega)]; decide
  · rw [e2] at hi; omega
  · rw [e3] at hi; omega
theorem prN_f {tl : Nat} {tx : Nat → Nat} {T : Nat → Nat} {L : Nat} {f : Nat} : ∀ (m k p : Nat) (acc : Nat → Nat), p ≤ tl → prN tl tx T L m k p acc = .inl f → f ≤ tl := by
  intro m
  induction m with
  | zero => intro k p acc hp h; cases h
  | succ m ih =>
    intro k p acc hp h
    simp only [prN] at h
    split at h
    · exact ih _ _ _ (tkE_le tx hp) h
    · cases h; exact tkS_le tx hp
theorem itm_f {tl : Nat} {tx : Nat → Nat} {T : Nat → Nat} {p f : Nat} (hx : ∀ i, i < tl → tx i < 256) (hp : p ≤ tl) (h : itm tl tx T p = .inl f) : f ≤ tl := by
  unfold itm at h
  by_cases hm : may T (tkC tl tx p) = true
  · rw [if_pos hm] at h
    cases e : prN tl tx T (tkC tl tx p) (hmN (tkC tl tx p)) 0 (tkE tl tx p) (fun _ => 0) with
    | inl f1 =>
      rw [e] at h
      simp only [itmB] at h
      cases h
      exact prN_f _ _ _ _ (tkE_le tx hp) e
    | inr x =>
      obtain ⟨acc, q1⟩ := x
      rw [e] at h
      obtain ⟨a1, a2, a3⟩ := prN_ok hx _ _ _ _ _ _ (tkE_le tx hp) (fun j hj => absurd hj (by omega)) e
      simp only [itmB] at h
      split at h
      · cases h
      · cases h; exact tkS_le tx a3
  · rw [if_neg hm] at h; cases h; exact tkS_le tx hp
set_option maxHeartbeats 2000000 in
set_option maxRecDepth 20000 in
theorem cX2readInto  {c0 : Nat} (hc : c0 = 4 ∨ c0 = 16) (hn : 96 ≤ n) (rc : RCi Rf c0) (xL : Rf 1 0 = some 2) (xN : Rf 1 6 = some 3) {tl : Nat} {tx : Nat → Nat} (htx : txM M tl tx) : RetE Λ (d + 4) mX2_readInto [.ref 1, .ref c0] (n, M, Rf, Lg) (pI n Rf Lg (fun r M' => frR c0 M M' ∧ txM M' tl tx ∧ rdP c0 (rdT tl tx (tl + 1) iniT 0) r M')) 0 0 := by
  refine RetE.of rfl rfl rfl (fun κ o f hin => ?_)
  obtain ⟨z0, z1, z2, z3, z4, z5, z6, z7, z8, z9, z10, z11⟩ := city_shp hc
  obtain ⟨r3, r4, r6, r7, r8, r9, r11, r12, r13, r14, r15⟩ := id rc
  have hxx : ∀ i, i < tl → tx i < 256 := fun i hi => (htx.2.2 i hi).2
  have hx0 : txM (st2 (rstC M c0 4) 1 2 0) tl tx := ⟨htx.1, by rw [st2_ne2 _ _ (by omega), rstC_ne _ _ _ (by omega)]; exact htx.2.1, fun i hi => by rw [st2_ne _ _ _ (by omega), rstC_ne _ _ _ (by omega)]; exact htx.2.2 i hi⟩
  have loop : ∀ (kf fu : Nat) (T : Nat → Nat) (p : Nat) (M1 : HM), frR c0 M M1 → txM M1 tl tx → okT T → okP T → cyT M1 c0 T → M1 c0 2 = nI (T 5) → p ≤ tl → T 4 ≤ p → M1 1 2 = nI (tkE tl tx p) → M1 1 3 = nI (tkC tl tx p) → M1 1 4 = nI (tkS tl tx p) → rdT tl tx (tl + 1) iniT 0 = rdT tl tx fu T p → tl - p < fu → tl - p < kf → G (Λ, κ) 15 [some (.ref 1), some (.ref c0), some (.int (nI (T 4)))] [] (n, M1, Rf, Lg) 0 0 := by
    intro kf
    induction kf with
    | zero => intro fu T p M1 hf hx1 hot hop hmx m2 hpp h4p k2 k3 k4 er h1 h2; exact absurd h2 (by omega)
    | succ kf ih =>
      intro fu T p M1 hf hx1 hot hop hmx m2 hpp h4p k2 k3 k4 er h1 h2
      have htl := htx.1
      refine g_iload_n (pc := 15) o 2 dX2_readInto_15 rfl rfl ?_
      refine g_sipush (pc := 16) (v := 200) o dX2_readInto_16 (by decide) ?_
      refine g_icmp_gt (pc := 19) o 65 dX2_readInto_19 (by decide) (fun q19 => ?_) (fun q19 => ?_)
      · exact absurd ((lt_N (a := 200) (by decide) (by omega) rfl rfl).mp q19) (by omega)
      · skip
        refine g_aload_n (pc := 22) o 0 dX2_readInto_22 rfl rfl ?_
        refine g_getI (pc := 23) o flRX2_31 (by first | assumption | rfl) (by first | assumption | omega) dX2_readInto_23 ?_
        refine g_sipush (pc := 26) (v := 258) o dX2_readInto_26 (by decide) ?_
        refine g_icmp_ne (pc := 29) o 38 dX2_readInto_29 (by decide) (fun q29 => ?_) (fun q29 => ?_)
        · have g1 : ¬ tkC tl tx p = 258 := mt (eq_N (b := 258) (by have := tkC_lt (p := p) hxx; omega) (by decide) k3 rfl).mpr q29
          obtain ⟨f9, rfl⟩ : ∃ f9, fu = f9 + 1 := ⟨fu - 1, by omega⟩
          refine g_aload_n (pc := 38) o 0 dX2_readInto_38 rfl rfl ?_
          refine g_aload_n (pc := 39) o 1 dX2_readInto_39 rfl rfl ?_
          refine g_iload_n (pc := 40) o 2 dX2_readInto_40 rfl rfl ?_
          refine e_V2i (pc := 41) o lkRX2_37 cmX2_readItem (cX2readItem hc hn rc xL xN hx1 hot hop (by omega) hmx m2 hpp k2 k3 k4) (by first | assumption | rfl) (by first | assumption | omega) rfl rfl ⟨Nat.le_refl _, Nat.le_refl _⟩ dX2_readInto_41 (fun r M2 hp2 => ?_)
          obtain ⟨b1, b2, b3⟩ := hp2
          have hf2 : frR c0 M M2 := fun z g1 g2 g3 => by rw [b1 z g1 g2 g3]; exact hf z g1 g2 g3
          cases eI : itm tl tx T p with
          | inl fe => 
            rw [eI] at b3
            obtain ⟨rfl, b5⟩ := b3
            have hfe := itm_f hxx hpp eI
            have eR : rdT tl tx (tl + 1) iniT 0 = .inl fe := by rw [er]; simp only [rdT]; rw [if_neg g1, eI]
            refine g_if_ne (pc := 44) o 55 dX2_readInto_44 (by decide) (fun q44 => ?_) (fun q44 => ?_)
            · exact absurd rfl q44
            · refine g_bipush (pc := 47) (v := -10) o dX2_readInto_47 (by decide) ?_
              refine g_aload_n (pc := 49) o 0 dX2_readInto_49 rfl rfl ?_
              refine g_getI (pc := 50) o flRX2_41 (by first | assumption | rfl) (by first | assumption | omega) dX2_readInto_50 ?_
              refine g_isub (pc := 53) o dX2_readInto_53 ?_
              exact e_iret (pc := 54) o f dX2_readInto_54 rfl (pI.of ⟨hf2, b2, by rw [eR]; exact ⟨by rw [b5], by have := htx.1; omega⟩⟩)
          | inr x =>
            obtain ⟨T2, q⟩ := x
            rw [eI] at b3
            obtain ⟨rfl, b5, b6, b7⟩ := b3
            obtain ⟨o1, o2, o3, o4, o5⟩ := itm_ok hxx hpp hot hop eI
            have eR : rdT tl tx (tl + 1) iniT 0 = rdT tl tx f9 T2 q := by rw [er]; simp only [rdT]; rw [if_neg g1, eI]
            refine g_if_ne (pc := 44) o 55 dX2_readInto_44 (by decide) (fun q44 => ?_) (fun q44 => ?_)
            · refine g_aload_n (pc := 55) o 0 dX2_readInto_55 rfl rfl ?_
              refine g_V0v (pc := 56) o lkRX2_28 cmX2_nextToken (cX2nextToken hn xL (tl := tl) (tx := tx) (p0 := q) b2 o4 b7 rfl rfl rfl) (by first | assumption | rfl) (by first | assumption | omega) rfl rfl ⟨Nat.le_refl _, Nat.le_refl _⟩ dX2_readInto_56 ?_
              refine g_incN (pc := 59) o (T 4) dX2_readInto_59 rfl rfl ?_
              rw [← o5]
              refine g_goto (pc := 62) o 15 dX2_readInto_62 (by decide) ?_
              exact ih f9 T2 q _ (fun z g1 g2 g3 => by rw [setR_ne _ _ _ _ _ g1]; exact hf2 z g1 g2 g3) (b2.setR _ _ _ _) o1 o2 (b5.kept (fun z g1 g2 => setR_ne _ _ _ _ _ (by omega))) (by rw [setR_ne _ _ _ _ _ (by omega)]; exact b6) o4 (by omega) rfl rfl rfl eR (by omega) (by omega)
            · exact absurd q44 (by decide)
        · have g1 : tkC tl tx p = 258 := (eq_N (b := 258) (by have := tkC_lt (p := p) hxx; omega) (by decide) k3 rfl).mp q29
          obtain ⟨f9, rfl⟩ : ∃ f9, fu = f9 + 1 := ⟨fu - 1, by omega⟩
          have eR : rdT tl tx (tl + 1) iniT 0 = .inr T := by rw [er]; simp only [rdT]; rw [if_pos g1]
          refine g_aload_n (pc := 32) o 1 dX2_readInto_32 rfl rfl ?_
          refine e_V0v (pc := 33) o lkRX2_34 cmX0_settle (cX0settle hc hn rc hot hmx) (by first | assumption | rfl) (by first | assumption | omega) rfl rfl ⟨Nat.le_refl _, Nat.le_refl _⟩ dX2_readInto_33 (fun M2 hp2 => ?_)
          obtain ⟨b1, b2, b3⟩ := hp2
          refine g_iload_n (pc := 36) o 2 dX2_readInto_36 rfl rfl ?_
          exact e_iret (pc := 37) o f dX2_readInto_37 rfl (pI.of ⟨fun z g1 g2 g3 => by rw [b3 z (by omega)]; exact hf z g1 g2 g3, ⟨hx1.1, by rw [b3 1 (by omega)]; exact hx1.2.1, fun i hi => by rw [b3 2 (by omega)]; exact hx1.2.2 i hi⟩, by rw [eR]; exact ⟨rfl, b1, b2, hot, by omega⟩⟩)
  refine g_aload_n (pc := 0) o 1 dX2_readInto_0 rfl rfl ?_
  refine g_V0v (pc := 1) o lkRX2_19 cmX0_restart (cX0restart hc hn rc) (by first | assumption | rfl) (by first | assumption | omega) rfl rfl ⟨Nat.le_refl _, Nat.le_refl _⟩ dX2_readInto_1 ?_
  skip
  refine g_aload_n (pc := 4) o 0 dX2_readInto_4 rfl rfl ?_
  refine g_iconst (pc := 5) (v := 0) o dX2_readInto_5 (by decide) ?_
  refine g_putI (pc := 6) o flRX2_24 rfl (by first | assumption | rfl) (by first | assumption | omega) rfl rfl dX2_readInto_6 ?_
  refine g_aload_n (pc := 9) o 0 dX2_readInto_9 rfl rfl ?_
  refine g_V0v (pc := 10) o lkRX2_28 cmX2_nextToken (cX2nextToken (M := st2 (rstC M c0 4) 1 2 0) hn xL (tl := tl) (tx := tx) (p0 := 0) hx0 (by omega) rfl rfl rfl rfl) (by first | assumption | rfl) (by first | assumption | omega) rfl rfl ⟨Nat.le_refl _, Nat.le_refl _⟩ dX2_readInto_10 ?_
  refine g_iconst (pc := 13) (v := 0) o dX2_readInto_13 (by decide) ?_
  refine g_istore_n (pc := 14) o 2 dX2_readInto_14 rfl rfl ?_
  exact loop (tl + 1) (tl + 1) iniT 0 _ (fun z g1 g2 g3 => by rw [setR_ne _ _ _ _ _ g1, st2_ne _ _ _ g1, rstC_ne _ _ _ (by omega)]) (hx0.setR _ _ _ _) iniT_ok.1 iniT_ok.2 ((rst_cy M c0).1.kept (fun z g1 g2 => by rw [setR_ne _ _ _ _ _ (by omega), st2_ne _ _ _ (by omega)])) (by rw [setR_ne _ _ _ _ _ (by omega), st2_ne _ _ _ (by omega)]; exact (rst_cy M c0).2) (by omega) (by decide) rfl rfl rfl rfl (by omega) (by omega)

end M16
