section M38
variable {Λ : PL} {d n : Nat} {M : HM} {Rf : HR} {Lg : HL}

/-- nothing but the search's own has changed -/
def frS (M M' : HM) : Prop := (∀ z, z ≠ 96 → z ≠ 100 → z ≠ 106 → z ≠ 107 → z ≠ 108 → M' z = M z) ∧ ∀ j, j ≠ 25 → M' 96 j = M 96 j
theorem frS.refl (M : HM) : frS M M := ⟨fun _ _ _ _ _ _ => rfl, fun _ _ => rfl⟩
theorem frS.trans {A B C : HM} (h : frS A B) (g : frS B C) : frS A C := ⟨fun z a b c e f => (g.1 z a b c e f).trans (h.1 z a b c e f), fun j a => (g.2 j a).trans (h.2 j a)⟩
theorem frS.st {M : HM} {z k : Nat} (v : Int32) (h : z = 100 ∨ z = 106 ∨ z = 107 ∨ z = 108) : frS M (st2 M z k v) := ⟨fun y _ b c e f => st2_ne _ _ _ (by omega), fun j _ => by rw [st2_ne _ _ _ (by omega)]⟩
theorem frS.st25 {M : HM} (v : Int32) : frS M (st2 M 96 25 v) := ⟨fun y a _ _ _ _ => st2_ne _ _ _ a, fun j a => by rw [st2_ne2 _ _ (by omega)]⟩
theorem frS.row {M : HM} {z N : Nat} {f : Nat → Int32} (h : z = 100 ∨ z = 106 ∨ z = 107 ∨ z = 108) : frS M (rowM M z N f) := ⟨fun y _ b c e g => by funext j; exact rowM_ne _ _ _ (by omega) j, fun j _ => rowM_ne _ _ _ (by omega) j⟩
theorem frS.blk {M : HM} {z o N : Nat} {f : Nat → Int32} (h : z = 100 ∨ z = 106 ∨ z = 107 ∨ z = 108) : frS M (blkM M z o N f) := ⟨fun y _ b c e g => by funext j; exact blkM_ne _ _ _ _ (by omega) j, fun j _ => blkM_ne _ _ _ _ (by omega) j⟩
/-- fewest and best -/
def FB (M : HM) (nn : Nat) (st : SkT) : Prop := match st with
  | none => M 96 25 = -9
  | some (f, L) => M 96 25 = nI f ∧ f < 1000 ∧ ∀ i, i < nn → M 108 i = nI (L.getD i 0)
theorem FB.kept {M M' : HM} {nn : Nat} {st : SkT} (h : FB M nn st) (e1 : M' 96 25 = M 96 25) (e2 : M' 108 = M 108) : FB M' nn st := by
  cases st with
  | none => exact e1.trans h
  | some v => exact ⟨e1.trans h.1, h.2.1, fun i hi => by rw [e2]; exact h.2.2 i hi⟩
/-- the rows of the search below depth e -/
def TA (M : HM) (e : Nat) (pre : List Nat) (Ss : Nat → Nat → Nat) : Prop := (∀ i, i < e → M 107 i = nI (pre.getD i 0)) ∧ ∀ i, i ≤ e → ∀ j, j < 21 → M 106 (21 * i + j) = nI (Ss i j)
def SI (M0 M : HM) (T : Nat → Nat) (e nn : Nat) (pre : List Nat) (Ss : Nat → Nat → Nat) (st : SkT) : Prop := frS M0 M ∧ mR M 100 21 (Ss e) ∧ FB M nn st ∧ TA M e pre Ss
theorem FB_n {M : HM} {nn : Nat} {st : SkT} (h : FB M nn st) (q : M 96 25 = -9) : st = none := by
  cases st with
  | none => rfl
  | some v => have h1 := h.1; rw [q] at h1; exact absurd h1.symm (ne9 h.2.1)
theorem FB_s {M : HM} {nn : Nat} {st : SkT} (h : FB M nn st) (q : ¬ M 96 25 = -9) : ∃ f L, st = some (f, L) ∧ M 96 25 = nI f ∧ f < 1000 := by
  cases st with
  | none => exact absurd h q
  | some v => exact ⟨v.1, v.2, rfl, h.1, h.2.1⟩
theorem getD_a {pre : List Nat} {c i : Nat} (h : i < pre.length) : (pre ++ [c]).getD i 0 = pre.getD i 0 := by
  simp [List.getD, List.getElem?_append_left h]
theorem getD_e {pre : List Nat} {c i : Nat} (h : pre.length = i) : (pre ++ [c]).getD i 0 = c := by
  subst h; simp [List.getD]
theorem lm_add1 (c : Nat) : lm c + 1 = nI c := by
  unfold lm
  rw [Int32.sub_add_cancel]
theorem lm_lt {c : Nat} (h : c < 1000) : lm c < 0 ↔ c = 0 := by
  have h0 : (0 : Int32).toInt = 0 := by decide
  rw [Int32.lt_iff_toInt_lt, lm_int c h, h0]
  omega

set_option maxHeartbeats 2000000 in
set_option maxRecDepth 20000 in
theorem cX4seeks {b : Nat} {T S : Nat → Nat} (mb : MB M Rf n T S b) (hb1 : b ≤ 1000) {dl : Nat} (mf : MF M 63 (-9) (-9) (-9) dl) {nn : Nat} (hn1 : 1 ≤ nn) (hn3 : nn ≤ 3) : RetE Λ (d + 3) mX4_seeks [.ref 96, .int (nI nn)] (n, M, Rf, Lg) (pV n Rf Lg (fun M' => frS M M' ∧ mR M' 100 21 S ∧ FB M' nn ((fCU T S nn).map (fun L => (nn * T 1, L))))) 0 0 := by
  refine RetE.of rfl rfl rfl (fun κ o f hin => ?_)
  obtain ⟨rm, hn, ht, hT, hS, os, hb9⟩ := id mb
  obtain ⟨y1, y3, y4, y5, y6, y8, y9, y10, y21, y22, y23, y24⟩ := id rm
  obtain ⟨⟨t0, t0b⟩, t1, t2, t3, tD, tC, tN⟩ := id ht
  obtain ⟨os0, os1, os2, osc⟩ := id os
  have p64 : 2 ^ T 2 ≤ 64 := show 2 ^ T 2 ≤ 2 ^ 6 from Nat.pow_le_pow_right (by decide) t2
  have p1 : 1 ≤ 2 ^ T 2 := Nat.pow_pos (by decide)
  have level : ∀ (m e base : Nat) (pre : List Nat) (Ss : Nat → Nat → Nat) (hSg : ∀ i, i < T 2 → Ss e (3 + i) ≤ 20), okS (Ss e) (T 2) (b + e) → e + (m + 1) = nn → pre.length = e → base ≤ 8 * e → ∀ (k c : Nat) (st : SkT) (M1 : HM) (sm : Int32) (x5 x6 x7), c ≤ 2 ^ T 2 → 2 ^ T 2 < c + k → SI M M1 T e nn pre Ss st → M1 107 e = lm c → sm = nI base + (if c = 0 then 0 else nI (pop (c - 1))) → (∀ (M' : HM) (x5 x6 x7), frS M M' → FB M' nn (fld (fun c st => if T 1 ≤ skW T dl ⟨Ss e, hSg⟩ c ∧ okst st (base + pop c) = true then (if m = 0 then some (base + pop c, pre ++ [c]) else skN (T 1) (2 ^ T 2) (skW T dl) (skX ht.2.2.1 dl) m (skX ht.2.2.1 dl ⟨Ss e, hSg⟩ c) (base + pop c) (pre ++ [c]) st) else st) c (2 ^ T 2 - c) st) → (∀ i, i < e → M' 107 i = nI (pre.getD i 0)) → (∀ i, i ≤ e → ∀ j, j < 21 → M' 106 (21 * i + j) = nI (Ss i j)) → mR M' 100 21 (Ss (e - 1)) → G (Λ, κ) 34 [some (.ref 96), some (.int (nI nn)), some (.int (nI (2 ^ T 2 - 1))), some (.int (lm e)), some (.int (nI base)), x5, x6, x7] [] (n, M', Rf, Lg) 0 0) → G (Λ, κ) 34 [some (.ref 96), some (.int (nI nn)), some (.int (nI (2 ^ T 2 - 1))), some (.int (nI e)), some (.int (sm)), x5, x6, x7] [] (n, M1, Rf, Lg) 0 0 := by
    intro m
    induction m with
    | zero =>
      intro e base pre Ss hSg hok hem hpl hbs k
      induction k with
      | zero => intro c st M1 sm x5 x6 x7 h1 h2; exact absurd h2 (by omega)
      | succ k ih =>
        intro c st M1 sm x5 x6 x7 h1 h2 hsi h107 hsm cont
        obtain ⟨hfr, hrow, hfb, hta⟩ := id hsi
        have rest : G (Λ, κ) 63 [some (.ref 96), some (.int (nI nn)), some (.int (nI (2 ^ T 2 - 1))), some (.int (nI e)), some (.int (sm)), x5, x6, x7] [.int (nI base)] (n, M1, Rf, Lg) 0 0 := by
          refine g_istore (pc := 63) o dX4_seeks_63 rfl ?_
          refine g_aload_n (pc := 65) o 0 dX4_seeks_65 rfl rfl ?_
          refine g_getR (pc := 66) o flRX4_54 rfl (by omega) y23 dX4_seeks_66 ?_
          refine g_iload_n (pc := 69) o 3 dX4_seeks_69 rfl rfl ?_
          refine g_dup2 (pc := 70) o dX4_seeks_70 rfl rfl ?_
          refine g_iald (pc := 71) o (e) rfl (by omega) rfl (by omega) dX4_seeks_71 ?_
          rw [h107]
          refine g_iconst (pc := 72) (v := 1) o dX4_seeks_72 (by decide) ?_
          refine g_iadd (pc := 73) o dX4_seeks_73 ?_
          rw [lm_add1]
          refine g_iast (pc := 74) o (e) rfl (by omega) rfl (by omega) dX4_seeks_74 ?_
          refine g_aload_n (pc := 75) o 0 dX4_seeks_75 rfl rfl ?_
          refine g_getR (pc := 76) o flRX4_54 rfl (by omega) y23 dX4_seeks_76 ?_
          refine g_iload_n (pc := 79) o 3 dX4_seeks_79 rfl rfl ?_
          refine g_iald (pc := 80) o (e) rfl (by omega) rfl (by omega) dX4_seeks_80 ?_
          rw [st2_same]
          refine g_iload_n (pc := 81) o 2 dX4_seeks_81 rfl rfl ?_
          refine g_icmp_le (pc := 82) o 100 dX4_seeks_82 (by decide) (fun q82 => ?_) (fun q82 => ?_)
          · have hcN : c < 2 ^ T 2 := by have := (le_N (a := c) (b := 2 ^ T 2 - 1) (by omega) (by omega) rfl rfl).mp q82; omega
            have mb2 : MB (st2 M1 107 e (nI c)) Rf n T (Ss e) (b + e) := ⟨rm, hn, ht, hT.kept (by rw [st2_ne _ _ _ (by decide)]; exact hfr.1 98 (by decide) (by decide) (by decide) (by decide) (by decide)), hrow.kept (st2_ne _ _ _ (by decide)), hok, by omega⟩
            have mf2 : MF (st2 M1 107 e (nI c)) 63 (-9) (-9) (-9) dl := mf.kept (fun j h1 h2 => by rw [st2_ne _ _ _ (by decide)]; exact hfr.2 j (by omega))
            have hs64 := sl64 (S := Ss e) (dl := dl) (c := c) ht
            have hpc := pop_le c
            have hps := pop_le (sl T dl (Ss e) c)
            have hfb2 : FB (st2 M1 107 e (nI c)) nn st := hfb.kept (by rw [st2_ne _ _ _ (by decide)]) (st2_ne _ _ _ (by decide))
            have hst2 : frS M (st2 M1 107 e (nI c)) := hfr.trans (frS.st _ (by omega))
            have hfld : ∀ s, fld (fun c st => if T 1 ≤ skW T dl ⟨Ss e, hSg⟩ c ∧ okst st (base + pop c) = true then (if 0 = 0 then some (base + pop c, pre ++ [c]) else skN (T 1) (2 ^ T 2) (skW T dl) (skX ht.2.2.1 dl) (0) (skX ht.2.2.1 dl ⟨Ss e, hSg⟩ c) (base + pop c) (pre ++ [c]) st) else st) c (2 ^ T 2 - c) s = fld (fun c st => if T 1 ≤ skW T dl ⟨Ss e, hSg⟩ c ∧ okst st (base + pop c) = true then (if 0 = 0 then some (base + pop c, pre ++ [c]) else skN (T 1) (2 ^ T 2) (skW T dl) (skX ht.2.2.1 dl) (0) (skX ht.2.2.1 dl ⟨Ss e, hSg⟩ c) (base + pop c) (pre ++ [c]) st) else st) (c + 1) (2 ^ T 2 - (c + 1)) ((fun c st => if T 1 ≤ skW T dl ⟨Ss e, hSg⟩ c ∧ okst st (base + pop c) = true then (if 0 = 0 then some (base + pop c, pre ++ [c]) else skN (T 1) (2 ^ T 2) (skW T dl) (skX ht.2.2.1 dl) (0) (skX ht.2.2.1 dl ⟨Ss e, hSg⟩ c) (base + pop c) (pre ++ [c]) st) else st) c s) := fun s => by rw [show 2 ^ T 2 - c = (2 ^ T 2 - (c + 1)) + 1 by omega]; rfl
            have hta2 : TA (st2 M1 107 e (nI c)) e pre Ss := ⟨fun i hi => by rw [st2_ne2 _ _ (by omega)]; exact hta.1 i hi, fun i hi j hj => by rw [st2_ne _ _ _ (by decide)]; exact hta.2 i hi j hj⟩
            have again : (fun c st => if T 1 ≤ skW T dl ⟨Ss e, hSg⟩ c ∧ okst st (base + pop c) = true then (if 0 = 0 then some (base + pop c, pre ++ [c]) else skN (T 1) (2 ^ T 2) (skW T dl) (skX ht.2.2.1 dl) (0) (skX ht.2.2.1 dl ⟨Ss e, hSg⟩ c) (base + pop c) (pre ++ [c]) st) else st) c st = st → ∀ y5 y6 y7, G (Λ, κ) 34 [some (.ref 96), some (.int (nI nn)), some (.int (nI (2 ^ T 2 - 1))), some (.int (nI e)), some (.int (nI (base + pop c))), y5, y6, y7] [] (n, (st2 M1 107 e (nI c)), Rf, Lg) 0 0 := fun he y5 y6 y7 => ih (c + 1) st (st2 M1 107 e (nI c)) _ _ _ _ (by omega) (by omega) ⟨hst2, hrow.kept (st2_ne _ _ _ (by decide)), hfb2, hta2⟩ (by rw [st2_same, lm_s]) (by rw [if_neg (by omega), show c + 1 - 1 = c by omega, nI_add]) (by have hc9 := cont; rw [hfld st, he] at hc9; exact hc9)
            refine g_iload (pc := 100) o dX4_seeks_100 rfl ?_
            refine g_aload_n (pc := 102) o 0 dX4_seeks_102 rfl rfl ?_
            refine g_getR (pc := 103) o flRX4_54 rfl (by omega) y23 dX4_seeks_103 ?_
            refine g_iload_n (pc := 106) o 3 dX4_seeks_106 rfl rfl ?_
            refine g_iald (pc := 107) o (e) rfl (by omega) rfl (by omega) dX4_seeks_107 ?_
            rw [st2_same]
            refine g_S1i (pc := 108) o lkRX4_155 cmX4_ones (cX4ones (w := c) (by omega)) rfl rfl ⟨Nat.le_refl _, Nat.le_refl _⟩ dX4_seeks_108 ?_
            refine g_iadd (pc := 111) o dX4_seeks_111 ?_
            rw [nI_add]
            refine g_istore (pc := 112) o dX4_seeks_112 rfl ?_
            refine g_aload_n (pc := 114) o 0 dX4_seeks_114 rfl rfl ?_
            refine g_aload_n (pc := 115) o 0 dX4_seeks_115 rfl rfl ?_
            refine g_getR (pc := 116) o flRX4_54 rfl (by omega) y23 dX4_seeks_116 ?_
            refine g_iload_n (pc := 119) o 3 dX4_seeks_119 rfl rfl ?_
            refine g_iald (pc := 120) o (e) rfl (by omega) rfl (by omega) dX4_seeks_120 ?_
            rw [st2_same]
            refine g_V1i (pc := 121) o lkRX4_162 cmX4_asleep (cX4asleep mb2 mf2 (by omega)) rfl (by omega) rfl rfl ⟨Nat.le_refl _, Nat.le_refl _⟩ dX4_seeks_121 ?_
            refine g_istore (pc := 124) o dX4_seeks_124 rfl ?_
            refine g_iload (pc := 126) o dX4_seeks_126 rfl ?_
            refine g_S1i (pc := 128) o lkRX4_155 cmX4_ones (cX4ones (w := (sl T dl (Ss e) c)) (by omega)) rfl rfl ⟨Nat.le_refl _, Nat.le_refl _⟩ dX4_seeks_128 ?_
            refine g_aload_n (pc := 131) o 0 dX4_seeks_131 rfl rfl ?_
            refine g_getR (pc := 132) o flRX4_13 rfl (by omega) y3 dX4_seeks_132 ?_
            refine g_iconst (pc := 135) (v := 1) o dX4_seeks_135 (by decide) ?_
            refine g_iald (pc := 136) o (1) rfl (by omega) rfl (by omega) dX4_seeks_136 ?_
            refine g_icmp_lt (pc := 137) o 162 dX4_seeks_137 (by decide) (fun q137 => ?_) (fun q137 => ?_)
            · have g1 : pop (sl T dl (Ss e) c) < T 1 := (lt_N (b := T 1) (by omega) (by omega) rfl (mb2.2.2.2.1 1 (by decide))).mp q137
              have he : (fun c st => if T 1 ≤ skW T dl ⟨Ss e, hSg⟩ c ∧ okst st (base + pop c) = true then (if 0 = 0 then some (base + pop c, pre ++ [c]) else skN (T 1) (2 ^ T 2) (skW T dl) (skX ht.2.2.1 dl) (0) (skX ht.2.2.1 dl ⟨Ss e, hSg⟩ c) (base + pop c) (pre ++ [c]) st) else st) c st = st := if_neg (fun h => absurd h.1 (show ¬ T 1 ≤ pop (sl T dl (Ss e) c) by omega))
              refine g_iconst (pc := 162) (v := 0) o dX4_seeks_162 (by decide) ?_
              refine g_istore (pc := 163) o dX4_seeks_163 rfl ?_
              refine g_iload (pc := 165) o dX4_seeks_165 rfl ?_
              refine g_if_eq (pc := 167) o 215 dX4_seeks_167 (by decide) (fun q167 => ?_) (fun q167 => ?_)
              · refine g_iload (pc := 215) o dX4_seeks_215 rfl ?_
                refine g_if_eq (pc := 217) o 242 dX4_seeks_217 (by decide) (fun q217 => ?_) (fun q217 => ?_)
                · refine g_goto (pc := 242) o 34 dX4_seeks_242 (by decide) ?_
                  first | exact again he _ _ _ | exact cont _ _ _ _ (hfr.trans (frS.st _ (by omega))) (by rw [hz]; exact hfb.kept (by rw [st2_ne _ _ _ (by decide)]) (st2_ne _ _ _ (by decide))) (fun i hi => absurd hi (by omega)) (fun i hi j hj => by rw [st2_ne _ _ _ (by decide)]; exact hta.2 i hi j hj) (by rw [e0]; rw [e0] at hrow; exact hrow.kept (st2_ne _ _ _ (by decide))) | (rw [← lm_s a]; exact cont _ _ _ _ ((hfr.trans (frS.st _ (by omega))).trans (frS.row (by omega))) (by rw [hz]; exact hfb.kept (by rw [rowM_ne _ _ _ (by decide), st2_ne _ _ _ (by decide)]) (by funext j; rw [rowM_ne _ _ _ (by decide), st2_ne _ _ _ (by decide)])) (fun i hi => by rw [rowM_ne _ _ _ (by decide), st2_ne2 _ _ (by omega)]; exact hta.1 i hi) (fun i hi j hj => by rw [rowM_ne _ _ _ (by decide), st2_ne _ _ _ (by decide)]; exact hta.2 i hi j hj) (fun j hj => by rw [rowM_in _ _ _ hj, st2_ne _ _ _ (by decide)]; exact hta.2 a (by omega) j hj))
                · exact absurd (by decide) q217
              · exact absurd (by decide) q167
            · have g1 : T 1 ≤ pop (sl T dl (Ss e) c) := by have := mt (lt_N (a := pop (sl T dl (Ss e) c)) (b := T 1) (by omega) (by omega) rfl (mb2.2.2.2.1 1 (by decide))).mpr q137; omega
              refine g_aload_n (pc := 140) o 0 dX4_seeks_140 rfl rfl ?_
              refine g_getI (pc := 141) o flRX4_177 rfl (by omega) dX4_seeks_141 ?_
              refine g_bipush (pc := 144) (v := -9) o dX4_seeks_144 (by decide) ?_
              refine g_icmp_eq (pc := 146) o 158 dX4_seeks_146 (by decide) (fun q146 => ?_) (fun q146 => ?_)
              · have hst := FB_n hfb2 q146
                have hok2 : okst st (base + pop c) = true := by rw [hst]; rfl
                refine g_iconst (pc := 158) (v := 1) o dX4_seeks_158 (by decide) ?_
                refine g_goto (pc := 159) o 163 dX4_seeks_159 (by decide) ?_
                refine g_istore (pc := 163) o dX4_seeks_163 rfl ?_
                refine g_iload (pc := 165) o dX4_seeks_165 rfl ?_
                refine g_if_eq (pc := 167) o 215 dX4_seeks_167 (by decide) (fun q167 => ?_) (fun q167 => ?_)
                · exact absurd q167 (by decide)
                · refine g_iload_n (pc := 170) o 3 dX4_seeks_170 rfl rfl ?_
                  refine g_iconst (pc := 171) (v := 1) o dX4_seeks_171 (by decide) ?_
                  refine g_iadd (pc := 172) o dX4_seeks_172 ?_
                  rw [show nI e + 1 = nI (e + 1) from (nI_succ e).symm]
                  refine g_iload_n (pc := 173) o 1 dX4_seeks_173 rfl rfl ?_
                  refine g_icmp_ne (pc := 174) o 215 dX4_seeks_174 (by decide) (fun q174 => ?_) (fun q174 => ?_)
                  · exact absurd (show nI (e + 1) = nI nn from by rw [show e + 1 = nn by omega]) q174
                  · have he : (fun c st => if T 1 ≤ skW T dl ⟨Ss e, hSg⟩ c ∧ okst st (base + pop c) = true then (if 0 = 0 then some (base + pop c, pre ++ [c]) else skN (T 1) (2 ^ T 2) (skW T dl) (skX ht.2.2.1 dl) (0) (skX ht.2.2.1 dl ⟨Ss e, hSg⟩ c) (base + pop c) (pre ++ [c]) st) else st) c st = some (base + pop c, pre ++ [c]) := by show (if _ then _ else _) = _; rw [if_pos ⟨g1, hok2⟩, if_pos rfl]
                    have lf : ∀ k i : Nat, i ≤ nn → nn < i + k → G (Λ, κ) 186 [some (.ref 96), some (.int (nI nn)), some (.int (nI (2 ^ T 2 - 1))), some (.int (nI e)), some (.int (nI (base + pop c))), some (.int (nI (sl T dl (Ss e) c))), some (.int 1), some (.int (nI i))] [] (n, rowM (st2 (st2 M1 107 e (nI c)) 96 25 (nI (base + pop c))) 108 i (fun j => (st2 (st2 M1 107 e (nI c)) 96 25 (nI (base + pop c))) 107 j), Rf, Lg) 0 0 := by
                      intro k
                      induction k with
                      | zero => intro i h1 h2; exact absurd h2 (by omega)
                      | succ k ihl =>
                        intro i h1 h2
                        refine g_iload (pc := 186) o dX4_seeks_186 rfl ?_
                        refine g_iload_n (pc := 188) o 1 dX4_seeks_188 rfl rfl ?_
                        refine g_icmp_ge (pc := 189) o 212 dX4_seeks_189 (by decide) (fun q189 => ?_) (fun q189 => ?_)
                        · have ec : i = nn := by have := (le_N (a := nn) (b := i) (by omega) (by omega) rfl rfl).mp q189; omega
                          refine g_goto (pc := 212) o 242 dX4_seeks_212 (by decide) ?_
                          refine g_goto (pc := 242) o 34 dX4_seeks_242 (by decide) ?_
                          exact ih (c + 1) (some (base + pop c, pre ++ [c])) _ _ _ _ _ (by omega) (by omega) ⟨(hst2.trans (frS.st25 _)).trans (frS.row (by omega)), hrow.kept (by funext j; rw [rowM_ne _ _ _ (by decide), st2_ne _ _ _ (by decide), st2_ne _ _ _ (by decide)]), ⟨by rw [rowM_ne _ _ _ (by decide), st2_same], by omega, fun j hj => by rw [ec, rowM_in _ _ _ hj, st2_ne _ _ _ (by decide)]; by_cases q : j = e; subst q; rw [st2_same, getD_e hpl]; rw [st2_ne2 _ _ (by omega), getD_a (by omega)]; exact hta.1 j (by omega)⟩, ⟨fun j hj => by rw [rowM_ne _ _ _ (by decide), st2_ne _ _ _ (by decide)]; exact hta2.1 j hj, fun j hj k hk => by rw [rowM_ne _ _ _ (by decide), st2_ne _ _ _ (by decide)]; exact hta2.2 j hj k hk⟩⟩ (by rw [rowM_ne _ _ _ (by decide), st2_ne _ _ _ (by decide), st2_same, lm_s]) (by rw [if_neg (by omega), show c + 1 - 1 = c by omega, nI_add]) (by have hc9 := cont; rw [hfld st, he] at hc9; exact hc9)
                        · have hc1 : i < nn := by have := mt (le_N (a := nn) (b := i) (by omega) (by omega) rfl rfl).mpr q189; omega
                          refine g_aload_n (pc := 192) o 0 dX4_seeks_192 rfl rfl ?_
                          refine g_getR (pc := 193) o flRX4_57 rfl (by omega) y24 dX4_seeks_193 ?_
                          refine g_iload (pc := 196) o dX4_seeks_196 rfl ?_
                          refine g_aload_n (pc := 198) o 0 dX4_seeks_198 rfl rfl ?_
                          refine g_getR (pc := 199) o flRX4_54 rfl (by omega) y23 dX4_seeks_199 ?_
                          refine g_iload (pc := 202) o dX4_seeks_202 rfl ?_
                          refine g_iald (pc := 204) o (i) rfl (by omega) rfl (by omega) dX4_seeks_204 ?_
                          refine g_iast (pc := 205) o (i) rfl (by omega) rfl (by omega) dX4_seeks_205 ?_
                          refine g_incN (pc := 206) o (i) dX4_seeks_206 rfl rfl ?_
                          refine g_goto (pc := 209) o 186 dX4_seeks_209 (by decide) ?_
                          exact g_eq rfl rfl rfl (hp_M (rowM_s _ 108 i _ (rowM_ne _ _ _ (by decide) _))) (ihl (i + 1) (by omega) (by omega))
                    refine g_aload_n (pc := 177) o 0 dX4_seeks_177 rfl rfl ?_
                    refine g_iload (pc := 178) o dX4_seeks_178 rfl ?_
                    refine g_putI (pc := 180) o flRX4_177 rfl rfl (by omega) rfl rfl dX4_seeks_180 ?_
                    refine g_iconst (pc := 183) (v := 0) o dX4_seeks_183 (by decide) ?_
                    refine g_istore (pc := 184) o dX4_seeks_184 rfl ?_
                    have h9 := lf (nn + 1) 0 (by omega) (by omega)
                    rw [rowM_0] at h9
                    exact h9
              · obtain ⟨f9, L9, hst, hf9, hf10⟩ := FB_s hfb2 q146
                refine g_iload (pc := 149) o dX4_seeks_149 rfl ?_
                refine g_aload_n (pc := 151) o 0 dX4_seeks_151 rfl rfl ?_
                refine g_getI (pc := 152) o flRX4_177 rfl (by omega) dX4_seeks_152 ?_
                refine g_icmp_ge (pc := 155) o 162 dX4_seeks_155 (by decide) (fun q155 => ?_) (fun q155 => ?_)
                · have g2 := (le_N (a := f9) (b := base + pop c) (by omega) (by omega) hf9 rfl).mp q155
                  have he : (fun c st => if T 1 ≤ skW T dl ⟨Ss e, hSg⟩ c ∧ okst st (base + pop c) = true then (if 0 = 0 then some (base + pop c, pre ++ [c]) else skN (T 1) (2 ^ T 2) (skW T dl) (skX ht.2.2.1 dl) (0) (skX ht.2.2.1 dl ⟨Ss e, hSg⟩ c) (base + pop c) (pre ++ [c]) st) else st) c st = st := if_neg (fun h => absurd h.2 (by rw [hst]; simp [okst]; omega))
                  refine g_iconst (pc := 162) (v := 0) o dX4_seeks_162 (by decide) ?_
                  refine g_istore (pc := 163) o dX4_seeks_163 rfl ?_
                  refine g_iload (pc := 165) o dX4_seeks_165 rfl ?_
                  refine g_if_eq (pc := 167) o 215 dX4_seeks_167 (by decide) (fun q167 => ?_) (fun q167 => ?_)
                  · refine g_iload (pc := 215) o dX4_seeks_215 rfl ?_
                    refine g_if_eq (pc := 217) o 242 dX4_seeks_217 (by decide) (fun q217 => ?_) (fun q217 => ?_)
                    · refine g_goto (pc := 242) o 34 dX4_seeks_242 (by decide) ?_
                      first | exact again he _ _ _ | exact cont _ _ _ _ (hfr.trans (frS.st _ (by omega))) (by rw [hz]; exact hfb.kept (by rw [st2_ne _ _ _ (by decide)]) (st2_ne _ _ _ (by decide))) (fun i hi => absurd hi (by omega)) (fun i hi j hj => by rw [st2_ne _ _ _ (by decide)]; exact hta.2 i hi j hj) (by rw [e0]; rw [e0] at hrow; exact hrow.kept (st2_ne _ _ _ (by decide))) | (rw [← lm_s a]; exact cont _ _ _ _ ((hfr.trans (frS.st _ (by omega))).trans (frS.row (by omega))) (by rw [hz]; exact hfb.kept (by rw [rowM_ne _ _ _ (by decide), st2_ne _ _ _ (by decide)]) (by funext j; rw [rowM_ne _ _ _ (by decide), st2_ne _ _ _ (by decide)])) (fun i hi => by rw [rowM_ne _ _ _ (by decide), st2_ne2 _ _ (by omega)]; exact hta.1 i hi) (fun i hi j hj => by rw [rowM_ne _ _ _ (by decide), st2_ne _ _ _ (by decide)]; exact hta.2 i hi j hj) (fun j hj => by rw [rowM_in _ _ _ hj, st2_ne _ _ _ (by decide)]; exact hta.2 a (by omega) j hj))
                    · exact absurd (by decide) q217
                  · exact absurd (by decide) q167
                · have g2 := mt (le_N (a := f9) (b := base + pop c) (by omega) (by omega) hf9 rfl).mpr q155
                  have hok2 : okst st (base + pop c) = true := by rw [hst]; simp [okst]; omega
                  refine g_iconst (pc := 158) (v := 1) o dX4_seeks_158 (by decide) ?_
                  refine g_goto (pc := 159) o 163 dX4_seeks_159 (by decide) ?_
                  refine g_istore (pc := 163) o dX4_seeks_163 rfl ?_
                  refine g_iload (pc := 165) o dX4_seeks_165 rfl ?_
                  refine g_if_eq (pc := 167) o 215 dX4_seeks_167 (by decide) (fun q167 => ?_) (fun q167 => ?_)
                  · exact absurd q167 (by decide)
                  · refine g_iload_n (pc := 170) o 3 dX4_seeks_170 rfl rfl ?_
                    refine g_iconst (pc := 171) (v := 1) o dX4_seeks_171 (by decide) ?_
                    refine g_iadd (pc := 172) o dX4_seeks_172 ?_
                    rw [show nI e + 1 = nI (e + 1) from (nI_succ e).symm]
                    refine g_iload_n (pc := 173) o 1 dX4_seeks_173 rfl rfl ?_
                    refine g_icmp_ne (pc := 174) o 215 dX4_seeks_174 (by decide) (fun q174 => ?_) (fun q174 => ?_)
                    · exact absurd (show nI (e + 1) = nI nn from by rw [show e + 1 = nn by omega]) q174
                    · have he : (fun c st => if T 1 ≤ skW T dl ⟨Ss e, hSg⟩ c ∧ okst st (base + pop c) = true then (if 0 = 0 then some (base + pop c, pre ++ [c]) else skN (T 1) (2 ^ T 2) (skW T dl) (skX ht.2.2.1 dl) (0) (skX ht.2.2.1 dl ⟨Ss e, hSg⟩ c) (base + pop c) (pre ++ [c]) st) else st) c st = some (base + pop c, pre ++ [c]) := by show (if _ then _ else _) = _; rw [if_pos ⟨g1, hok2⟩, if_pos rfl]
                      have lf : ∀ k i : Nat, i ≤ nn → nn < i + k → G (Λ, κ) 186 [some (.ref 96), some (.int (nI nn)), some (.int (nI (2 ^ T 2 - 1))), some (.int (nI e)), some (.int (nI (base + pop c))), some (.int (nI (sl T dl (Ss e) c))), some (.int 1), some (.int (nI i))] [] (n, rowM (st2 (st2 M1 107 e (nI c)) 96 25 (nI (base + pop c))) 108 i (fun j => (st2 (st2 M1 107 e (nI c)) 96 25 (nI (base + pop c))) 107 j), Rf, Lg) 0 0 := by
                        intro k
                        induction k with
                        | zero => intro i h1 h2; exact absurd h2 (by omega)
                        | succ k ihl =>
                          intro i h1 h2
                          refine g_iload (pc := 186) o dX4_seeks_186 rfl ?_
                          refine g_iload_n (pc := 188) o 1 dX4_seeks_188 rfl rfl ?_
                          refine g_icmp_ge (pc := 189) o 212 dX4_seeks_189 (by decide) (fun q189 => ?_) (fun q189 => ?_)
                          · have ec : i = nn := by have := (le_N (a := nn) (b := i) (by omega) (by omega) rfl rfl).mp q189; omega
                            refine g_goto (pc := 212) o 242 dX4_seeks_212 (by decide) ?_
                            refine g_goto (pc := 242) o 34 dX4_seeks_242 (by decide) ?_
                            exact ih (c + 1) (some (base + pop c, pre ++ [c])) _ _ _ _ _ (by omega) (by omega) ⟨(hst2.trans (frS.st25 _)).trans (frS.row (by omega)), hrow.kept (by funext j; rw [rowM_ne _ _ _ (by decide), st2_ne _ _ _ (by decide), st2_ne _ _ _ (by decide)]), ⟨by rw [rowM_ne _ _ _ (by decide), st2_same], by omega, fun j hj => by rw [ec, rowM_in _ _ _ hj, st2_ne _ _ _ (by decide)]; by_cases q : j = e; subst q; rw [st2_same, getD_e hpl]; rw [st2_ne2 _ _ (by omega), getD_a (by omega)]; exact hta.1 j (by omega)⟩, ⟨fun j hj => by rw [rowM_ne _ _ _ (by decide), st2_ne _ _ _ (by decide)]; exact hta2.1 j hj, fun j hj k hk => by rw [rowM_ne _ _ _ (by decide), st2_ne _ _ _ (by decide)]; exact hta2.2 j hj k hk⟩⟩ (by rw [rowM_ne _ _ _ (by decide), st2_ne _ _ _ (by decide), st2_same, lm_s]) (by rw [if_neg (by omega), show c + 1 - 1 = c by omega, nI_add]) (by have hc9 := cont; rw [hfld st, he] at hc9; exact hc9)
                          · have hc1 : i < nn := by have := mt (le_N (a := nn) (b := i) (by omega) (by omega) rfl rfl).mpr q189; omega
                            refine g_aload_n (pc := 192) o 0 dX4_seeks_192 rfl rfl ?_
                            refine g_getR (pc := 193) o flRX4_57 rfl (by omega) y24 dX4_seeks_193 ?_
                            refine g_iload (pc := 196) o dX4_seeks_196 rfl ?_
                            refine g_aload_n (pc := 198) o 0 dX4_seeks_198 rfl rfl ?_
                            refine g_getR (pc := 199) o flRX4_54 rfl (by omega) y23 dX4_seeks_199 ?_
                            refine g_iload (pc := 202) o dX4_seeks_202 rfl ?_
                            refine g_iald (pc := 204) o (i) rfl (by omega) rfl (by omega) dX4_seeks_204 ?_
                            refine g_iast (pc := 205) o (i) rfl (by omega) rfl (by omega) dX4_seeks_205 ?_
                            refine g_incN (pc := 206) o (i) dX4_seeks_206 rfl rfl ?_
                            refine g_goto (pc := 209) o 186 dX4_seeks_209 (by decide) ?_
                            exact g_eq rfl rfl rfl (hp_M (rowM_s _ 108 i _ (rowM_ne _ _ _ (by decide) _))) (ihl (i + 1) (by omega) (by omega))
                      refine g_aload_n (pc := 177) o 0 dX4_seeks_177 rfl rfl ?_
                      refine g_iload (pc := 178) o dX4_seeks_178 rfl ?_
                      refine g_putI (pc := 180) o flRX4_177 rfl rfl (by omega) rfl rfl dX4_seeks_180 ?_
                      refine g_iconst (pc := 183) (v := 0) o dX4_seeks_183 (by decide) ?_
                      refine g_istore (pc := 184) o dX4_seeks_184 rfl ?_
                      have h9 := lf (nn + 1) 0 (by omega) (by omega)
                      rw [rowM_0] at h9
                      exact h9
          · have hcN : c = 2 ^ T 2 := by have := mt (le_N (a := c) (b := 2 ^ T 2 - 1) (by omega) (by omega) rfl rfl).mpr q82; omega
            have hz : fld (fun c st => if T 1 ≤ skW T dl ⟨Ss e, hSg⟩ c ∧ okst st (base + pop c) = true then (if 0 = 0 then some (base + pop c, pre ++ [c]) else skN (T 1) (2 ^ T 2) (skW T dl) (skX ht.2.2.1 dl) (0) (skX ht.2.2.1 dl ⟨Ss e, hSg⟩ c) (base + pop c) (pre ++ [c]) st) else st) c (2 ^ T 2 - c) st = st := by rw [hcN, Nat.sub_self]; rfl
            refine g_iinc (pc := 85) o dX4_seeks_85 rfl ?_
            rw [lm_dec e]
            refine g_iload_n (pc := 88) o 3 dX4_seeks_88 rfl rfl ?_
            refine g_if_lt (pc := 89) o 34 dX4_seeks_89 (by decide) (fun q89 => ?_) (fun q89 => ?_)
            · have e0 : e = 0 := (lm_lt (by omega)).mp q89
              first | exact again he _ _ _ | exact cont _ _ _ _ (hfr.trans (frS.st _ (by omega))) (by rw [hz]; exact hfb.kept (by rw [st2_ne _ _ _ (by decide)]) (st2_ne _ _ _ (by decide))) (fun i hi => absurd hi (by omega)) (fun i hi j hj => by rw [st2_ne _ _ _ (by decide)]; exact hta.2 i hi j hj) (by rw [e0]; rw [e0] at hrow; exact hrow.kept (st2_ne _ _ _ (by decide))) | (rw [← lm_s a]; exact cont _ _ _ _ ((hfr.trans (frS.st _ (by omega))).trans (frS.row (by omega))) (by rw [hz]; exact hfb.kept (by rw [rowM_ne _ _ _ (by decide), st2_ne _ _ _ (by decide)]) (by funext j; rw [rowM_ne _ _ _ (by decide), st2_ne _ _ _ (by decide)])) (fun i hi => by rw [rowM_ne _ _ _ (by decide), st2_ne2 _ _ (by omega)]; exact hta.1 i hi) (fun i hi j hj => by rw [rowM_ne _ _ _ (by decide), st2_ne _ _ _ (by decide)]; exact hta.2 i hi j hj) (fun j hj => by rw [rowM_in _ _ _ hj, st2_ne _ _ _ (by decide)]; exact hta.2 a (by omega) j hj))
            · have e0 : ¬ e = 0 := mt (lm_lt (by omega)).mpr q89
              obtain ⟨a, rfl⟩ : ∃ a, e = a + 1 := ⟨e - 1, by omega⟩
              rw [lm_s a]
              refine g_aload_n (pc := 92) o 0 dX4_seeks_92 rfl rfl ?_
              refine g_iload_n (pc := 93) o 3 dX4_seeks_93 rfl rfl ?_
              refine g_V1v (pc := 94) o lkRX4_184 cmX4_takes (cX4takes rm hn (p := a) (by omega)) rfl (by omega) rfl rfl ⟨Nat.le_refl _, Nat.le_refl _⟩ dX4_seeks_94 ?_
              refine g_goto (pc := 97) o 34 dX4_seeks_97 (by decide) ?_
              first | exact again he _ _ _ | exact cont _ _ _ _ (hfr.trans (frS.st _ (by omega))) (by rw [hz]; exact hfb.kept (by rw [st2_ne _ _ _ (by decide)]) (st2_ne _ _ _ (by decide))) (fun i hi => absurd hi (by omega)) (fun i hi j hj => by rw [st2_ne _ _ _ (by decide)]; exact hta.2 i hi j hj) (by rw [e0]; rw [e0] at hrow; exact hrow.kept (st2_ne _ _ _ (by decide))) | (rw [← lm_s a]; exact cont _ _ _ _ ((hfr.trans (frS.st _ (by omega))).trans (frS.row (by omega))) (by rw [hz]; exact hfb.kept (by rw [rowM_ne _ _ _ (by decide), st2_ne _ _ _ (by decide)]) (by funext j; rw [rowM_ne _ _ _ (by decide), st2_ne _ _ _ (by decide)])) (fun i hi => by rw [rowM_ne _ _ _ (by decide), st2_ne2 _ _ (by omega)]; exact hta.1 i hi) (fun i hi j hj => by rw [rowM_ne _ _ _ (by decide), st2_ne _ _ _ (by decide)]; exact hta.2 i hi j hj) (fun j hj => by rw [rowM_in _ _ _ hj, st2_ne _ _ _ (by decide)]; exact hta.2 a (by omega) j hj))
        refine g_iload_n (pc := 34) o 3 dX4_seeks_34 rfl rfl ?_
        refine g_if_lt (pc := 35) o 245 dX4_seeks_35 (by decide) (fun q35 => ?_) (fun q35 => ?_)
        · exact absurd ((lt_N (b := 0) (by omega) (by decide) rfl rfl).mp q35) (by omega)
        · refine g_iload (pc := 38) o dX4_seeks_38 rfl ?_
          refine g_aload_n (pc := 40) o 0 dX4_seeks_40 rfl rfl ?_
          refine g_getR (pc := 41) o flRX4_54 rfl (by omega) y23 dX4_seeks_41 ?_
          refine g_iload_n (pc := 44) o 3 dX4_seeks_44 rfl rfl ?_
          refine g_iald (pc := 45) o (e) rfl (by omega) rfl (by omega) dX4_seeks_45 ?_
          rw [h107]
          refine g_if_ge (pc := 46) o 53 dX4_seeks_46 (by decide) (fun q46 => ?_) (fun q46 => ?_)
          · have c0 : ¬ c = 0 := fun h => by rw [h] at q46; exact absurd q46 (by decide)
            obtain ⟨a, rfl⟩ : ∃ a, c = a + 1 := ⟨c - 1, by omega⟩
            have hsum : sm - nI (pop a) = nI base := by rw [hsm, if_neg c0, show a + 1 - 1 = a by omega]; exact Int32.add_sub_cancel _ _
            refine g_aload_n (pc := 53) o 0 dX4_seeks_53 rfl rfl ?_
            refine g_getR (pc := 54) o flRX4_54 rfl (by omega) y23 dX4_seeks_54 ?_
            refine g_iload_n (pc := 57) o 3 dX4_seeks_57 rfl rfl ?_
            refine g_iald (pc := 58) o (e) rfl (by omega) rfl (by omega) dX4_seeks_58 ?_
            rw [h107, lm_s]
            refine g_S1i (pc := 59) o lkRX4_155 cmX4_ones (cX4ones (w := a) (by omega)) rfl rfl ⟨Nat.le_refl _, Nat.le_refl _⟩ dX4_seeks_59 ?_
            refine g_isub (pc := 62) o dX4_seeks_62 ?_
            rw [hsum]
            exact rest
          · have c0 : c = 0 := by
              by_cases q : c = 0
              · exact q
              · exact absurd (by obtain ⟨a, rfl⟩ : ∃ a, c = a + 1 := ⟨c - 1, by omega⟩; rw [lm_s]; exact (le_N (a := 0) (by decide) (by omega) rfl rfl).mpr (by omega)) q46
            have hsum : sm - 0 = nI base := by rw [hsm, if_pos c0]; simp
            refine g_iconst (pc := 49) (v := 0) o dX4_seeks_49 (by decide) ?_
            refine g_goto (pc := 50) o 62 dX4_seeks_50 (by decide) ?_
            refine g_isub (pc := 62) o dX4_seeks_62 ?_
            rw [hsum]
            exact rest
    | succ m ihm =>
      intro e base pre Ss hSg hok hem hpl hbs k
      induction k with
      | zero => intro c st M1 sm x5 x6 x7 h1 h2; exact absurd h2 (by omega)
      | succ k ih =>
        intro c st M1 sm x5 x6 x7 h1 h2 hsi h107 hsm cont
        obtain ⟨hfr, hrow, hfb, hta⟩ := id hsi
        have rest : G (Λ, κ) 63 [some (.ref 96), some (.int (nI nn)), some (.int (nI (2 ^ T 2 - 1))), some (.int (nI e)), some (.int (sm)), x5, x6, x7] [.int (nI base)] (n, M1, Rf, Lg) 0 0 := by
          refine g_istore (pc := 63) o dX4_seeks_63 rfl ?_
          refine g_aload_n (pc := 65) o 0 dX4_seeks_65 rfl rfl ?_
          refine g_getR (pc := 66) o flRX4_54 rfl (by omega) y23 dX4_seeks_66 ?_
          refine g_iload_n (pc := 69) o 3 dX4_seeks_69 rfl rfl ?_
          refine g_dup2 (pc := 70) o dX4_seeks_70 rfl rfl ?_
          refine g_iald (pc := 71) o (e) rfl (by omega) rfl (by omega) dX4_seeks_71 ?_
          rw [h107]
          refine g_iconst (pc := 72) (v := 1) o dX4_seeks_72 (by decide) ?_
          refine g_iadd (pc := 73) o dX4_seeks_73 ?_
          rw [lm_add1]
          refine g_iast (pc := 74) o (e) rfl (by omega) rfl (by omega) dX4_seeks_74 ?_
          refine g_aload_n (pc := 75) o 0 dX4_seeks_75 rfl rfl ?_
          refine g_getR (pc := 76) o flRX4_54 rfl (by omega) y23 dX4_seeks_76 ?_
          refine g_iload_n (pc := 79) o 3 dX4_seeks_79 rfl rfl ?_
          refine g_iald (pc := 80) o (e) rfl (by omega) rfl (by omega) dX4_seeks_80 ?_
          rw [st2_same]
          refine g_iload_n (pc := 81) o 2 dX4_seeks_81 rfl rfl ?_
          refine g_icmp_le (pc := 82) o 100 dX4_seeks_82 (by decide) (fun q82 => ?_) (fun q82 => ?_)
          · have hcN : c < 2 ^ T 2 := by have := (le_N (a := c) (b := 2 ^ T 2 - 1) (by omega) (by omega) rfl rfl).mp q82; omega
            have mb2 : MB (st2 M1 107 e (nI c)) Rf n T (Ss e) (b + e) := ⟨rm, hn, ht, hT.kept (by rw [st2_ne _ _ _ (by decide)]; exact hfr.1 98 (by decide) (by decide) (by decide) (by decide) (by decide)), hrow.kept (st2_ne _ _ _ (by decide)), hok, by omega⟩
            have mf2 : MF (st2 M1 107 e (nI c)) 63 (-9) (-9) (-9) dl := mf.kept (fun j h1 h2 => by rw [st2_ne _ _ _ (by decide)]; exact hfr.2 j (by omega))
            have hs64 := sl64 (S := Ss e) (dl := dl) (c := c) ht
            have hpc := pop_le c
            have hps := pop_le (sl T dl (Ss e) c)
            have hfb2 : FB (st2 M1 107 e (nI c)) nn st := hfb.kept (by rw [st2_ne _ _ _ (by decide)]) (st2_ne _ _ _ (by decide))
            have hst2 : frS M (st2 M1 107 e (nI c)) := hfr.trans (frS.st _ (by omega))
            have hfld : ∀ s, fld (fun c st => if T 1 ≤ skW T dl ⟨Ss e, hSg⟩ c ∧ okst st (base + pop c) = true then (if (m + 1) = 0 then some (base + pop c, pre ++ [c]) else skN (T 1) (2 ^ T 2) (skW T dl) (skX ht.2.2.1 dl) ((m + 1)) (skX ht.2.2.1 dl ⟨Ss e, hSg⟩ c) (base + pop c) (pre ++ [c]) st) else st) c (2 ^ T 2 - c) s = fld (fun c st => if T 1 ≤ skW T dl ⟨Ss e, hSg⟩ c ∧ okst st (base + pop c) = true then (if (m + 1) = 0 then some (base + pop c, pre ++ [c]) else skN (T 1) (2 ^ T 2) (skW T dl) (skX ht.2.2.1 dl) ((m + 1)) (skX ht.2.2.1 dl ⟨Ss e, hSg⟩ c) (base + pop c) (pre ++ [c]) st) else st) (c + 1) (2 ^ T 2 - (c + 1)) ((fun c st => if T 1 ≤ skW T dl ⟨Ss e, hSg⟩ c ∧ okst st (base + pop c) = true then (if (m + 1) = 0 then some (base + pop c, pre ++ [c]) else skN (T 1) (2 ^ T 2) (skW T dl) (skX ht.2.2.1 dl) ((m + 1)) (skX ht.2.2.1 dl ⟨Ss e, hSg⟩ c) (base + pop c) (pre ++ [c]) st) else st) c s) := fun s => by rw [show 2 ^ T 2 - c = (2 ^ T 2 - (c + 1)) + 1 by omega]; rfl
            have hta2 : TA (st2 M1 107 e (nI c)) e pre Ss := ⟨fun i hi => by rw [st2_ne2 _ _ (by omega)]; exact hta.1 i hi, fun i hi j hj => by rw [st2_ne _ _ _ (by decide)]; exact hta.2 i hi j hj⟩
            have again : (fun c st => if T 1 ≤ skW T dl ⟨Ss e, hSg⟩ c ∧ okst st (base + pop c) = true then (if (m + 1) = 0 then some (base + pop c, pre ++ [c]) else skN (T 1) (2 ^ T 2) (skW T dl) (skX ht.2.2.1 dl) ((m + 1)) (skX ht.2.2.1 dl ⟨Ss e, hSg⟩ c) (base + pop c) (pre ++ [c]) st) else st) c st = st → ∀ y5 y6 y7, G (Λ, κ) 34 [some (.ref 96), some (.int (nI nn)), some (.int (nI (2 ^ T 2 - 1))), some (.int (nI e)), some (.int (nI (base + pop c))), y5, y6, y7] [] (n, (st2 M1 107 e (nI c)), Rf, Lg) 0 0 := fun he y5 y6 y7 => ih (c + 1) st (st2 M1 107 e (nI c)) _ _ _ _ (by omega) (by omega) ⟨hst2, hrow.kept (st2_ne _ _ _ (by decide)), hfb2, hta2⟩ (by rw [st2_same, lm_s]) (by rw [if_neg (by omega), show c + 1 - 1 = c by omega, nI_add]) (by have hc9 := cont; rw [hfld st, he] at hc9; exact hc9)
            refine g_iload (pc := 100) o dX4_seeks_100 rfl ?_
            refine g_aload_n (pc := 102) o 0 dX4_seeks_102 rfl rfl ?_
            refine g_getR (pc := 103) o flRX4_54 rfl (by omega) y23 dX4_seeks_103 ?_
            refine g_iload_n (pc := 106) o 3 dX4_seeks_106 rfl rfl ?_
            refine g_iald (pc := 107) o (e) rfl (by omega) rfl (by omega) dX4_seeks_107 ?_
            rw [st2_same]
            refine g_S1i (pc := 108) o lkRX4_155 cmX4_ones (cX4ones (w := c) (by omega)) rfl rfl ⟨Nat.le_refl _, Nat.le_refl _⟩ dX4_seeks_108 ?_
            refine g_iadd (pc := 111) o dX4_seeks_111 ?_
            rw [nI_add]
            refine g_istore (pc := 112) o dX4_seeks_112 rfl ?_
            refine g_aload_n (pc := 114) o 0 dX4_seeks_114 rfl rfl ?_
            refine g_aload_n (pc := 115) o 0 dX4_seeks_115 rfl rfl ?_
            refine g_getR (pc := 116) o flRX4_54 rfl (by omega) y23 dX4_seeks_116 ?_
            refine g_iload_n (pc := 119) o 3 dX4_seeks_119 rfl rfl ?_
            refine g_iald (pc := 120) o (e) rfl (by omega) rfl (by omega) dX4_seeks_120 ?_
            rw [st2_same]
            refine g_V1i (pc := 121) o lkRX4_162 cmX4_asleep (cX4asleep mb2 mf2 (by omega)) rfl (by omega) rfl rfl ⟨Nat.le_refl _, Nat.le_refl _⟩ dX4_seeks_121 ?_
            refine g_istore (pc := 124) o dX4_seeks_124 rfl ?_
            refine g_iload (pc := 126) o dX4_seeks_126 rfl ?_
            refine g_S1i (pc := 128) o lkRX4_155 cmX4_ones (cX4ones (w := (sl T dl (Ss e) c)) (by omega)) rfl rfl ⟨Nat.le_refl _, Nat.le_refl _⟩ dX4_seeks_128 ?_
            refine g_aload_n (pc := 131) o 0 dX4_seeks_131 rfl rfl ?_
            refine g_getR (pc := 132) o flRX4_13 rfl (by omega) y3 dX4_seeks_132 ?_
            refine g_iconst (pc := 135) (v := 1) o dX4_seeks_135 (by decide) ?_
            refine g_iald (pc := 136) o (1) rfl (by omega) rfl (by omega) dX4_seeks_136 ?_
            refine g_icmp_lt (pc := 137) o 162 dX4_seeks_137 (by decide) (fun q137 => ?_) (fun q137 => ?_)
            · have g1 : pop (sl T dl (Ss e) c) < T 1 := (lt_N (b := T 1) (by omega) (by omega) rfl (mb2.2.2.2.1 1 (by decide))).mp q137
              have he : (fun c st => if T 1 ≤ skW T dl ⟨Ss e, hSg⟩ c ∧ okst st (base + pop c) = true then (if (m + 1) = 0 then some (base + pop c, pre ++ [c]) else skN (T 1) (2 ^ T 2) (skW T dl) (skX ht.2.2.1 dl) ((m + 1)) (skX ht.2.2.1 dl ⟨Ss e, hSg⟩ c) (base + pop c) (pre ++ [c]) st) else st) c st = st := if_neg (fun h => absurd h.1 (show ¬ T 1 ≤ pop (sl T dl (Ss e) c) by omega))
              refine g_iconst (pc := 162) (v := 0) o dX4_seeks_162 (by decide) ?_
              refine g_istore (pc := 163) o dX4_seeks_163 rfl ?_
              refine g_iload (pc := 165) o dX4_seeks_165 rfl ?_
              refine g_if_eq (pc := 167) o 215 dX4_seeks_167 (by decide) (fun q167 => ?_) (fun q167 => ?_)
              · refine g_iload (pc := 215) o dX4_seeks_215 rfl ?_
                refine g_if_eq (pc := 217) o 242 dX4_seeks_217 (by decide) (fun q217 => ?_) (fun q217 => ?_)
                refine g_goto (pc := 242) o 34 dX4_seeks_242 (by decide) ?_
                exact again he _ _ _
                · exact absurd (by decide) q217
              · exact absurd (by decide) q167
            · have g1 : T 1 ≤ pop (sl T dl (Ss e) c) := by have := mt (lt_N (a := pop (sl T dl (Ss e) c)) (b := T 1) (by omega) (by omega) rfl (mb2.2.2.2.1 1 (by decide))).mpr q137; omega
              refine g_aload_n (pc := 140) o 0 dX4_seeks_140 rfl rfl ?_
              refine g_getI (pc := 141) o flRX4_177 rfl (by omega) dX4_seeks_141 ?_
              refine g_bipush (pc := 144) (v := -9) o dX4_seeks_144 (by decide) ?_
              refine g_icmp_eq (pc := 146) o 158 dX4_seeks_146 (by decide) (fun q146 => ?_) (fun q146 => ?_)
              · have hst := FB_n hfb2 q146
                have hok2 : okst st (base + pop c) = true := by rw [hst]; rfl
                refine g_iconst (pc := 158) (v := 1) o dX4_seeks_158 (by decide) ?_
                refine g_goto (pc := 159) o 163 dX4_seeks_159 (by decide) ?_
                refine g_istore (pc := 163) o dX4_seeks_163 rfl ?_
                refine g_iload (pc := 165) o dX4_seeks_165 rfl ?_
                refine g_if_eq (pc := 167) o 215 dX4_seeks_167 (by decide) (fun q167 => ?_) (fun q167 => ?_)
                · exact absurd q167 (by decide)
                · refine g_iload_n (pc := 170) o 3 dX4_seeks_170 rfl rfl ?_
                  refine g_iconst (pc := 171) (v := 1) o dX4_seeks_171 (by decide) ?_
                  refine g_iadd (pc := 172) o dX4_seeks_172 ?_
                  rw [show nI e + 1 = nI (e + 1) from (nI_succ e).symm]
                  refine g_iload_n (pc := 173) o 1 dX4_seeks_173 rfl rfl ?_
                  refine g_icmp_ne (pc := 174) o 215 dX4_seeks_174 (by decide) (fun q174 => ?_) (fun q174 => ?_)
                  · have he : (fun c st => if T 1 ≤ skW T dl ⟨Ss e, hSg⟩ c ∧ okst st (base + pop c) = true then (if (m + 1) = 0 then some (base + pop c, pre ++ [c]) else skN (T 1) (2 ^ T 2) (skW T dl) (skX ht.2.2.1 dl) ((m + 1)) (skX ht.2.2.1 dl ⟨Ss e, hSg⟩ c) (base + pop c) (pre ++ [c]) st) else st) c st = skN (T 1) (2 ^ T 2) (skW T dl) (skX ht.2.2.1 dl) (m + 1) (skX ht.2.2.1 dl ⟨Ss e, hSg⟩ c) (base + pop c) (pre ++ [c]) st := by show (if _ then _ else _) = _; rw [if_pos ⟨g1, hok2⟩, if_neg (by omega)]
                    obtain ⟨Ss', s1, s2⟩ : ∃ Ss' : Nat → Nat → Nat, Ss' (e + 1) = stepS T (Ss e) (sl T dl (Ss e) c) ∧ ∀ i, i ≤ e → Ss' i = Ss i := ⟨fun i => if i = e + 1 then stepS T (Ss e) (sl T dl (Ss e) c) else Ss i, if_pos rfl, fun i hi => if_neg (by omega)⟩
                    have hSg' : ∀ i, i < T 2 → Ss' (e + 1) (3 + i) ≤ 20 := by rw [s1]; exact sg_nx t2 ⟨Ss e, hSg⟩ _
                    have hX : (⟨Ss' (e + 1), hSg'⟩ : Sg T) = skX ht.2.2.1 dl ⟨Ss e, hSg⟩ c := Subtype.ext s1
                    refine g_iload (pc := 215) o dX4_seeks_215 rfl ?_
                    refine g_if_eq (pc := 217) o 242 dX4_seeks_217 (by decide) (fun q217 => ?_) (fun q217 => ?_)
                    · exact absurd q217 (by decide)
                    · refine g_aload_n (pc := 220) o 0 dX4_seeks_220 rfl rfl ?_
                      refine g_iload (pc := 221) o dX4_seeks_221 rfl ?_
                      refine g_V1i (pc := 223) o lkRX4_165 cmX4_goes (cX4goes mb2 (w := (sl T dl (Ss e) c)) (by omega)) rfl (by omega) rfl rfl ⟨Nat.le_refl _, Nat.le_refl _⟩ dX4_seeks_223 ?_
                      refine g_pop (pc := 226) o dX4_seeks_226 rfl ?_
                      refine g_incN (pc := 227) o (e) dX4_seeks_227 rfl rfl ?_
                      refine g_aload_n (pc := 230) o 0 dX4_seeks_230 rfl rfl ?_
                      refine g_iload_n (pc := 231) o 3 dX4_seeks_231 rfl rfl ?_
                      refine g_V1v (pc := 232) o lkRX4_180 cmX4_puts (cX4puts rm hn (p := e + 1) (by omega)) rfl (by omega) rfl rfl ⟨Nat.le_refl _, Nat.le_refl _⟩ dX4_seeks_232 ?_
                      refine g_aload_n (pc := 235) o 0 dX4_seeks_235 rfl rfl ?_
                      refine g_getR (pc := 236) o flRX4_54 rfl (by omega) y23 dX4_seeks_236 ?_
                      refine g_iload_n (pc := 239) o 3 dX4_seeks_239 rfl rfl ?_
                      refine g_iconst (pc := 240) (v := -1) o dX4_seeks_240 (by decide) ?_
                      refine g_iast (pc := 241) o (e + 1) rfl (by omega) rfl (by omega) dX4_seeks_241 ?_
                      refine g_goto (pc := 242) o 34 dX4_seeks_242 (by decide) ?_
                      refine ihm (e + 1) (base + pop c) (pre ++ [c]) Ss' hSg' (by rw [s1]; exact step_ok _ t2 hok) (by omega) (by simp [hpl]) (by omega) (2 ^ T 2 + 1) 0 st _ _ _ _ _ (by omega) (by omega) ⟨((hst2.trans (frS.row (by omega))).trans (frS.blk (by omega))).trans (frS.st _ (by omega)), ?_, ?_, ?_, ?_⟩ (st2_same _ _ _ _) (by rw [if_pos rfl]; exact (Int32.add_zero _).symm) ?_
                      · intro j hj; rw [st2_ne _ _ _ (by decide), blkM_ne _ _ _ _ (by decide), s1]; exact goM_row _ _ _ _ j hj
                      · exact hfb2.kept (by rw [st2_ne _ _ _ (by decide), blkM_ne _ _ _ _ (by decide), goM_ne _ _ _ _ (by decide)]) (by funext j; rw [st2_ne _ _ _ (by decide), blkM_ne _ _ _ _ (by decide), goM_ne _ _ _ _ (by decide)])
                      · intro i hi; rw [st2_ne2 _ _ (by omega), blkM_ne _ _ _ _ (by decide), goM_ne _ _ _ _ (by decide)]; by_cases q : i = e; subst q; rw [st2_same, getD_e hpl]; rw [getD_a (by omega)]; exact hta2.1 i (by omega)
                      · intro i hi j hj; rw [st2_ne _ _ _ (by decide)]; by_cases q : i = e + 1; subst q; rw [blkM_in _ _ _ _ hj, s1]; exact goM_row _ _ _ _ j hj; rw [blkM_out _ _ _ _ _ (by omega), goM_ne _ _ _ _ (by decide), s2 i (by omega)]; exact hta2.2 i (by omega) j hj
                      · intro M' y5 y6 y7 k1 k2 k3 k4 k5
                        rw [lm_s e]
                        have k2' : FB M' nn (skN (T 1) (2 ^ T 2) (skW T dl) (skX ht.2.2.1 dl) (m + 1) ⟨Ss' (e + 1), hSg'⟩ (base + pop c) (pre ++ [c]) st) := k2
                        rw [hX, ← he] at k2'
                        refine ih (c + 1) _ M' _ _ _ _ (by omega) (by omega) ⟨k1, ?_, k2', fun i hi => by rw [k3 i (by omega), getD_a (by omega)], fun i hi j hj => by rw [k4 i (by omega) j hj, s2 i hi]⟩ (by rw [k3 e (by omega), getD_e hpl, lm_s]) (by rw [if_neg (by omega), show c + 1 - 1 = c by omega, nI_add]) (by have hc9 := cont; rw [hfld st] at hc9; exact hc9)
                        rw [show e + 1 - 1 = e by omega, s2 e (Nat.le_refl _)] at k5
                        exact k5
                  · exact absurd ((nI_eq (by omega) (by omega)).mp q174) (by omega)
              · obtain ⟨f9, L9, hst, hf9, hf10⟩ := FB_s hfb2 q146
                refine g_iload (pc := 149) o dX4_seeks_149 rfl ?_
                refine g_aload_n (pc := 151) o 0 dX4_seeks_151 rfl rfl ?_
                refine g_getI (pc := 152) o flRX4_177 rfl (by omega) dX4_seeks_152 ?_
                refine g_icmp_ge (pc := 155) o 162 dX4_seeks_155 (by decide) (fun q155 => ?_) (fun q155 => ?_)
                · have g2 := (le_N (a := f9) (b := base + pop c) (by omega) (by omega) hf9 rfl).mp q155
                  have he : (fun c st => if T 1 ≤ skW T dl ⟨Ss e, hSg⟩ c ∧ okst st (base + pop c) = true then (if (m + 1) = 0 then some (base + pop c, pre ++ [c]) else skN (T 1) (2 ^ T 2) (skW T dl) (skX ht.2.2.1 dl) ((m + 1)) (skX ht.2.2.1 dl ⟨Ss e, hSg⟩ c) (base + pop c) (pre ++ [c]) st) else st) c st = st := if_neg (fun h => absurd h.2 (by rw [hst]; simp [okst]; omega))
                  refine g_iconst (pc := 162) (v := 0) o dX4_seeks_162 (by decide) ?_
                  refine g_istore (pc := 163) o dX4_seeks_163 rfl ?_
                  refine g_iload (pc := 165) o dX4_seeks_165 rfl ?_
                  refine g_if_eq (pc := 167) o 215 dX4_seeks_167 (by decide) (fun q167 => ?_) (fun q167 => ?_)
                  · refine g_iload (pc := 215) o dX4_seeks_215 rfl ?_
                    refine g_if_eq (pc := 217) o 242 dX4_seeks_217 (by decide) (fun q217 => ?_) (fun q217 => ?_)
                    refine g_goto (pc := 242) o 34 dX4_seeks_242 (by decide) ?_
                    exact again he _ _ _
                    · exact absurd (by decide) q217
                  · exact absurd (by decide) q167
                · have g2 := mt (le_N (a := f9) (b := base + pop c) (by omega) (by omega) hf9 rfl).mpr q155
                  have hok2 : okst st (base + pop c) = true := by rw [hst]; simp [okst]; omega
                  refine g_iconst (pc := 158) (v := 1) o dX4_seeks_158 (by decide) ?_
                  refine g_goto (pc := 159) o 163 dX4_seeks_159 (by decide) ?_
                  refine g_istore (pc := 163) o dX4_seeks_163 rfl ?_
                  refine g_iload (pc := 165) o dX4_seeks_165 rfl ?_
                  refine g_if_eq (pc := 167) o 215 dX4_seeks_167 (by decide) (fun q167 => ?_) (fun q167 => ?_)
                  · exact absurd q167 (by decide)
                  · refine g_iload_n (pc := 170) o 3 dX4_seeks_170 rfl rfl ?_
                    refine g_iconst (pc := 171) (v := 1) o dX4_seeks_171 (by decide) ?_
                    refine g_iadd (pc := 172) o dX4_seeks_172 ?_
                    rw [show nI e + 1 = nI (e + 1) from (nI_succ e).symm]
                    refine g_iload_n (pc := 173) o 1 dX4_seeks_173 rfl rfl ?_
                    refine g_icmp_ne (pc := 174) o 215 dX4_seeks_174 (by decide) (fun q174 => ?_) (fun q174 => ?_)
                    · have he : (fun c st => if T 1 ≤ skW T dl ⟨Ss e, hSg⟩ c ∧ okst st (base + pop c) = true then (if (m + 1) = 0 then some (base + pop c, pre ++ [c]) else skN (T 1) (2 ^ T 2) (skW T dl) (skX ht.2.2.1 dl) ((m + 1)) (skX ht.2.2.1 dl ⟨Ss e, hSg⟩ c) (base + pop c) (pre ++ [c]) st) else st) c st = skN (T 1) (2 ^ T 2) (skW T dl) (skX ht.2.2.1 dl) (m + 1) (skX ht.2.2.1 dl ⟨Ss e, hSg⟩ c) (base + pop c) (pre ++ [c]) st := by show (if _ then _ else _) = _; rw [if_pos ⟨g1, hok2⟩, if_neg (by omega)]
                      obtain ⟨Ss', s1, s2⟩ : ∃ Ss' : Nat → Nat → Nat, Ss' (e + 1) = stepS T (Ss e) (sl T dl (Ss e) c) ∧ ∀ i, i ≤ e → Ss' i = Ss i := ⟨fun i => if i = e + 1 then stepS T (Ss e) (sl T dl (Ss e) c) else Ss i, if_pos rfl, fun i hi => if_neg (by omega)⟩
                      have hSg' : ∀ i, i < T 2 → Ss' (e + 1) (3 + i) ≤ 20 := by rw [s1]; exact sg_nx t2 ⟨Ss e, hSg⟩ _
                      have hX : (⟨Ss' (e + 1), hSg'⟩ : Sg T) = skX ht.2.2.1 dl ⟨Ss e, hSg⟩ c := Subtype.ext s1
                      refine g_iload (pc := 215) o dX4_seeks_215 rfl ?_
                      refine g_if_eq (pc := 217) o 242 dX4_seeks_217 (by decide) (fun q217 => ?_) (fun q217 => ?_)
                      · exact absurd q217 (by decide)
                      · refine g_aload_n (pc := 220) o 0 dX4_seeks_220 rfl rfl ?_
                        refine g_iload (pc := 221) o dX4_seeks_221 rfl ?_
                        refine g_V1i (pc := 223) o lkRX4_165 cmX4_goes (cX4goes mb2 (w := (sl T dl (Ss e) c)) (by omega)) rfl (by omega) rfl rfl ⟨Nat.le_refl _, Nat.le_refl _⟩ dX4_seeks_223 ?_
                        refine g_pop (pc := 226) o dX4_seeks_226 rfl ?_
                        refine g_incN (pc := 227) o (e) dX4_seeks_227 rfl rfl ?_
                        refine g_aload_n (pc := 230) o 0 dX4_seeks_230 rfl rfl ?_
                        refine g_iload_n (pc := 231) o 3 dX4_seeks_231 rfl rfl ?_
                        refine g_V1v (pc := 232) o lkRX4_180 cmX4_puts (cX4puts rm hn (p := e + 1) (by omega)) rfl (by omega) rfl rfl ⟨Nat.le_refl _, Nat.le_refl _⟩ dX4_seeks_232 ?_
                        refine g_aload_n (pc := 235) o 0 dX4_seeks_235 rfl rfl ?_
                        refine g_getR (pc := 236) o flRX4_54 rfl (by omega) y23 dX4_seeks_236 ?_
                        refine g_iload_n (pc := 239) o 3 dX4_seeks_239 rfl rfl ?_
                        refine g_iconst (pc := 240) (v := -1) o dX4_seeks_240 (by decide) ?_
                        refine g_iast (pc := 241) o (e + 1) rfl (by omega) rfl (by omega) dX4_seeks_241 ?_
                        refine g_goto (pc := 242) o 34 dX4_seeks_242 (by decide) ?_
                        refine ihm (e + 1) (base + pop c) (pre ++ [c]) Ss' hSg' (by rw [s1]; exact step_ok _ t2 hok) (by omega) (by simp [hpl]) (by omega) (2 ^ T 2 + 1) 0 st _ _ _ _ _ (by omega) (by omega) ⟨((hst2.trans (frS.row (by omega))).trans (frS.blk (by omega))).trans (frS.st _ (by omega)), ?_, ?_, ?_, ?_⟩ (st2_same _ _ _ _) (by rw [if_pos rfl]; exact (Int32.add_zero _).symm) ?_
                        · intro j hj; rw [st2_ne _ _ _ (by decide), blkM_ne _ _ _ _ (by decide), s1]; exact goM_row _ _ _ _ j hj
                        · exact hfb2.kept (by rw [st2_ne _ _ _ (by decide), blkM_ne _ _ _ _ (by decide), goM_ne _ _ _ _ (by decide)]) (by funext j; rw [st2_ne _ _ _ (by decide), blkM_ne _ _ _ _ (by decide), goM_ne _ _ _ _ (by decide)])
                        · intro i hi; rw [st2_ne2 _ _ (by omega), blkM_ne _ _ _ _ (by decide), goM_ne _ _ _ _ (by decide)]; by_cases q : i = e; subst q; rw [st2_same, getD_e hpl]; rw [getD_a (by omega)]; exact hta2.1 i (by omega)
                        · intro i hi j hj; rw [st2_ne _ _ _ (by decide)]; by_cases q : i = e + 1; subst q; rw [blkM_in _ _ _ _ hj, s1]; exact goM_row _ _ _ _ j hj; rw [blkM_out _ _ _ _ _ (by omega), goM_ne _ _ _ _ (by decide), s2 i (by omega)]; exact hta2.2 i (by omega) j hj
                        · intro M' y5 y6 y7 k1 k2 k3 k4 k5
                          rw [lm_s e]
                          have k2' : FB M' nn (skN (T 1) (2 ^ T 2) (skW T dl) (skX ht.2.2.1 dl) (m + 1) ⟨Ss' (e + 1), hSg'⟩ (base + pop c) (pre ++ [c]) st) := k2
                          rw [hX, ← he] at k2'
                          refine ih (c + 1) _ M' _ _ _ _ (by omega) (by omega) ⟨k1, ?_, k2', fun i hi => by rw [k3 i (by omega), getD_a (by omega)], fun i hi j hj => by rw [k4 i (by omega) j hj, s2 i hi]⟩ (by rw [k3 e (by omega), getD_e hpl, lm_s]) (by rw [if_neg (by omega), show c + 1 - 1 = c by omega, nI_add]) (by have hc9 := cont; rw [hfld st] at hc9; exact hc9)
                          rw [show e + 1 - 1 = e by omega, s2 e (Nat.le_refl _)] at k5
                          exact k5
                    · exact absurd ((nI_eq (by omega) (by omega)).mp q174) (by omega)
          · have hcN : c = 2 ^ T 2 := by have := mt (le_N (a := c) (b := 2 ^ T 2 - 1) (by omega) (by omega) rfl rfl).mpr q82; omega
            have hz : fld (fun c st => if T 1 ≤ skW T dl ⟨Ss e, hSg⟩ c ∧ okst st (base + pop c) = true then (if (m + 1) = 0 then some (base + pop c, pre ++ [c]) else skN (T 1) (2 ^ T 2) (skW T dl) (skX ht.2.2.1 dl) ((m + 1)) (skX ht.2.2.1 dl ⟨Ss e, hSg⟩ c) (base + pop c) (pre ++ [c]) st) else st) c (2 ^ T 2 - c) st = st := by rw [hcN, Nat.sub_self]; rfl
            refine g_iinc (pc := 85) o dX4_seeks_85 rfl ?_
            rw [lm_dec e]
            refine g_iload_n (pc := 88) o 3 dX4_seeks_88 rfl rfl ?_
            refine g_if_lt (pc := 89) o 34 dX4_seeks_89 (by decide) (fun q89 => ?_) (fun q89 => ?_)
            · have e0 : e = 0 := (lm_lt (by omega)).mp q89
              first | exact again he _ _ _ | exact cont _ _ _ _ (hfr.trans (frS.st _ (by omega))) (by rw [hz]; exact hfb.kept (by rw [st2_ne _ _ _ (by decide)]) (st2_ne _ _ _ (by decide))) (fun i hi => absurd hi (by omega)) (fun i hi j hj => by rw [st2_ne _ _ _ (by decide)]; exact hta.2 i hi j hj) (by rw [e0]; rw [e0] at hrow; exact hrow.kept (st2_ne _ _ _ (by decide))) | (rw [← lm_s a]; exact cont _ _ _ _ ((hfr.trans (frS.st _ (by omega))).trans (frS.row (by omega))) (by rw [hz]; exact hfb.kept (by rw [rowM_ne _ _ _ (by decide), st2_ne _ _ _ (by decide)]) (by funext j; rw [rowM_ne _ _ _ (by decide), st2_ne _ _ _ (by decide)])) (fun i hi => by rw [rowM_ne _ _ _ (by decide), st2_ne2 _ _ (by omega)]; exact hta.1 i hi) (fun i hi j hj => by rw [rowM_ne _ _ _ (by decide), st2_ne _ _ _ (by decide)]; exact hta.2 i hi j hj) (fun j hj => by rw [rowM_in _ _ _ hj, st2_ne _ _ _ (by decide)]; exact hta.2 a (by omega) j hj))
            · have e0 : ¬ e = 0 := mt (lm_lt (by omega)).mpr q89
              obtain ⟨a, rfl⟩ : ∃ a, e = a + 1 := ⟨e - 1, by omega⟩
              rw [lm_s a]
              refine g_aload_n (pc := 92) o 0 dX4_seeks_92 rfl rfl ?_
              refine g_iload_n (pc := 93) o 3 dX4_seeks_93 rfl rfl ?_
              refine g_V1v (pc := 94) o lkRX4_184 cmX4_takes (cX4takes rm hn (p := a) (by omega)) rfl (by omega) rfl rfl ⟨Nat.le_refl _, Nat.le_refl _⟩ dX4_seeks_94 ?_
              refine g_goto (pc := 97) o 34 dX4_seeks_97 (by decide) ?_
              first | exact again he _ _ _ | exact cont _ _ _ _ (hfr.trans (frS.st _ (by omega))) (by rw [hz]; exact hfb.kept (by rw [st2_ne _ _ _ (by decide)]) (st2_ne _ _ _ (by decide))) (fun i hi => absurd hi (by omega)) (fun i hi j hj => by rw [st2_ne _ _ _ (by decide)]; exact hta.2 i hi j hj) (by rw [e0]; rw [e0] at hrow; exact hrow.kept (st2_ne _ _ _ (by decide))) | (rw [← lm_s a]; exact cont _ _ _ _ ((hfr.trans (frS.st _ (by omega))).trans (frS.row (by omega))) (by rw [hz]; exact hfb.kept (by rw [rowM_ne _ _ _ (by decide), st2_ne _ _ _ (by decide)]) (by funext j; rw [rowM_ne _ _ _ (by decide), st2_ne _ _ _ (by decide)])) (fun i hi => by rw [rowM_ne _ _ _ (by decide), st2_ne2 _ _ (by omega)]; exact hta.1 i hi) (fun i hi j hj => by rw [rowM_ne _ _ _ (by decide), st2_ne _ _ _ (by decide)]; exact hta.2 i hi j hj) (fun j hj => by rw [rowM_in _ _ _ hj, st2_ne _ _ _ (by decide)]; exact hta.2 a (by omega) j hj))
        refine g_iload_n (pc := 34) o 3 dX4_seeks_34 rfl rfl ?_
        refine g_if_lt (pc := 35) o 245 dX4_seeks_35 (by decide) (fun q35 => ?_) (fun q35 => ?_)
        · exact absurd ((lt_N (b := 0) (by omega) (by decide) rfl rfl).mp q35) (by omega)
        · refine g_iload (pc := 38) o dX4_seeks_38 rfl ?_
          refine g_aload_n (pc := 40) o 0 dX4_seeks_40 rfl rfl ?_
          refine g_getR (pc := 41) o flRX4_54 rfl (by omega) y23 dX4_seeks_41 ?_
          refine g_iload_n (pc := 44) o 3 dX4_seeks_44 rfl rfl ?_
          refine g_iald (pc := 45) o (e) rfl (by omega) rfl (by omega) dX4_seeks_45 ?_
          rw [h107]
          refine g_if_ge (pc := 46) o 53 dX4_seeks_46 (by decide) (fun q46 => ?_) (fun q46 => ?_)
          · have c0 : ¬ c = 0 := fun h => by rw [h] at q46; exact absurd q46 (by decide)
            obtain ⟨a, rfl⟩ : ∃ a, c = a + 1 := ⟨c - 1, by omega⟩
            have hsum : sm - nI (pop a) = nI base := by rw [hsm, if_neg c0, show a + 1 - 1 = a by omega]; exact Int32.add_sub_cancel _ _
            refine g_aload_n (pc := 53) o 0 dX4_seeks_53 rfl rfl ?_
            refine g_getR (pc := 54) o flRX4_54 rfl (by omega) y23 dX4_seeks_54 ?_
            refine g_iload_n (pc := 57) o 3 dX4_seeks_57 rfl rfl ?_
            refine g_iald (pc := 58) o (e) rfl (by omega) rfl (by omega) dX4_seeks_58 ?_
            rw [h107, lm_s]
            refine g_S1i (pc := 59) o lkRX4_155 cmX4_ones (cX4ones (w := a) (by omega)) rfl rfl ⟨Nat.le_refl _, Nat.le_refl _⟩ dX4_seeks_59 ?_
            refine g_isub (pc := 62) o dX4_seeks_62 ?_
            rw [hsum]
            exact rest
          · have c0 : c = 0 := by
              by_cases q : c = 0
              · exact q
              · exact absurd (by obtain ⟨a, rfl⟩ : ∃ a, c = a + 1 := ⟨c - 1, by omega⟩; rw [lm_s]; exact (le_N (a := 0) (by decide) (by omega) rfl rfl).mpr (by omega)) q46
            have hsum : sm - 0 = nI base := by rw [hsm, if_pos c0]; simp
            refine g_iconst (pc := 49) (v := 0) o dX4_seeks_49 (by decide) ?_
            refine g_goto (pc := 50) o 62 dX4_seeks_50 (by decide) ?_
            refine g_isub (pc := 62) o dX4_seeks_62 ?_
            rw [hsum]
            exact rest
  have fin : ∀ (M' : HM) (x5 x6 x7), frS M M' → FB M' nn ((fCU T S nn).map (fun L => (nn * T 1, L))) → mR M' 100 21 S → G (Λ, κ) 34 [some (.ref 96), some (.int (nI nn)), some (.int (nI (2 ^ T 2 - 1))), some (.int (lm 0)), some (.int (nI 0)), x5, x6, x7] [] (n, M', Rf, Lg) 0 0 := by
    intro M' x5 x6 x7 k1 kk k5
    refine g_iload_n (pc := 34) o 3 dX4_seeks_34 rfl rfl ?_
    refine g_if_lt (pc := 35) o 245 dX4_seeks_35 (by decide) (fun q35 => ?_) (fun q35 => ?_)
    · exact e_vret (pc := 245) o f dX4_seeks_245 (pV.of ⟨k1, k5, kk⟩)
    · exact absurd lm_0 q35
  refine g_aload_n (pc := 0) o 0 dX4_seeks_0 rfl rfl ?_
  refine g_bipush (pc := 1) (v := -9) o dX4_seeks_1 (by decide) ?_
  refine g_putI (pc := 3) o flRX4_177 rfl rfl (by omega) rfl rfl dX4_seeks_3 ?_
  refine g_iconst (pc := 6) (v := 1) o dX4_seeks_6 (by decide) ?_
  refine g_aload_n (pc := 7) o 0 dX4_seeks_7 rfl rfl ?_
  refine g_getR (pc := 8) o flRX4_13 rfl (by omega) y3 dX4_seeks_8 ?_
  refine g_iconst (pc := 11) (v := 2) o dX4_seeks_11 (by decide) ?_
  refine g_iald (pc := 12) o (2) rfl (by omega) rfl (by omega) dX4_seeks_12 ?_
  rw [show st2 M 96 25 (-9) 98 2 = nI (T 2) from by rw [st2_ne _ _ _ (by decide)]; exact hT 2 (by decide)]
  refine g_ishl (pc := 13) o dX4_seeks_13 ?_
  rw [n_one (by omega)]
  refine g_iconst (pc := 14) (v := 1) o dX4_seeks_14 (by decide) ?_
  refine g_isub (pc := 15) o dX4_seeks_15 ?_
  rw [n_sub1 (by omega)]
  refine g_istore_n (pc := 16) o 2 dX4_seeks_16 rfl rfl ?_
  refine g_aload_n (pc := 17) o 0 dX4_seeks_17 rfl rfl ?_
  refine g_iconst (pc := 18) (v := 0) o dX4_seeks_18 (by decide) ?_
  refine g_V1v (pc := 19) o lkRX4_180 cmX4_puts (cX4puts rm hn (p := 0) (by decide)) rfl (by omega) rfl rfl ⟨Nat.le_refl _, Nat.le_refl _⟩ dX4_seeks_19 ?_
  refine g_iconst (pc := 22) (v := 0) o dX4_seeks_22 (by decide) ?_
  refine g_istore_n (pc := 23) o 3 dX4_seeks_23 rfl rfl ?_
  refine g_iconst (pc := 24) (v := 0) o dX4_seeks_24 (by decide) ?_
  refine g_istore (pc := 25) o dX4_seeks_25 rfl ?_
  refine g_aload_n (pc := 27) o 0 dX4_seeks_27 rfl rfl ?_
  refine g_getR (pc := 28) o flRX4_54 rfl (by omega) y23 dX4_seeks_28 ?_
  refine g_iconst (pc := 31) (v := 0) o dX4_seeks_31 (by decide) ?_
  refine g_iconst (pc := 32) (v := -1) o dX4_seeks_32 (by decide) ?_
  refine g_iast (pc := 33) o (0) rfl (by omega) rfl (by omega) dX4_seeks_33 ?_
  obtain ⟨m, rfl⟩ : ∃ m, nn = m + 1 := ⟨nn - 1, by omega⟩
  refine level m 0 0 [] (fun _ => S) (fun i hi => (osc i hi).1) os (by omega) rfl (by omega) (2 ^ T 2 + 1) 0 none _ _ _ _ _ (by omega) (by omega) ⟨((frS.st25 _).trans (frS.blk (by omega))).trans (frS.st _ (by omega)), ?_, ?_, ?_, ?_⟩ (st2_same _ _ _ _) (by rw [if_pos rfl]; rfl) ?_
  · exact hS.kept (by funext j; rw [st2_ne _ _ _ (by decide), blkM_ne _ _ _ _ (by decide), st2_ne _ _ _ (by decide)])
  · show st2 _ 107 0 _ 96 25 = -9; rw [st2_ne _ _ _ (by decide), blkM_ne _ _ _ _ (by decide), st2_same]
  · intro i hi; exact absurd hi (by omega)
  · intro i hi j hj; obtain rfl : i = 0 := by omega
    rw [st2_ne _ _ _ (by decide), blkM_in _ _ _ _ hj, st2_ne _ _ _ (by decide)]; exact hS j hj
  · intro M' x5 x6 x7 k1 k2 k3 k4 k5
    have k2' : FB M' (m + 1) (skN (T 1) (2 ^ T 2) (skW T dl) (skX ht.2.2.1 dl) (m + 1) ⟨S, fun i hi => (osc i hi).1⟩ 0 [] none) := k2
    rw [sk_cu ht dl _ os1 (by omega)] at k2'
    exact fin M' _ _ _ k1 k2' k5

end M38
