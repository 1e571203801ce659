section M24
variable {Λ : PL} {d n : Nat} {M : HM} {Rf : HR} {Lg : HL}

theorem lets_rn1 {M : HM} {S' : Nat → Nat} (h : ∀ j, j < 21 → M 105 j = M 100 j) : rowM (rnM M S') 100 21 (fun j => rnM M S' 105 j) = M := by
  unfold rnM
  rw [rowM_rowM]
  exact rowM_self (fun j hj => by rw [rowM_ne _ _ _ (by decide)]; exact (h j hj).symm)
/-- the same, as far as sleeping goes -/
def eqv (T S S' : Nat → Nat) : Prop := S 1 = S' 1 ∧ ∀ i, i < T 2 → S (3 + i) = S' (3 + i) ∧ S (9 + i) = S' (9 + i)
theorem wA_congr {T S S' : Nat → Nat} {ab : Int32} (h : eqv T S S') : wA T S ab = wA T S' ab := by
  unfold wA slp lie
  rw [h.1]
  congr 1
  refine lieL_congr _ (fun i hi => ?_)
  unfold cdA cou
  rw [h.1, (h.2 i hi).1, (h.2 i hi).2]
theorem step_eqv {T S S' : Nat → Nat} (t2 : T 2 ≤ 6) (h : eqv T S S') (w : Nat) : eqv T (stepS T S w) (stepS T S' w) := by
  refine ⟨?_, fun i hi => ⟨?_, ?_⟩⟩
  · show (if S 1 + 1 < 8 then S 1 + 1 else 0) = (if S' 1 + 1 < 8 then S' 1 + 1 else 0)
    rw [h.1]
  · rw [step_3 hi (by omega), step_3 hi (by omega), (h.2 i hi).1]
  · unfold stepS
    rw [if_neg (by omega), if_neg (by omega), if_neg (by omega), if_neg (by omega), if_pos (by omega), if_neg (by omega), if_neg (by omega), if_neg (by omega), if_neg (by omega), if_pos (by omega)]
    exact (h.2 i hi).2
theorem so_eqv {T S : Nat → Nat} (t2 : T 2 ≤ 6) (x i : Nat) : eqv T (soR T S x i) (shR T S x i) := by
  induction i with
  | zero =>
    refine ⟨rfl, fun i hi => ⟨?_, ?_⟩⟩
    · show soS T S (3 + i) = shS T S (3 + i)
      unfold soS shS
      rw [if_neg (by omega), if_pos (by omega), if_neg (by omega), if_pos (by omega)]
    · show soS T S (9 + i) = shS T S (9 + i)
      unfold soS shS
      rw [if_neg (by omega), if_neg (by omega), if_neg (by omega), if_neg (by omega), if_pos (by omega)]
  | succ i ih =>
    show eqv T (stepS T _ _) (stepS T _ _)
    rw [wA_congr ih]
    exact step_eqv t2 ih _
theorem asC_late {ch cm : Nat → Nat} {i m : Nat} : ∀ k, lstN ch k ≤ i → asC ch cm i m k = true := by
  intro k
  induction k with
  | zero => intro _; rfl
  | succ k ih =>
    intro h
    have h2 : max (lstN ch k) (ch k + 1) ≤ i := h
    show (asC ch cm i m k && !(ch k == i && !(cm k == m))) = true
    rw [ih (by omega)]
    have : ch k ≠ i := by omega
    simp [this]
theorem so_mcs {T S ch cm : Nat → Nat} {cn x : Nat} (t2 : T 2 ≤ 6) (hch : ∀ i, i < cn → ch i ≤ 20) : soB T S ch cm cn x 21 = mcs T S ch cm cn x := by
  have e : ∀ i, soW T S x i = shW T S x i := fun i => by unfold soW shW; rw [wA_congr (so_eqv t2 x i)]
  have hl := lstN_le cn hch
  rw [Bool.eq_iff_iff]
  unfold soB mcs
  rw [allN_iff, allN_iff]
  constructor
  · intro h i hi
    rw [← e]; exact h i (by omega)
  · intro h i hi
    by_cases q : i < lstN ch cn
    · have := h i q
      rw [← e] at this; exact this
    · exact asC_late cn (by omega)

set_option maxHeartbeats 2000000 in
set_option maxRecDepth 20000 in
theorem cX4sham {b : Nat} {T S : Nat → Nat} (mb : MB M Rf n T S b) (hb1 : b ≤ 1000) {dl : Nat} (mf : MF M 63 (-9) (-9) (-9) dl) {cn : Nat} {ch cm : Nat → Nat} (hcn : M 96 11 = nI cn) (hc6 : cn ≤ 6) (hch : ∀ i, i < cn → M 104 i = nI (8 * ch i + cm i) ∧ ch i ≤ 20 ∧ cm i ≤ 6) : Ret Λ (d + 3) mX4_sham [.ref 96] (n, M, Rf, Lg) (some (.int (nI (mk (mcs T S ch cm cn) (T 2))))) (n, hldM M, Rf, Lg) 0 0 := by
  refine Ret.of rfl rfl rfl (fun κ o f hin => ?_)
  obtain ⟨rm, hn, ht, hT, hS, os, hb9⟩ := id mb
  obtain ⟨y1, y3, y4, y5, y6, y8, y9, y10, y21, y22, y23, y24⟩ := id rm
  obtain ⟨⟨t0, t0b⟩, t1, t2, t3, tD, tC, tN⟩ := id ht
  obtain ⟨os0, os1, os2, osc⟩ := id os
  obtain ⟨f16, hd6, f17, f18, f19, f20, hdl⟩ := id mf
  have loop : ∀ (k c : Nat) (y : Int32), c ≤ T 2 → T 2 < c + k → G (Λ, κ) 8 [some (.ref 96), some (.int (nI (mk (fun x => soB T S ch cm cn x 21) c))), some (.int (nI c))] [] (n, (st2 (hldM M) 96 18 y), Rf, Lg) 0 0 := by
    intro k
    induction k with
    | zero => intro c y h1 h2; exact absurd h2 (by omega)
    | succ k ih =>
      intro c y h1 h2
      refine g_iload_n (pc := 8) o 2 dX4_sham_8 rfl rfl ?_
      refine g_aload_n (pc := 9) o 0 dX4_sham_9 rfl rfl ?_
      refine g_getR (pc := 10) o flRX4_13 rfl (by omega) y3 dX4_sham_10 ?_
      refine g_iconst (pc := 13) (v := 2) o dX4_sham_13 (by decide) ?_
      refine g_iald (pc := 14) o (2) rfl (by omega) rfl (by omega) dX4_sham_14 ?_
      refine g_icmp_ge (pc := 15) o 50 dX4_sham_15 (by decide) (fun q15 => ?_) (fun q15 => ?_)
      · have ec : c = T 2 := by have := (le_N (a := T 2) (b := c) (by omega) (by omega) (by rw [st2_ne2 _ _ (by omega), hld_ne _ (by decide)]; exact hT 2 (by decide)) rfl).mp q15; omega
        refine g_aload_n (pc := 50) o 0 dX4_sham_50 rfl rfl ?_
        refine g_bipush (pc := 51) (v := -9) o dX4_sham_51 (by decide) ?_
        refine g_putI (pc := 53) o flRX4_42 rfl rfl (by omega) rfl rfl dX4_sham_53 ?_
        refine g_iload_n (pc := 56) o 1 dX4_sham_56 rfl rfl ?_
        exact g_iret (pc := 57) o f dX4_sham_57 rfl (by rw [ec]; exact congrArg nI (mk_congr (fun i hi => so_mcs t2 (fun i hi => (hch i hi).2.1)))) (hp_M (by rw [st2_st2, ← f18, ← hld_ne M (z := 96) (by decide), st2_self]))
      · have hc1 : c < T 2 := by have := mt (le_N (a := T 2) (b := c) (by omega) (by omega) (by rw [st2_ne2 _ _ (by omega), hld_ne _ (by decide)]; exact hT 2 (by decide)) rfl).mpr q15; omega
        have mbc : MB (st2 (st2 (hldM M) 96 18 y) 96 18 (nI c)) Rf n T S b := mb.kept (by rw [st2_ne _ _ _ (by decide), st2_ne _ _ _ (by decide), hld_ne _ (by decide)]) (by rw [st2_ne _ _ _ (by decide), st2_ne _ _ _ (by decide), hld_ne _ (by decide)])
        have e : ∀ j, j ≠ 18 → (st2 (st2 (hldM M) 96 18 y) 96 18 (nI c)) 96 j = M 96 j := fun j hj => by rw [st2_ne2 _ _ (by omega), st2_ne2 _ _ (by omega), hld_ne _ (by decide)]
        have mfc : MF (st2 (st2 (hldM M) 96 18 y) 96 18 (nI c)) 63 (-9) (nI c) (-9) dl := by
          unfold MF
          rw [e 16 (by decide), e 17 (by decide), e 19 (by decide), e 20 (by decide), st2_same]
          exact ⟨mf.1, mf.2.1, mf.2.2.1, rfl, mf.2.2.2.2.1, mf.2.2.2.2.2.1, mf.2.2.2.2.2.2⟩
        have hcn1 : (st2 (st2 (hldM M) 96 18 y) 96 18 (nI c)) 96 11 = nI cn := by rw [e 11 (by decide)]; exact hcn
        have hch1 : ∀ i, i < cn → (st2 (st2 (hldM M) 96 18 y) 96 18 (nI c)) 104 i = nI (8 * ch i + cm i) ∧ ch i ≤ 20 ∧ cm i ≤ 6 := fun i hi => by rw [st2_ne2 _ _ (by omega), st2_ne2 _ _ (by omega), hld_ne _ (by decide)]; exact hch i hi
        refine g_aload_n (pc := 18) o 0 dX4_sham_18 rfl rfl ?_
        refine g_iload_n (pc := 19) o 2 dX4_sham_19 rfl rfl ?_
        refine g_putI (pc := 20) o flRX4_42 rfl rfl (by omega) rfl rfl dX4_sham_20 ?_
        refine g_iload_n (pc := 23) o 1 dX4_sham_23 rfl rfl ?_
        refine g_aload_n (pc := 24) o 0 dX4_sham_24 rfl rfl ?_
        refine g_V0i (pc := 25) o lkRX4_194 cmX4_isSo (cX4isSo mbc hb1 (by omega) mfc hcn1 hc6 hch1) rfl (by omega) rfl rfl ⟨Nat.le_refl _, Nat.le_refl _⟩ dX4_sham_25 ?_
        refine g_if_eq (pc := 28) o 37 dX4_sham_28 (by decide) (fun q28 => ?_) (fun q28 => ?_)
        · have e1 := mk_f (p := fun x => soB T S ch cm cn x 21) (n := c) (by have := bi_z.mp q28; simpa using this)
          refine g_iconst (pc := 37) (v := 0) o dX4_sham_37 (by decide) ?_
          refine g_ior (pc := 38) o dX4_sham_38 ?_
          refine g_istore_n (pc := 39) o 1 dX4_sham_39 rfl rfl ?_
          refine g_aload_n (pc := 40) o 0 dX4_sham_40 rfl rfl ?_
          refine g_V0v (pc := 41) o lkRX4_171 cmX4_lets (cX4lets rm hn) rfl (by omega) rfl rfl ⟨Nat.le_refl _, Nat.le_refl _⟩ dX4_sham_41 ?_
          refine g_incN (pc := 44) o (c) dX4_sham_44 rfl rfl ?_
          refine g_goto (pc := 47) o 8 dX4_sham_47 (by decide) ?_
          refine g_eq rfl ?_ rfl (hp_M ?_) (ih (c + 1) (nI c) (by omega) (by omega))
          · first | (rw [e1, or0]; rfl) | (rw [← e1]; rfl)
          · rw [lets_rn1 (fun j hj => by rw [st2_ne2 _ _ (by omega), st2_ne2 _ _ (by omega), st2_ne2 _ _ (by omega), st2_ne2 _ _ (by omega), hld_ne _ (show (100 : Nat) ≠ 105 by decide)]; exact rowM_in _ _ _ hj), st2_st2]
        · have e1 := mk_t (p := fun x => soB T S ch cm cn x 21) (n := c) (bi_nz.mp q28) (by omega)
          refine g_iconst (pc := 31) (v := 1) o dX4_sham_31 (by decide) ?_
          refine g_iload_n (pc := 32) o 2 dX4_sham_32 rfl rfl ?_
          refine g_ishl (pc := 33) o dX4_sham_33 ?_
          refine g_goto (pc := 34) o 38 dX4_sham_34 (by decide) ?_
          refine g_ior (pc := 38) o dX4_sham_38 ?_
          refine g_istore_n (pc := 39) o 1 dX4_sham_39 rfl rfl ?_
          refine g_aload_n (pc := 40) o 0 dX4_sham_40 rfl rfl ?_
          refine g_V0v (pc := 41) o lkRX4_171 cmX4_lets (cX4lets rm hn) rfl (by omega) rfl rfl ⟨Nat.le_refl _, Nat.le_refl _⟩ dX4_sham_41 ?_
          refine g_incN (pc := 44) o (c) dX4_sham_44 rfl rfl ?_
          refine g_goto (pc := 47) o 8 dX4_sham_47 (by decide) ?_
          refine g_eq rfl ?_ rfl (hp_M ?_) (ih (c + 1) (nI c) (by omega) (by omega))
          · first | (rw [e1, or0]; rfl) | (rw [← e1]; rfl)
          · rw [lets_rn1 (fun j hj => by rw [st2_ne2 _ _ (by omega), st2_ne2 _ _ (by omega), st2_ne2 _ _ (by omega), st2_ne2 _ _ (by omega), hld_ne _ (show (100 : Nat) ≠ 105 by decide)]; exact rowM_in _ _ _ hj), st2_st2]
  refine g_aload_n (pc := 0) o 0 dX4_sham_0 rfl rfl ?_
  refine g_V0v (pc := 1) o lkRX4_168 cmX4_holds (cX4holds rm hn) rfl (by omega) rfl rfl ⟨Nat.le_refl _, Nat.le_refl _⟩ dX4_sham_1 ?_
  refine g_iconst (pc := 4) (v := 0) o dX4_sham_4 (by decide) ?_
  refine g_istore_n (pc := 5) o 1 dX4_sham_5 rfl rfl ?_
  refine g_iconst (pc := 6) (v := 0) o dX4_sham_6 (by decide) ?_
  refine g_istore_n (pc := 7) o 2 dX4_sham_7 rfl rfl ?_
  have h9 := loop (T 2 + 1) 0 (-9) (by omega) (by omega)
  rw [show st2 (hldM M) 96 18 (-9) = hldM M from by rw [← f18, ← hld_ne M (z := 96) (by decide), st2_self]] at h9
  exact h9

def bstF (lt : Nat → Nat → Bool) (S : Nat → Nat) (lo hi f : Nat) : Prop := lo ≤ f ∧ f < hi ∧ ∀ i, lo ≤ i → i < hi → lt (S (15 + f)) (S (15 + i)) = false ∧ (i < f → lt (S (15 + i)) (S (15 + f)) = true)
theorem bst_un {lt : Nat → Nat → Bool} {S : Nat → Nat} {lo hi f g : Nat} (h1 : bstF lt S lo hi f) (h2 : bstF lt S lo hi g) : f = g := by
  rcases Nat.lt_trichotomy f g with h | h | h
  · have a := (h2.2.2 f h1.1 h1.2.1).2 h
    have b := (h1.2.2 g h2.1 h2.2.1).1
    rw [a] at b; cases b
  · exact h
  · have a := (h1.2.2 g h2.1 h2.2.1).2 h
    have b := (h2.2.2 f h1.1 h1.2.1).1
    rw [a] at b; cases b
theorem mst_bst {lt : Nat → Nat → Bool} (hl : lt = ltB ∨ lt = gtB) (S : Nat → Nat) : ∀ k, 0 < k → ∃ f, mst lt S k = some f ∧ bstF lt S 0 k f := by
  intro k
  induction k with
  | zero => intro h; exact absurd h (by decide)
  | succ k ih =>
    intro _
    by_cases k0 : k = 0
    · subst k0
      refine ⟨0, rfl, by omega, by omega, fun i _ hi => ?_⟩
      obtain rfl : i = 0 := by omega
      refine ⟨?_, fun h => absurd h (by decide)⟩
      rcases hl with rfl | rfl <;> simp [ltB, gtB]
    · obtain ⟨f, e, hf⟩ := ih (by omega)
      by_cases q : lt (S (15 + f)) (S (15 + k)) = true
      · refine ⟨k, by simp only [mst, e]; rw [if_pos q], by omega, by omega, fun i h1 h2 => ?_⟩
        by_cases ik : i = k
        · subst ik
          refine ⟨?_, fun h => absurd h (by omega)⟩
          rcases hl with rfl | rfl <;> simp [ltB, gtB]
        · have := hf.2.2 i h1 (by omega)
          rcases hl with rfl | rfl <;> simp [ltB, gtB] at this q ⊢ <;> omega
      · refine ⟨f, by simp only [mst, e]; rw [if_neg q], hf.1, by have := hf.2.1; omega, fun i h1 h2 => ?_⟩
        by_cases ik : i = k
        · subst ik
          refine ⟨by simpa using q, fun h => absurd h (by have := hf.2.1; omega)⟩
        · exact hf.2.2 i h1 (by omega)
theorem bst_one {lt : Nat → Nat → Bool} (hl : lt = ltB ∨ lt = gtB) (S : Nat → Nat) (c : Nat) : bstF lt S c (c + 1) c := by
  refine ⟨by omega, by omega, fun i h1 h2 => ?_⟩
  obtain rfl : i = c := by omega
  exact ⟨by rcases hl with rfl | rfl <;> simp [ltB, gtB], fun h => absurd h (by omega)⟩
theorem bst_dn {lt : Nat → Nat → Bool} (hl : lt = ltB ∨ lt = gtB) {S : Nat → Nat} {c hi f : Nat} (h : bstF lt S (c + 1) hi f) : bstF lt S c hi (if lt (S (15 + c)) (S (15 + f)) = true then f else c) := by
  by_cases q : lt (S (15 + c)) (S (15 + f)) = true
  · rw [if_pos q]
    refine ⟨by have := h.1; omega, h.2.1, fun i h1 h2 => ?_⟩
    by_cases ic : i = c
    · subst ic
      exact ⟨by rcases hl with rfl | rfl <;> simp [ltB, gtB] at q ⊢ <;> omega, fun _ => q⟩
    · exact h.2.2 i (by omega) h2
  · rw [if_neg q]
    refine ⟨by omega, by have := h.1; have := h.2.1; omega, fun i h1 h2 => ?_⟩
    by_cases ic : i = c
    · subst ic
      exact ⟨by rcases hl with rfl | rfl <;> simp [ltB, gtB], fun h => absurd h (by omega)⟩
    · have := (h.2.2 i (by omega) h2).1
      refine ⟨?_, fun h => absurd h (by omega)⟩
      rcases hl with rfl | rfl <;> simp [ltB, gtB] at this q ⊢ <;> omega
/-- what the reference has found of those from k on -/
def fnd (lt : Nat → Nat → Bool) (S : Nat → Nat) (N k : Nat) (v : Int32) : Prop := (k = N ∧ v = -9) ∨ ∃ f, v = nI f ∧ bstF lt S k N f
theorem sg_lt {sg : Int32} {lt : Nat → Nat → Bool} (h : (sg = 1 ∧ lt = ltB) ∨ (sg = -1 ∧ lt = gtB)) {a b : Nat} (ha : a < 100000) (hb : b < 100000) : sg * nI a < sg * nI b ↔ lt a b = true := by
  have h1 : (nI a).toInt = a := nI_toInt (by omega)
  have h2 : (nI b).toInt = b := nI_toInt (by omega)
  rcases h with ⟨rfl, rfl⟩ | ⟨rfl, rfl⟩
  · rw [Int32.one_mul, Int32.one_mul, nI_ltI (by omega) (by omega)]
    simp [ltB]
  · rw [Int32.lt_iff_toInt_lt, Int32.toInt_mul, Int32.toInt_mul, h1, h2, show (-1 : Int32).toInt = -1 from by decide]
    rw [Int.bmod_eq_of_le (by omega) (by omega), Int.bmod_eq_of_le (by omega) (by omega)]
    simp [gtB]
theorem mostV {lt : Nat → Nat → Bool} {S : Nat → Nat} {N k : Nat} {v : Int32} (hl : lt = ltB ∨ lt = gtB) (hf : fnd lt S N k v) (k0 : k = 0) : v = opI (mst lt S N) := by
  subst k0
  rcases hf with ⟨h, e⟩ | ⟨f, e, h⟩
  · subst h; exact e
  · obtain ⟨g, e2, h2⟩ := mst_bst hl S N (by have := h.2.1; omega)
    rw [e, e2, bst_un h h2]; rfl
set_option maxHeartbeats 2000000 in
set_option maxRecDepth 20000 in
theorem cX4most {b : Nat} {T S : Nat → Nat} (mb : MB M Rf n T S b) {sg : Int32} {lt : Nat → Nat → Bool} (hsg : (sg = 1 ∧ lt = ltB) ∨ (sg = -1 ∧ lt = gtB)) : Ret Λ (d) mX4_most [.ref 96, .int sg] (n, M, Rf, Lg) (some (.int (opI (mst lt S (T 2))))) (n, M, Rf, Lg) 0 0 := by
  refine Ret.of rfl rfl rfl (fun κ o f hin => ?_)
  obtain ⟨rm, hn, ht, hT, hS, os, hb9⟩ := id mb
  obtain ⟨y1, y3, y4, y5, y6, y8, y9, y10, y21, y22, y23, y24⟩ := id rm
  obtain ⟨⟨t0, t0b⟩, t1, t2, t3, tD, tC, tN⟩ := id ht
  obtain ⟨os0, os1, os2, osc⟩ := id os
  have hl : lt = ltB ∨ lt = gtB := by rcases hsg with h | h; exact Or.inl h.2; exact Or.inr h.2
  have loop : ∀ (k c : Nat) (v : Int32) (x), c ≤ T 2 → c < k → fnd lt S (T 2) c v → G (Λ, κ) 12 [some (.ref 96), some (.int sg), some (.int v), some (.int (lm c)), x] [] (n, M, Rf, Lg) 0 0 := by
    intro k
    induction k with
    | zero => intro c v x h1 h2; exact absurd h2 (by omega)
    | succ k ih =>
      intro c v x h1 h2 hf
      refine g_iload_n (pc := 12) o 3 dX4_most_12 rfl rfl ?_
      refine g_if_lt (pc := 13) o 65 dX4_most_13 (by decide) (fun q13 => ?_) (fun q13 => ?_)
      · have k0 : c = 0 := by
          have := Int32.lt_iff_toInt_lt.mp q13
          rw [lm_int c (by omega)] at this
          have h0 : (0 : Int32).toInt = 0 := by decide
          omega
        refine g_iload_n (pc := 65) o 2 dX4_most_65 rfl rfl ?_
        exact g_iret (pc := 66) o f dX4_most_66 rfl (mostV hl hf k0) rfl
      · have k1 : 0 < c := by
          have := mt Int32.lt_iff_toInt_lt.mpr q13
          rw [lm_int c (by omega)] at this
          have h0 : (0 : Int32).toInt = 0 := by decide
          omega
        obtain ⟨a, rfl⟩ : ∃ a, c = a + 1 := ⟨c - 1, by omega⟩
        rw [lm_s a]
        have hy := osc a (by omega)
        refine g_iload_n (pc := 16) o 2 dX4_most_16 rfl rfl ?_
        refine g_if_ge (pc := 17) o 24 dX4_most_17 (by decide) (fun q17 => ?_) (fun q17 => ?_)
        · obtain ⟨f9, rfl, hbf⟩ : ∃ f9, v = nI f9 ∧ bstF lt S (a + 1) (T 2) f9 := by
            rcases hf with ⟨_, e⟩ | h
            · rw [e] at q17; exact absurd q17 (by decide)
            · exact h
          have hy2 := osc f9 hbf.2.1
          have hf2 := hbf.2.1
          refine g_iload_n (pc := 24) o 2 dX4_most_24 rfl rfl ?_
          refine g_istore (pc := 25) o dX4_most_25 rfl ?_
          refine g_iload_n (pc := 27) o 1 dX4_most_27 rfl rfl ?_
          refine g_aload_n (pc := 28) o 0 dX4_most_28 rfl rfl ?_
          refine g_getR (pc := 29) o flRX4_19 rfl (by omega) y5 dX4_most_29 ?_
          refine g_bipush (pc := 32) (v := 15) o dX4_most_32 (by decide) ?_
          refine g_iload_n (pc := 34) o 3 dX4_most_34 rfl rfl ?_
          refine g_iadd (pc := 35) o dX4_most_35 ?_
          refine g_iald (pc := 36) o (15 + a) rfl (by omega) (nI_addE rfl rfl) (by omega) dX4_most_36 ?_
          rw [hS (15 + a) (by omega)]
          refine g_imul (pc := 37) o dX4_most_37 ?_
          refine g_iload_n (pc := 38) o 1 dX4_most_38 rfl rfl ?_
          refine g_aload_n (pc := 39) o 0 dX4_most_39 rfl rfl ?_
          refine g_getR (pc := 40) o flRX4_19 rfl (by omega) y5 dX4_most_40 ?_
          refine g_bipush (pc := 43) (v := 15) o dX4_most_43 (by decide) ?_
          refine g_iload (pc := 45) o dX4_most_45 rfl ?_
          refine g_iadd (pc := 47) o dX4_most_47 ?_
          refine g_iald (pc := 48) o (15 + f9) rfl (by omega) (nI_addE rfl rfl) (by omega) dX4_most_48 ?_
          rw [hS (15 + f9) (by omega)]
          refine g_imul (pc := 49) o dX4_most_49 ?_
          refine g_icmp_lt (pc := 50) o 57 dX4_most_50 (by decide) (fun q50 => ?_) (fun q50 => ?_)
          · have g := (sg_lt hsg (by omega) (by omega)).mp q50
            have hb2 := bst_dn hl hbf
            rw [if_pos g] at hb2
            refine g_iload_n (pc := 57) o 2 dX4_most_57 rfl rfl ?_
            refine g_istore_n (pc := 58) o 2 dX4_most_58 rfl rfl ?_
            refine g_iinc (pc := 59) o dX4_most_59 rfl ?_
            refine g_goto (pc := 62) o 12 dX4_most_62 (by decide) ?_
            rw [lm_dec a]
            exact ih a _ _ (by omega) (by omega) (Or.inr ⟨_, rfl, hb2⟩)
          · have g := mt (sg_lt hsg (by omega) (by omega)).mpr q50
            have hb2 := bst_dn hl hbf
            rw [if_neg g] at hb2
            refine g_iload_n (pc := 53) o 3 dX4_most_53 rfl rfl ?_
            refine g_goto (pc := 54) o 58 dX4_most_54 (by decide) ?_
            refine g_istore_n (pc := 58) o 2 dX4_most_58 rfl rfl ?_
            refine g_iinc (pc := 59) o dX4_most_59 rfl ?_
            refine g_goto (pc := 62) o 12 dX4_most_62 (by decide) ?_
            rw [lm_dec a]
            exact ih a _ _ (by omega) (by omega) (Or.inr ⟨_, rfl, hb2⟩)
        · have hN : a + 1 = T 2 := by
            rcases hf with ⟨h, _⟩ | ⟨f9, e, h⟩
            · exact h
            · rw [e] at q17; have := h.2.1; exact absurd ((le_N (a := 0) (b := f9) (by decide) (by omega) rfl rfl).mpr (by omega)) q17
          refine g_iload_n (pc := 20) o 3 dX4_most_20 rfl rfl ?_
          refine g_goto (pc := 21) o 25 dX4_most_21 (by decide) ?_
          refine g_istore (pc := 25) o dX4_most_25 rfl ?_
          refine g_iload_n (pc := 27) o 1 dX4_most_27 rfl rfl ?_
          refine g_aload_n (pc := 28) o 0 dX4_most_28 rfl rfl ?_
          refine g_getR (pc := 29) o flRX4_19 rfl (by omega) y5 dX4_most_29 ?_
          refine g_bipush (pc := 32) (v := 15) o dX4_most_32 (by decide) ?_
          refine g_iload_n (pc := 34) o 3 dX4_most_34 rfl rfl ?_
          refine g_iadd (pc := 35) o dX4_most_35 ?_
          refine g_iald (pc := 36) o (15 + a) rfl (by omega) (nI_addE rfl rfl) (by omega) dX4_most_36 ?_
          rw [hS (15 + a) (by omega)]
          refine g_imul (pc := 37) o dX4_most_37 ?_
          refine g_iload_n (pc := 38) o 1 dX4_most_38 rfl rfl ?_
          refine g_aload_n (pc := 39) o 0 dX4_most_39 rfl rfl ?_
          refine g_getR (pc := 40) o flRX4_19 rfl (by omega) y5 dX4_most_40 ?_
          refine g_bipush (pc := 43) (v := 15) o dX4_most_43 (by decide) ?_
          refine g_iload (pc := 45) o dX4_most_45 rfl ?_
          refine g_iadd (pc := 47) o dX4_most_47 ?_
          refine g_iald (pc := 48) o (15 + a) rfl (by omega) (nI_addE rfl rfl) (by omega) dX4_most_48 ?_
          rw [hS (15 + a) (by omega)]
          refine g_imul (pc := 49) o dX4_most_49 ?_
          refine g_icmp_lt (pc := 50) o 57 dX4_most_50 (by decide) (fun q50 => ?_) (fun q50 => ?_)
          · exact absurd q50 (by intro h; rw [Int32.lt_iff_toInt_lt] at h; omega)
          · have hb2 : bstF lt S a (T 2) a := by rw [← hN]; exact bst_one hl S a
            refine g_iload_n (pc := 53) o 3 dX4_most_53 rfl rfl ?_
            refine g_goto (pc := 54) o 58 dX4_most_54 (by decide) ?_
            refine g_istore_n (pc := 58) o 2 dX4_most_58 rfl rfl ?_
            refine g_iinc (pc := 59) o dX4_most_59 rfl ?_
            refine g_goto (pc := 62) o 12 dX4_most_62 (by decide) ?_
            rw [lm_dec a]
            exact ih a _ _ (by omega) (by omega) (Or.inr ⟨_, rfl, hb2⟩)
  refine g_bipush (pc := 0) (v := -9) o dX4_most_0 (by decide) ?_
  refine g_istore_n (pc := 2) o 2 dX4_most_2 rfl rfl ?_
  refine g_aload_n (pc := 3) o 0 dX4_most_3 rfl rfl ?_
  refine g_getR (pc := 4) o flRX4_13 rfl (by omega) y3 dX4_most_4 ?_
  refine g_iconst (pc := 7) (v := 2) o dX4_most_7 (by decide) ?_
  refine g_iald (pc := 8) o (2) rfl (by omega) rfl (by omega) dX4_most_8 ?_
  refine g_iconst (pc := 9) (v := 1) o dX4_most_9 (by decide) ?_
  refine g_isub (pc := 10) o dX4_most_10 ?_
  rw [hT 2 (by decide)]
  refine g_istore_n (pc := 11) o 3 dX4_most_11 rfl rfl ?_
  exact loop (T 2 + 1) (T 2) (-9) none (by omega) (by omega) (Or.inl ⟨rfl, rfl⟩)

theorem fNow_lo {T S : Nat → Nat} {pk k : Nat} (h : k < 3) : nI (S k) = fNow T S pk k := by
  match k, h with
  | 0, _ => rfl
  | 1, _ => rfl
  | 2, _ => rfl
set_option maxHeartbeats 2000000 in
set_option maxRecDepth 20000 in
theorem cX4now {b : Nat} {T S : Nat → Nat} (mb : MB M Rf n T S b) {pk : Nat} (hpk : M 96 7 = nI pk) {v : Int32} : Ret Λ (d + 1) mX4_now [.ref 96, .int v] (n, M, Rf, Lg) (some (.int (tbv v 6 (fNow T S pk) (-1)))) (n, M, Rf, Lg) 0 0 := by
  refine Ret.of rfl rfl rfl (fun κ o f hin => ?_)
  obtain ⟨rm, hn, ht, hT, hS, os, hb9⟩ := id mb
  obtain ⟨y1, y3, y4, y5, y6, y8, y9, y10, y21, y22, y23, y24⟩ := id rm
  obtain ⟨⟨t0, t0b⟩, t1, t2, t3, tD, tC, tN⟩ := id ht
  obtain ⟨os0, os1, os2, osc⟩ := id os
  refine g_iload_n (pc := 0) o 1 dX4_now_0 rfl rfl ?_
  refine g_iconst (pc := 1) (v := 0) o dX4_now_1 (by decide) ?_
  refine g_iconst (pc := 2) (v := 5) o dX4_now_2 (by decide) ?_
  refine g_S3i (pc := 3) o lkRX4_67 cmX4_in (cX4inN 6 (by decide) rfl) rfl rfl ⟨Nat.le_refl _, Nat.le_refl _⟩ dX4_now_3 ?_
  refine g_if_ne (pc := 6) o 11 dX4_now_6 (by decide) (fun q6 => ?_) (fun q6 => ?_)
  · obtain ⟨k, hk, rfl⟩ := inn_of (bi_nz.mp q6) (by omega)
    refine g_iload_n (pc := 11) o 1 dX4_now_11 rfl rfl ?_
    refine g_iconst (pc := 12) (v := 3) o dX4_now_12 (by decide) ?_
    refine g_icmp_ge (pc := 13) o 25 dX4_now_13 (by decide) (fun q13 => ?_) (fun q13 => ?_)
    · have g := (le_N (a := 3) (b := k) (by decide) (by omega) rfl rfl).mp q13
      refine g_iload_n (pc := 25) o 1 dX4_now_25 rfl rfl ?_
      refine g_iconst (pc := 26) (v := 3) o dX4_now_26 (by decide) ?_
      refine g_icmp_ne (pc := 27) o 38 dX4_now_27 (by decide) (fun q27 => ?_) (fun q27 => ?_)
      · have g2 := mt (eq_N (a := k) (b := 3) (by omega) (by decide) rfl rfl).mpr q27
        refine g_iload_n (pc := 38) o 1 dX4_now_38 rfl rfl ?_
        refine g_iconst (pc := 39) (v := 4) o dX4_now_39 (by decide) ?_
        refine g_icmp_ne (pc := 40) o 51 dX4_now_40 (by decide) (fun q40 => ?_) (fun q40 => ?_)
        · have g3 := mt (eq_N (a := k) (b := 4) (by omega) (by decide) rfl rfl).mpr q40
          refine g_aload_n (pc := 51) o 0 dX4_now_51 rfl rfl ?_
          refine g_getI (pc := 52) o flRX4_127 rfl (by omega) dX4_now_52 ?_
          exact g_iret (pc := 55) o f dX4_now_55 rfl (by rw [tbv_in hk (by decide)]; first | exact (by rw [hS k (by omega)]; exact fNow_lo (by omega)) | exact (by subst g2; rfl) | exact (by subst g3; rfl) | exact (by rw [show k = 5 by omega]; exact hpk)) rfl
        · have g3 := (eq_N (a := k) (b := 4) (by omega) (by decide) rfl rfl).mp q40
          refine g_aload_n (pc := 43) o 0 dX4_now_43 rfl rfl ?_
          refine g_iconst (pc := 44) (v := -1) o dX4_now_44 (by decide) ?_
          refine g_V1i (pc := 45) o lkRX4_139 cmX4_most (cX4most mb (lt := gtB) (Or.inr ⟨rfl, rfl⟩)) rfl (by omega) rfl rfl ⟨Nat.le_refl _, Nat.le_refl _⟩ dX4_now_45 ?_
          refine g_goto (pc := 48) o 55 dX4_now_48 (by decide) ?_
          exact g_iret (pc := 55) o f dX4_now_55 rfl (by rw [tbv_in hk (by decide)]; first | exact (by rw [hS k (by omega)]; exact fNow_lo (by omega)) | exact (by subst g2; rfl) | exact (by subst g3; rfl) | exact (by rw [show k = 5 by omega]; exact hpk)) rfl
      · have g2 := (eq_N (a := k) (b := 3) (by omega) (by decide) rfl rfl).mp q27
        refine g_aload_n (pc := 30) o 0 dX4_now_30 rfl rfl ?_
        refine g_iconst (pc := 31) (v := 1) o dX4_now_31 (by decide) ?_
        refine g_V1i (pc := 32) o lkRX4_139 cmX4_most (cX4most mb (lt := ltB) (Or.inl ⟨rfl, rfl⟩)) rfl (by omega) rfl rfl ⟨Nat.le_refl _, Nat.le_refl _⟩ dX4_now_32 ?_
        refine g_goto (pc := 35) o 55 dX4_now_35 (by decide) ?_
        exact g_iret (pc := 55) o f dX4_now_55 rfl (by rw [tbv_in hk (by decide)]; first | exact (by rw [hS k (by omega)]; exact fNow_lo (by omega)) | exact (by subst g2; rfl) | exact (by subst g3; rfl) | exact (by rw [show k = 5 by omega]; exact hpk)) rfl
    · have g := mt (le_N (a := 3) (b := k) (by decide) (by omega) rfl rfl).mpr q13
      refine g_aload_n (pc := 16) o 0 dX4_now_16 rfl rfl ?_
      refine g_getR (pc := 17) o flRX4_19 rfl (by omega) y5 dX4_now_17 ?_
      refine g_iload_n (pc := 20) o 1 dX4_now_20 rfl rfl ?_
      refine g_iald (pc := 21) o (k) rfl (by omega) rfl (by omega) dX4_now_21 ?_
      refine g_goto (pc := 22) o 55 dX4_now_22 (by decide) ?_
      exact g_iret (pc := 55) o f dX4_now_55 rfl (by rw [tbv_in hk (by decide)]; first | exact (by rw [hS k (by omega)]; exact fNow_lo (by omega)) | exact (by subst g2; rfl) | exact (by subst g3; rfl) | exact (by rw [show k = 5 by omega]; exact hpk)) rfl
  · refine g_iconst (pc := 9) (v := -1) o dX4_now_9 (by decide) ?_
    exact g_iret (pc := 10) o f dX4_now_10 rfl (by rw [tbv_out (bi_z.mp q6)]) rfl

theorem rate_o1 {T S : Nat → Nat} {v w : Int32} (t2 : T 2 < 1000) (g : ¬ inn v 6) : aRate T S v w = -1000000 := by
  unfold aRate
  by_cases hw : inn w (T 2)
  · obtain ⟨j, hj, rfl⟩ := inn_of hw (by omega)
    rw [tbv_in hj (by omega), tbv_out g]
  · rw [tbv_out hw]
theorem rate_o2 {T S : Nat → Nat} {v w : Int32} (g : ¬ inn w (T 2)) : aRate T S v w = -1000000 := by
  unfold aRate
  rw [tbv_out g]
set_option maxHeartbeats 2000000 in
set_option maxRecDepth 20000 in
theorem cX4rate {b : Nat} {T S : Nat → Nat} (mb : MB M Rf n T S b) {v w : Int32} : Ret Λ (d + 2) mX4_rate [.ref 96, .int v, .int w] (n, M, Rf, Lg) (some (.int (aRate T S v w))) (n, M, Rf, st2 Lg 96 0 (gRate T v w (Lg 96 0))) 0 0 := by
  refine Ret.of rfl rfl rfl (fun κ o f hin => ?_)
  obtain ⟨rm, hn, ht, hT, hS, os, hb9⟩ := id mb
  obtain ⟨y1, y3, y4, y5, y6, y8, y9, y10, y21, y22, y23, y24⟩ := id rm
  obtain ⟨⟨t0, t0b⟩, t1, t2, t3, tD, tC, tN⟩ := id ht
  obtain ⟨os0, os1, os2, osc⟩ := id os
  refine g_iload_n (pc := 0) o 1 dX4_rate_0 rfl rfl ?_
  refine g_iconst (pc := 1) (v := 0) o dX4_rate_1 (by decide) ?_
  refine g_iconst (pc := 2) (v := 5) o dX4_rate_2 (by decide) ?_
  refine g_S3i (pc := 3) o lkRX4_67 cmX4_in (cX4inN 6 (by decide) rfl) rfl rfl ⟨Nat.le_refl _, Nat.le_refl _⟩ dX4_rate_3 ?_
  refine g_if_eq (pc := 6) o 17 dX4_rate_6 (by decide) (fun q6 => ?_) (fun q6 => ?_)
  · have g := bi_z.mp q6
    refine g_ldc (pc := 17) o ctRX4_197 dX4_rate_17 ?_
    exact g_iret (pc := 19) o f dX4_rate_19 rfl (by first | exact (rate_o1 (by omega) g).symm | exact (rate_o2 g).symm) (hp_L (by unfold gRate; rw [if_neg (by intro hh; first | exact g hh.1 | exact g hh.2), st2_self]))
  · have g0 := bi_nz.mp q6
    refine g_aload_n (pc := 9) o 0 dX4_rate_9 rfl rfl ?_
    refine g_iload_n (pc := 10) o 2 dX4_rate_10 rfl rfl ?_
    refine g_V1i (pc := 11) o lkRX4_136 cmX4_isCitizen (cX4isCitizen mb) rfl (by omega) rfl rfl ⟨Nat.le_refl _, Nat.le_refl _⟩ dX4_rate_11 ?_
    refine g_if_ne (pc := 14) o 20 dX4_rate_14 (by decide) (fun q14 => ?_) (fun q14 => ?_)
    · have g1 := bi_nz.mp q14
      obtain ⟨j, hj, rfl⟩ := inn_of g1 (by omega)
      obtain ⟨k, hk, rfl⟩ := inn_of g0 (by omega)
      have hx := tC j hj
      have hy := osc j hj
      have pl := pop_le (T (26 + j))
      match k, hk with
      | 0, _ =>
        refine g_aload_n (pc := 20) o 0 dX4_rate_20 rfl rfl ?_
        refine g_dup (pc := 21) o dX4_rate_21 rfl ?_
        refine g_getJ (pc := 22) o flRX4_198 rfl (by omega) dX4_rate_22 ?_
        refine g_iload_n (pc := 25) o 1 dX4_rate_25 rfl rfl ?_
        refine g_if_ne (pc := 26) o 33 dX4_rate_26 (by decide) (fun q26 => ?_) (fun q26 => ?_)
        · exact absurd (by decide) q26
        · refine g_lconst (pc := 29) (v := 1) o dX4_rate_29 (by decide) ?_
          refine g_goto (pc := 30) o 80 dX4_rate_30 (by decide) ?_
          refine g_ladd (pc := 80) o dX4_rate_80 ?_
          refine g_putJ (pc := 81) o flRX4_198 rfl rfl (by omega) dX4_rate_81 ?_
          refine g_aload_n (pc := 84) o 0 dX4_rate_84 rfl rfl ?_
          refine g_getR (pc := 85) o flRX4_19 rfl (by omega) y5 dX4_rate_85 ?_
          refine g_iconst (pc := 88) (v := 3) o dX4_rate_88 (by decide) ?_
          refine g_iload_n (pc := 89) o 2 dX4_rate_89 rfl rfl ?_
          refine g_iadd (pc := 90) o dX4_rate_90 ?_
          refine g_iald (pc := 91) o ((3 + j)) rfl (by omega) (nI_addE rfl rfl) (by omega) dX4_rate_91 ?_
          rw [hS (3 + j) (by omega)]
          refine g_istore_n (pc := 92) o 3 dX4_rate_92 rfl rfl ?_
          refine g_iload_n (pc := 93) o 3 dX4_rate_93 rfl rfl ?_
          refine g_aload_n (pc := 94) o 0 dX4_rate_94 rfl rfl ?_
          refine g_getR (pc := 95) o flRX4_13 rfl (by omega) y3 dX4_rate_95 ?_
          refine g_bipush (pc := 98) (v := 26) o dX4_rate_98 (by decide) ?_
          refine g_iload_n (pc := 100) o 2 dX4_rate_100 rfl rfl ?_
          refine g_iadd (pc := 101) o dX4_rate_101 ?_
          refine g_iald (pc := 102) o ((26 + j)) rfl (by omega) (nI_addE rfl rfl) (by omega) dX4_rate_102 ?_
          rw [hT (26 + j) (by omega)]
          refine g_S1i (pc := 103) o lkRX4_155 cmX4_ones (cX4ones (by omega)) rfl rfl ⟨Nat.le_refl _, Nat.le_refl _⟩ dX4_rate_103 ?_
          refine g_iadd (pc := 106) o dX4_rate_106 ?_
          refine g_istore (pc := 107) o dX4_rate_107 rfl ?_
          refine g_iload_n (pc := 109) o 3 dX4_rate_109 rfl rfl ?_
          refine g_aload_n (pc := 110) o 0 dX4_rate_110 rfl rfl ?_
          refine g_getR (pc := 111) o flRX4_13 rfl (by omega) y3 dX4_rate_111 ?_
          refine g_bipush (pc := 114) (v := 32) o dX4_rate_114 (by decide) ?_
          refine g_iload_n (pc := 116) o 2 dX4_rate_116 rfl rfl ?_
          refine g_iadd (pc := 117) o dX4_rate_117 ?_
          refine g_iald (pc := 118) o ((32 + j)) rfl (by omega) (nI_addE rfl rfl) (by omega) dX4_rate_118 ?_
          rw [hT (32 + j) (by omega)]
          refine g_isub (pc := 119) o dX4_rate_119 ?_
          refine g_istore (pc := 120) o dX4_rate_120 rfl ?_
          refine g_iload_n (pc := 122) o 1 dX4_rate_122 rfl rfl ?_
          refine g_if_ne (pc := 123) o 130 dX4_rate_123 (by decide) (fun q123 => ?_) (fun q123 => ?_)
          · exact absurd (by decide) q123
          · refine g_iload_n (pc := 126) o 3 dX4_rate_126 rfl rfl ?_
            refine g_goto (pc := 127) o 185 dX4_rate_127 (by decide) ?_
            exact g_iret (pc := 185) o f dX4_rate_185 rfl (by unfold aRate; rw [tbv_in hj (by omega), tbv_in (by decide) (by decide)]; show _ = fRate T S j 0; rfl) (hp_L (by unfold gRate; rw [if_pos ⟨g1, g0⟩, nI_clamp (by decide)]; rfl))
      | 1, _ =>
        refine g_aload_n (pc := 20) o 0 dX4_rate_20 rfl rfl ?_
        refine g_dup (pc := 21) o dX4_rate_21 rfl ?_
        refine g_getJ (pc := 22) o flRX4_198 rfl (by omega) dX4_rate_22 ?_
        refine g_iload_n (pc := 25) o 1 dX4_rate_25 rfl rfl ?_
        refine g_if_ne (pc := 26) o 33 dX4_rate_26 (by decide) (fun q26 => ?_) (fun q26 => ?_)
        · refine g_iload_n (pc := 33) o 1 dX4_rate_33 rfl rfl ?_
          refine g_iconst (pc := 34) (v := 1) o dX4_rate_34 (by decide) ?_
          refine g_icmp_ne (pc := 35) o 44 dX4_rate_35 (by decide) (fun q35 => ?_) (fun q35 => ?_)
          · exact absurd rfl q35
          · refine g_ldc2 (pc := 38) o ctRX4_202 dX4_rate_38 ?_
            refine g_goto (pc := 41) o 80 dX4_rate_41 (by decide) ?_
            refine g_ladd (pc := 80) o dX4_rate_80 ?_
            refine g_putJ (pc := 81) o flRX4_198 rfl rfl (by omega) dX4_rate_81 ?_
            refine g_aload_n (pc := 84) o 0 dX4_rate_84 rfl rfl ?_
            refine g_getR (pc := 85) o flRX4_19 rfl (by omega) y5 dX4_rate_85 ?_
            refine g_iconst (pc := 88) (v := 3) o dX4_rate_88 (by decide) ?_
            refine g_iload_n (pc := 89) o 2 dX4_rate_89 rfl rfl ?_
            refine g_iadd (pc := 90) o dX4_rate_90 ?_
            refine g_iald (pc := 91) o ((3 + j)) rfl (by omega) (nI_addE rfl rfl) (by omega) dX4_rate_91 ?_
            rw [hS (3 + j) (by omega)]
            refine g_istore_n (pc := 92) o 3 dX4_rate_92 rfl rfl ?_
            refine g_iload_n (pc := 93) o 3 dX4_rate_93 rfl rfl ?_
            refine g_aload_n (pc := 94) o 0 dX4_rate_94 rfl rfl ?_
            refine g_getR (pc := 95) o flRX4_13 rfl (by omega) y3 dX4_rate_95 ?_
            refine g_bipush (pc := 98) (v := 26) o dX4_rate_98 (by decide) ?_
            refine g_iload_n (pc := 100) o 2 dX4_rate_100 rfl rfl ?_
            refine g_iadd (pc := 101) o dX4_rate_101 ?_
            refine g_iald (pc := 102) o ((26 + j)) rfl (by omega) (nI_addE rfl rfl) (by omega) dX4_rate_102 ?_
            rw [hT (26 + j) (by omega)]
            refine g_S1i (pc := 103) o lkRX4_155 cmX4_ones (cX4ones (by omega)) rfl rfl ⟨Nat.le_refl _, Nat.le_refl _⟩ dX4_rate_103 ?_
            refine g_iadd (pc := 106) o dX4_rate_106 ?_
            refine g_istore (pc := 107) o dX4_rate_107 rfl ?_
            refine g_iload_n (pc := 109) o 3 dX4_rate_109 rfl rfl ?_
            refine g_aload_n (pc := 110) o 0 dX4_rate_110 rfl rfl ?_
            refine g_getR (pc := 111) o flRX4_13 rfl (by omega) y3 dX4_rate_111 ?_
            refine g_bipush (pc := 114) (v := 32) o dX4_rate_114 (by decide) ?_
            refine g_iload_n (pc := 116) o 2 dX4_rate_116 rfl rfl ?_
            refine g_iadd (pc := 117) o dX4_rate_117 ?_
            refine g_iald (pc := 118) o ((32 + j)) rfl (by omega) (nI_addE rfl rfl) (by omega) dX4_rate_118 ?_
            rw [hT (32 + j) (by omega)]
            refine g_isub (pc := 119) o dX4_rate_119 ?_
            refine g_istore (pc := 120) o dX4_rate_120 rfl ?_
            refine g_iload_n (pc := 122) o 1 dX4_rate_122 rfl rfl ?_
            refine g_if_ne (pc := 123) o 130 dX4_rate_123 (by decide) (fun q123 => ?_) (fun q123 => ?_)
            · refine g_iload_n (pc := 130) o 1 dX4_rate_130 rfl rfl ?_
              refine g_iconst (pc := 131) (v := 1) o dX4_rate_131 (by decide) ?_
              refine g_icmp_ne (pc := 132) o 140 dX4_rate_132 (by decide) (fun q132 => ?_) (fun q132 => ?_)
              · exact absurd rfl q132
              · refine g_iload (pc := 135) o dX4_rate_135 rfl ?_
                refine g_goto (pc := 137) o 185 dX4_rate_137 (by decide) ?_
                exact g_iret (pc := 185) o f dX4_rate_185 rfl (by unfold aRate; rw [tbv_in hj (by omega), tbv_in (by decide) (by decide)]; show _ = fRate T S j 1; rw [nI_add]; rfl) (hp_L (by unfold gRate; rw [if_pos ⟨g1, g0⟩, nI_clamp (by decide)]; rfl))
            · exact absurd q123 (by decide)
        · exact absurd q26 (by decide)
      | 2, _ =>
        refine g_aload_n (pc := 20) o 0 dX4_rate_20 rfl rfl ?_
        refine g_dup (pc := 21) o dX4_rate_21 rfl ?_
        refine g_getJ (pc := 22) o flRX4_198 rfl (by omega) dX4_rate_22 ?_
        refine g_iload_n (pc := 25) o 1 dX4_rate_25 rfl rfl ?_
        refine g_if_ne (pc := 26) o 33 dX4_rate_26 (by decide) (fun q26 => ?_) (fun q26 => ?_)
        · refine g_iload_n (pc := 33) o 1 dX4_rate_33 rfl rfl ?_
          refine g_iconst (pc := 34) (v := 1) o dX4_rate_34 (by decide) ?_
          refine g_icmp_ne (pc := 35) o 44 dX4_rate_35 (by decide) (fun q35 => ?_) (fun q35 => ?_)
          · refine g_iload_n (pc := 44) o 1 dX4_rate_44 rfl rfl ?_
            refine g_iconst (pc := 45) (v := 2) o dX4_rate_45 (by decide) ?_
            refine g_icmp_ne (pc := 46) o 55 dX4_rate_46 (by decide) (fun q46 => ?_) (fun q46 => ?_)
            · exact absurd rfl q46
            · refine g_ldc2 (pc := 49) o ctRX4_204 dX4_rate_49 ?_
              refine g_goto (pc := 52) o 80 dX4_rate_52 (by decide) ?_
              refine g_ladd (pc := 80) o dX4_rate_80 ?_
              refine g_putJ (pc := 81) o flRX4_198 rfl rfl (by omega) dX4_rate_81 ?_
              refine g_aload_n (pc := 84) o 0 dX4_rate_84 rfl rfl ?_
              refine g_getR (pc := 85) o flRX4_19 rfl (by omega) y5 dX4_rate_85 ?_
              refine g_iconst (pc := 88) (v := 3) o dX4_rate_88 (by decide) ?_
              refine g_iload_n (pc := 89) o 2 dX4_rate_89 rfl rfl ?_
              refine g_iadd (pc := 90) o dX4_rate_90 ?_
              refine g_iald (pc := 91) o ((3 + j)) rfl (by omega) (nI_addE rfl rfl) (by omega) dX4_rate_91 ?_
              rw [hS (3 + j) (by omega)]
              refine g_istore_n (pc := 92) o 3 dX4_rate_92 rfl rfl ?_
              refine g_iload_n (pc := 93) o 3 dX4_rate_93 rfl rfl ?_
              refine g_aload_n (pc := 94) o 0 dX4_rate_94 rfl rfl ?_
              refine g_getR (pc := 95) o flRX4_13 rfl (by omega) y3 dX4_rate_95 ?_
              refine g_bipush (pc := 98) (v := 26) o dX4_rate_98 (by decide) ?_
              refine g_iload_n (pc := 100) o 2 dX4_rate_100 rfl rfl ?_
              refine g_iadd (pc := 101) o dX4_rate_101 ?_
              refine g_iald (pc := 102) o ((26 + j)) rfl (by omega) (nI_addE rfl rfl) (by omega) dX4_rate_102 ?_
              rw [hT (26 + j) (by omega)]
              refine g_S1i (pc := 103) o lkRX4_155 cmX4_ones (cX4ones (by omega)) rfl rfl ⟨Nat.le_refl _, Nat.le_refl _⟩ dX4_rate_103 ?_
              refine g_iadd (pc := 106) o dX4_rate_106 ?_
              refine g_istore (pc := 107) o dX4_rate_107 rfl ?_
              refine g_iload_n (pc := 109) o 3 dX4_rate_109 rfl rfl ?_
              refine g_aload_n (pc := 110) o 0 dX4_rate_110 rfl rfl ?_
              refine g_getR (pc := 111) o flRX4_13 rfl (by omega) y3 dX4_rate_111 ?_
              refine g_bipush (pc := 114) (v := 32) o dX4_rate_114 (by decide) ?_
              refine g_iload_n (pc := 116) o 2 dX4_rate_116 rfl rfl ?_
              refine g_iadd (pc := 117) o dX4_rate_117 ?_
              refine g_iald (pc := 118) o ((32 + j)) rfl (by omega) (nI_addE rfl rfl) (by omega) dX4_rate_118 ?_
              rw [hT (32 + j) (by omega)]
              refine g_isub (pc := 119) o dX4_rate_119 ?_
              refine g_istore (pc := 120) o dX4_rate_120 rfl ?_
              refine g_iload_n (pc := 122) o 1 dX4_rate_122 rfl rfl ?_
              refine g_if_ne (pc := 123) o 130 dX4_rate_123 (by decide) (fun q123 => ?_) (fun q123 => ?_)
              · refine g_iload_n (pc := 130) o 1 dX4_rate_130 rfl rfl ?_
                refine g_iconst (pc := 131) (v := 1) o dX4_rate_131 (by decide) ?_
                refine g_icmp_ne (pc := 132) o 140 dX4_rate_132 (by decide) (fun q132 => ?_) (fun q132 => ?_)
                · refine g_iload_n (pc := 140) o 1 dX4_rate_140 rfl rfl ?_
                  refine g_iconst (pc := 141) (v := 2) o dX4_rate_141 (by decide) ?_
                  refine g_icmp_ne (pc := 142) o 150 dX4_rate_142 (by decide) (fun q142 => ?_) (fun q142 => ?_)
                  · exact absurd rfl q142
                  · refine g_iload (pc := 145) o dX4_rate_145 rfl ?_
                    refine g_goto (pc := 147) o 185 dX4_rate_147 (by decide) ?_
                    exact g_iret (pc := 185) o f dX4_rate_185 rfl (by unfold aRate; rw [tbv_in hj (by omega), tbv_in (by decide) (by decide)]; show _ = fRate T S j 2; rfl) (hp_L (by unfold gRate; rw [if_pos ⟨g1, g0⟩, nI_clamp (by decide)]; rfl))
                · exact absurd q132 (by decide)
              · exact absurd q123 (by decide)
          · exact absurd q35 (by decide)
        · exact absurd q26 (by decide)
      | 3, _ =>
        refine g_aload_n (pc := 20) o 0 dX4_rate_20 rfl rfl ?_
        refine g_dup (pc := 21) o dX4_rate_21 rfl ?_
        refine g_getJ (pc := 22) o flRX4_198 rfl (by omega) dX4_rate_22 ?_
        refine g_iload_n (pc := 25) o 1 dX4_rate_25 rfl rfl ?_
        refine g_if_ne (pc := 26) o 33 dX4_rate_26 (by decide) (fun q26 => ?_) (fun q26 => ?_)
        · refine g_iload_n (pc := 33) o 1 dX4_rate_33 rfl rfl ?_
          refine g_iconst (pc := 34) (v := 1) o dX4_rate_34 (by decide) ?_
          refine g_icmp_ne (pc := 35) o 44 dX4_rate_35 (by decide) (fun q35 => ?_) (fun q35 => ?_)
          · refine g_iload_n (pc := 44) o 1 dX4_rate_44 rfl rfl ?_
            refine g_iconst (pc := 45) (v := 2) o dX4_rate_45 (by decide) ?_
            refine g_icmp_ne (pc := 46) o 55 dX4_rate_46 (by decide) (fun q46 => ?_) (fun q46 => ?_)
            · refine g_iload_n (pc := 55) o 1 dX4_rate_55 rfl rfl ?_
              refine g_iconst (pc := 56) (v := 3) o dX4_rate_56 (by decide) ?_
              refine g_icmp_ne (pc := 57) o 66 dX4_rate_57 (by decide) (fun q57 => ?_) (fun q57 => ?_)
              · exact absurd rfl q57
              · refine g_ldc2 (pc := 60) o ctRX4_206 dX4_rate_60 ?_
                refine g_goto (pc := 63) o 80 dX4_rate_63 (by decide) ?_
                refine g_ladd (pc := 80) o dX4_rate_80 ?_
                refine g_putJ (pc := 81) o flRX4_198 rfl rfl (by omega) dX4_rate_81 ?_
                refine g_aload_n (pc := 84) o 0 dX4_rate_84 rfl rfl ?_
                refine g_getR (pc := 85) o flRX4_19 rfl (by omega) y5 dX4_rate_85 ?_
                refine g_iconst (pc := 88) (v := 3) o dX4_rate_88 (by decide) ?_
                refine g_iload_n (pc := 89) o 2 dX4_rate_89 rfl rfl ?_
                refine g_iadd (pc := 90) o dX4_rate_90 ?_
                refine g_iald (pc := 91) o ((3 + j)) rfl (by omega) (nI_addE rfl rfl) (by omega) dX4_rate_91 ?_
                rw [hS (3 + j) (by omega)]
                refine g_istore_n (pc := 92) o 3 dX4_rate_92 rfl rfl ?_
                refine g_iload_n (pc := 93) o 3 dX4_rate_93 rfl rfl ?_
                refine g_aload_n (pc := 94) o 0 dX4_rate_94 rfl rfl ?_
                refine g_getR (pc := 95) o flRX4_13 rfl (by omega) y3 dX4_rate_95 ?_
                refine g_bipush (pc := 98) (v := 26) o dX4_rate_98 (by decide) ?_
                refine g_iload_n (pc := 100) o 2 dX4_rate_100 rfl rfl ?_
                refine g_iadd (pc := 101) o dX4_rate_101 ?_
                refine g_iald (pc := 102) o ((26 + j)) rfl (by omega) (nI_addE rfl rfl) (by omega) dX4_rate_102 ?_
                rw [hT (26 + j) (by omega)]
                refine g_S1i (pc := 103) o lkRX4_155 cmX4_ones (cX4ones (by omega)) rfl rfl ⟨Nat.le_refl _, Nat.le_refl _⟩ dX4_rate_103 ?_
                refine g_iadd (pc := 106) o dX4_rate_106 ?_
                refine g_istore (pc := 107) o dX4_rate_107 rfl ?_
                refine g_iload_n (pc := 109) o 3 dX4_rate_109 rfl rfl ?_
                refine g_aload_n (pc := 110) o 0 dX4_rate_110 rfl rfl ?_
                refine g_getR (pc := 111) o flRX4_13 rfl (by omega) y3 dX4_rate_111 ?_
                refine g_bipush (pc := 114) (v := 32) o dX4_rate_114 (by decide) ?_
                refine g_iload_n (pc := 116) o 2 dX4_rate_116 rfl rfl ?_
                refine g_iadd (pc := 117) o dX4_rate_117 ?_
                refine g_iald (pc := 118) o ((32 + j)) rfl (by omega) (nI_addE rfl rfl) (by omega) dX4_rate_118 ?_
                rw [hT (32 + j) (by omega)]
                refine g_isub (pc := 119) o dX4_rate_119 ?_
                refine g_istore (pc := 120) o dX4_rate_120 rfl ?_
                refine g_iload_n (pc := 122) o 1 dX4_rate_122 rfl rfl ?_
                refine g_if_ne (pc := 123) o 130 dX4_rate_123 (by decide) (fun q123 => ?_) (fun q123 => ?_)
                · refine g_iload_n (pc := 130) o 1 dX4_rate_130 rfl rfl ?_
                  refine g_iconst (pc := 131) (v := 1) o dX4_rate_131 (by decide) ?_
                  refine g_icmp_ne (pc := 132) o 140 dX4_rate_132 (by decide) (fun q132 => ?_) (fun q132 => ?_)
                  · refine g_iload_n (pc := 140) o 1 dX4_rate_140 rfl rfl ?_
                    refine g_iconst (pc := 141) (v := 2) o dX4_rate_141 (by decide) ?_
                    refine g_icmp_ne (pc := 142) o 150 dX4_rate_142 (by decide) (fun q142 => ?_) (fun q142 => ?_)
                    · refine g_iload_n (pc := 150) o 1 dX4_rate_150 rfl rfl ?_
                      refine g_iconst (pc := 151) (v := 3) o dX4_rate_151 (by decide) ?_
                      refine g_icmp_ne (pc := 152) o 162 dX4_rate_152 (by decide) (fun q152 => ?_) (fun q152 => ?_)
                      · exact absurd rfl q152
                      · refine g_iconst (pc := 155) (v := 2) o dX4_rate_155 (by decide) ?_
                        refine g_iload (pc := 156) o dX4_rate_156 rfl ?_
                        refine g_imul (pc := 158) o dX4_rate_158 ?_
                        refine g_goto (pc := 159) o 185 dX4_rate_159 (by decide) ?_
                        exact g_iret (pc := 185) o f dX4_rate_185 rfl (by unfold aRate; rw [tbv_in hj (by omega), tbv_in (by decide) (by decide)]; show _ = fRate T S j 3; rw [nI_add]; rfl) (hp_L (by unfold gRate; rw [if_pos ⟨g1, g0⟩, nI_clamp (by decide)]; rfl))
                    · exact absurd q142 (by decide)
                  · exact absurd q132 (by decide)
                · exact absurd q123 (by decide)
            · exact absurd q46 (by decide)
          · exact absurd q35 (by decide)
        · exact absurd q26 (by decide)
      | 4, _ =>
        refine g_aload_n (pc := 20) o 0 dX4_rate_20 rfl rfl ?_
        refine g_dup (pc := 21) o dX4_rate_21 rfl ?_
        refine g_getJ (pc := 22) o flRX4_198 rfl (by omega) dX4_rate_22 ?_
        refine g_iload_n (pc := 25) o 1 dX4_rate_25 rfl rfl ?_
        refine g_if_ne (pc := 26) o 33 dX4_rate_26 (by decide) (fun q26 => ?_) (fun q26 => ?_)
        · refine g_iload_n (pc := 33) o 1 dX4_rate_33 rfl rfl ?_
          refine g_iconst (pc := 34) (v := 1) o dX4_rate_34 (by decide) ?_
          refine g_icmp_ne (pc := 35) o 44 dX4_rate_35 (by decide) (fun q35 => ?_) (fun q35 => ?_)
          · refine g_iload_n (pc := 44) o 1 dX4_rate_44 rfl rfl ?_
            refine g_iconst (pc := 45) (v := 2) o dX4_rate_45 (by decide) ?_
            refine g_icmp_ne (pc := 46) o 55 dX4_rate_46 (by decide) (fun q46 => ?_) (fun q46 => ?_)
            · refine g_iload_n (pc := 55) o 1 dX4_rate_55 rfl rfl ?_
              refine g_iconst (pc := 56) (v := 3) o dX4_rate_56 (by decide) ?_
              refine g_icmp_ne (pc := 57) o 66 dX4_rate_57 (by decide) (fun q57 => ?_) (fun q57 => ?_)
              · refine g_iload_n (pc := 66) o 1 dX4_rate_66 rfl rfl ?_
                refine g_iconst (pc := 67) (v := 4) o dX4_rate_67 (by decide) ?_
                refine g_icmp_ne (pc := 68) o 77 dX4_rate_68 (by decide) (fun q68 => ?_) (fun q68 => ?_)
                · exact absurd rfl q68
                · refine g_ldc2 (pc := 71) o ctRX4_208 dX4_rate_71 ?_
                  refine g_goto (pc := 74) o 80 dX4_rate_74 (by decide) ?_
                  refine g_ladd (pc := 80) o dX4_rate_80 ?_
                  refine g_putJ (pc := 81) o flRX4_198 rfl rfl (by omega) dX4_rate_81 ?_
                  refine g_aload_n (pc := 84) o 0 dX4_rate_84 rfl rfl ?_
                  refine g_getR (pc := 85) o flRX4_19 rfl (by omega) y5 dX4_rate_85 ?_
                  refine g_iconst (pc := 88) (v := 3) o dX4_rate_88 (by decide) ?_
                  refine g_iload_n (pc := 89) o 2 dX4_rate_89 rfl rfl ?_
                  refine g_iadd (pc := 90) o dX4_rate_90 ?_
                  refine g_iald (pc := 91) o ((3 + j)) rfl (by omega) (nI_addE rfl rfl) (by omega) dX4_rate_91 ?_
                  rw [hS (3 + j) (by omega)]
                  refine g_istore_n (pc := 92) o 3 dX4_rate_92 rfl rfl ?_
                  refine g_iload_n (pc := 93) o 3 dX4_rate_93 rfl rfl ?_
                  refine g_aload_n (pc := 94) o 0 dX4_rate_94 rfl rfl ?_
                  refine g_getR (pc := 95) o flRX4_13 rfl (by omega) y3 dX4_rate_95 ?_
                  refine g_bipush (pc := 98) (v := 26) o dX4_rate_98 (by decide) ?_
                  refine g_iload_n (pc := 100) o 2 dX4_rate_100 rfl rfl ?_
                  refine g_iadd (pc := 101) o dX4_rate_101 ?_
                  refine g_iald (pc := 102) o ((26 + j)) rfl (by omega) (nI_addE rfl rfl) (by omega) dX4_rate_102 ?_
                  rw [hT (26 + j) (by omega)]
                  refine g_S1i (pc := 103) o lkRX4_155 cmX4_ones (cX4ones (by omega)) rfl rfl ⟨Nat.le_refl _, Nat.le_refl _⟩ dX4_rate_103 ?_
                  refine g_iadd (pc := 106) o dX4_rate_106 ?_
                  refine g_istore (pc := 107) o dX4_rate_107 rfl ?_
                  refine g_iload_n (pc := 109) o 3 dX4_rate_109 rfl rfl ?_
                  refine g_aload_n (pc := 110) o 0 dX4_rate_110 rfl rfl ?_
                  refine g_getR (pc := 111) o flRX4_13 rfl (by omega) y3 dX4_rate_111 ?_
                  refine g_bipush (pc := 114) (v := 32) o dX4_rate_114 (by decide) ?_
                  refine g_iload_n (pc := 116) o 2 dX4_rate_116 rfl rfl ?_
                  refine g_iadd (pc := 117) o dX4_rate_117 ?_
                  refine g_iald (pc := 118) o ((32 + j)) rfl (by omega) (nI_addE rfl rfl) (by omega) dX4_rate_118 ?_
                  rw [hT (32 + j) (by omega)]
                  refine g_isub (pc := 119) o dX4_rate_119 ?_
                  refine g_istore (pc := 120) o dX4_rate_120 rfl ?_
                  refine g_iload_n (pc := 122) o 1 dX4_rate_122 rfl rfl ?_
                  refine g_if_ne (pc := 123) o 130 dX4_rate_123 (by decide) (fun q123 => ?_) (fun q123 => ?_)
                  · refine g_iload_n (pc := 130) o 1 dX4_rate_130 rfl rfl ?_
                    refine g_iconst (pc := 131) (v := 1) o dX4_rate_131 (by decide) ?_
                    refine g_icmp_ne (pc := 132) o 140 dX4_rate_132 (by decide) (fun q132 => ?_) (fun q132 => ?_)
                    · refine g_iload_n (pc := 140) o 1 dX4_rate_140 rfl rfl ?_
                      refine g_iconst (pc := 141) (v := 2) o dX4_rate_141 (by decide) ?_
                      refine g_icmp_ne (pc := 142) o 150 dX4_rate_142 (by decide) (fun q142 => ?_) (fun q142 => ?_)
                      · refine g_iload_n (pc := 150) o 1 dX4_rate_150 rfl rfl ?_
                        refine g_iconst (pc := 151) (v := 3) o dX4_rate_151 (by decide) ?_
                        refine g_icmp_ne (pc := 152) o 162 dX4_rate_152 (by decide) (fun q152 => ?_) (fun q152 => ?_)
                        · refine g_iload_n (pc := 162) o 1 dX4_rate_162 rfl rfl ?_
                          refine g_iconst (pc := 163) (v := 4) o dX4_rate_163 (by decide) ?_
                          refine g_icmp_ne (pc := 164) o 174 dX4_rate_164 (by decide) (fun q164 => ?_) (fun q164 => ?_)
                          · exact absurd rfl q164
                          · refine g_iload (pc := 167) o dX4_rate_167 rfl ?_
                            refine g_iload_n (pc := 169) o 2 dX4_rate_169 rfl rfl ?_
                            refine g_iadd (pc := 170) o dX4_rate_170 ?_
                            refine g_goto (pc := 171) o 185 dX4_rate_171 (by decide) ?_
                            exact g_iret (pc := 185) o f dX4_rate_185 rfl (by unfold aRate; rw [tbv_in hj (by omega), tbv_in (by decide) (by decide)]; show _ = fRate T S j 4; rfl) (hp_L (by unfold gRate; rw [if_pos ⟨g1, g0⟩, nI_clamp (by decide)]; rfl))
                        · exact absurd q152 (by decide)
                      · exact absurd q142 (by decide)
                    · exact absurd q132 (by decide)
                  · exact absurd q123 (by decide)
              · exact absurd q57 (by decide)
            · exact absurd q46 (by decide)
          · exact absurd q35 (by decide)
        · exact absurd q26 (by decide)
      | 5, _ =>
        refine g_aload_n (pc := 20) o 0 dX4_rate_20 rfl rfl ?_
        refine g_dup (pc := 21) o dX4_rate_21 rfl ?_
        refine g_getJ (pc := 22) o flRX4_198 rfl (by omega) dX4_rate_22 ?_
        refine g_iload_n (pc := 25) o 1 dX4_rate_25 rfl rfl ?_
        refine g_if_ne (pc := 26) o 33 dX4_rate_26 (by decide) (fun q26 => ?_) (fun q26 => ?_)
        · refine g_iload_n (pc := 33) o 1 dX4_rate_33 rfl rfl ?_
          refine g_iconst (pc := 34) (v := 1) o dX4_rate_34 (by decide) ?_
          refine g_icmp_ne (pc := 35) o 44 dX4_rate_35 (by decide) (fun q35 => ?_) (fun q35 => ?_)
          · refine g_iload_n (pc := 44) o 1 dX4_rate_44 rfl rfl ?_
            refine g_iconst (pc := 45) (v := 2) o dX4_rate_45 (by decide) ?_
            refine g_icmp_ne (pc := 46) o 55 dX4_rate_46 (by decide) (fun q46 => ?_) (fun q46 => ?_)
            · refine g_iload_n (pc := 55) o 1 dX4_rate_55 rfl rfl ?_
              refine g_iconst (pc := 56) (v := 3) o dX4_rate_56 (by decide) ?_
              refine g_icmp_ne (pc := 57) o 66 dX4_rate_57 (by decide) (fun q57 => ?_) (fun q57 => ?_)
              · refine g_iload_n (pc := 66) o 1 dX4_rate_66 rfl rfl ?_
                refine g_iconst (pc := 67) (v := 4) o dX4_rate_67 (by decide) ?_
                refine g_icmp_ne (pc := 68) o 77 dX4_rate_68 (by decide) (fun q68 => ?_) (fun q68 => ?_)
                · refine g_ldc2 (pc := 77) o ctRX4_210 dX4_rate_77 ?_
                  refine g_ladd (pc := 80) o dX4_rate_80 ?_
                  refine g_putJ (pc := 81) o flRX4_198 rfl rfl (by omega) dX4_rate_81 ?_
                  refine g_aload_n (pc := 84) o 0 dX4_rate_84 rfl rfl ?_
                  refine g_getR (pc := 85) o flRX4_19 rfl (by omega) y5 dX4_rate_85 ?_
                  refine g_iconst (pc := 88) (v := 3) o dX4_rate_88 (by decide) ?_
                  refine g_iload_n (pc := 89) o 2 dX4_rate_89 rfl rfl ?_
                  refine g_iadd (pc := 90) o dX4_rate_90 ?_
                  refine g_iald (pc := 91) o ((3 + j)) rfl (by omega) (nI_addE rfl rfl) (by omega) dX4_rate_91 ?_
                  rw [hS (3 + j) (by omega)]
                  refine g_istore_n (pc := 92) o 3 dX4_rate_92 rfl rfl ?_
                  refine g_iload_n (pc := 93) o 3 dX4_rate_93 rfl rfl ?_
                  refine g_aload_n (pc := 94) o 0 dX4_rate_94 rfl rfl ?_
                  refine g_getR (pc := 95) o flRX4_13 rfl (by omega) y3 dX4_rate_95 ?_
                  refine g_bipush (pc := 98) (v := 26) o dX4_rate_98 (by decide) ?_
                  refine g_iload_n (pc := 100) o 2 dX4_rate_100 rfl rfl ?_
                  refine g_iadd (pc := 101) o dX4_rate_101 ?_
                  refine g_iald (pc := 102) o ((26 + j)) rfl (by omega) (nI_addE rfl rfl) (by omega) dX4_rate_102 ?_
                  rw [hT (26 + j) (by omega)]
                  refine g_S1i (pc := 103) o lkRX4_155 cmX4_ones (cX4ones (by omega)) rfl rfl ⟨Nat.le_refl _, Nat.le_refl _⟩ dX4_rate_103 ?_
                  refine g_iadd (pc := 106) o dX4_rate_106 ?_
                  refine g_istore (pc := 107) o dX4_rate_107 rfl ?_
                  refine g_iload_n (pc := 109) o 3 dX4_rate_109 rfl rfl ?_
                  refine g_aload_n (pc := 110) o 0 dX4_rate_110 rfl rfl ?_
                  refine g_getR (pc := 111) o flRX4_13 rfl (by omega) y3 dX4_rate_111 ?_
                  refine g_bipush (pc := 114) (v := 32) o dX4_rate_114 (by decide) ?_
                  refine g_iload_n (pc := 116) o 2 dX4_rate_116 rfl rfl ?_
                  refine g_iadd (pc := 117) o dX4_rate_117 ?_
                  refine g_iald (pc := 118) o ((32 + j)) rfl (by omega) (nI_addE rfl rfl) (by omega) dX4_rate_118 ?_
                  rw [hT (32 + j) (by omega)]
                  refine g_isub (pc := 119) o dX4_rate_119 ?_
                  refine g_istore (pc := 120) o dX4_rate_120 rfl ?_
                  refine g_iload_n (pc := 122) o 1 dX4_rate_122 rfl rfl ?_
                  refine g_if_ne (pc := 123) o 130 dX4_rate_123 (by decide) (fun q123 => ?_) (fun q123 => ?_)
                  · refine g_iload_n (pc := 130) o 1 dX4_rate_130 rfl rfl ?_
                    refine g_iconst (pc := 131) (v := 1) o dX4_rate_131 (by decide) ?_
                    refine g_icmp_ne (pc := 132) o 140 dX4_rate_132 (by decide) (fun q132 => ?_) (fun q132 => ?_)
                    · refine g_iload_n (pc := 140) o 1 dX4_rate_140 rfl rfl ?_
                      refine g_iconst (pc := 141) (v := 2) o dX4_rate_141 (by decide) ?_
                      refine g_icmp_ne (pc := 142) o 150 dX4_rate_142 (by decide) (fun q142 => ?_) (fun q142 => ?_)
                      · refine g_iload_n (pc := 150) o 1 dX4_rate_150 rfl rfl ?_
                        refine g_iconst (pc := 151) (v := 3) o dX4_rate_151 (by decide) ?_
                        refine g_icmp_ne (pc := 152) o 162 dX4_rate_152 (by decide) (fun q152 => ?_) (fun q152 => ?_)
                        · refine g_iload_n (pc := 162) o 1 dX4_rate_162 rfl rfl ?_
                          refine g_iconst (pc := 163) (v := 4) o dX4_rate_163 (by decide) ?_
                          refine g_icmp_ne (pc := 164) o 174 dX4_rate_164 (by decide) (fun q164 => ?_) (fun q164 => ?_)
                          · refine g_iload_n (pc := 174) o 3 dX4_rate_174 rfl rfl ?_
                            refine g_aload_n (pc := 175) o 0 dX4_rate_175 rfl rfl ?_
                            refine g_getR (pc := 176) o flRX4_19 rfl (by omega) y5 dX4_rate_176 ?_
                            refine g_bipush (pc := 179) (v := 15) o dX4_rate_179 (by decide) ?_
                            refine g_iload_n (pc := 181) o 2 dX4_rate_181 rfl rfl ?_
                            refine g_iadd (pc := 182) o dX4_rate_182 ?_
                            refine g_iald (pc := 183) o ((15 + j)) rfl (by omega) (nI_addE rfl rfl) (by omega) dX4_rate_183 ?_
                            rw [hS (15 + j) (by omega)]
                            refine g_iadd (pc := 184) o dX4_rate_184 ?_
                            exact g_iret (pc := 185) o f dX4_rate_185 rfl (by unfold aRate; rw [tbv_in hj (by omega), tbv_in (by decide) (by decide)]; show _ = fRate T S j 5; exact nI_add _ _) (hp_L (by unfold gRate; rw [if_pos ⟨g1, g0⟩, nI_clamp (by decide)]; rfl))
                          · exact absurd q164 (by decide)
                        · exact absurd q152 (by decide)
                      · exact absurd q142 (by decide)
                    · exact absurd q132 (by decide)
                  · exact absurd q123 (by decide)
                · exact absurd q68 (by decide)
              · exact absurd q57 (by decide)
            · exact absurd q46 (by decide)
          · exact absurd q35 (by decide)
        · exact absurd q26 (by decide)
    · have g := bi_z.mp q14
      refine g_ldc (pc := 17) o ctRX4_197 dX4_rate_17 ?_
      exact g_iret (pc := 19) o f dX4_rate_19 rfl (by first | exact (rate_o1 (by omega) g).symm | exact (rate_o2 g).symm) (hp_L (by unfold gRate; rw [if_neg (by intro hh; first | exact g hh.1 | exact g hh.2), st2_self]))

end M24
