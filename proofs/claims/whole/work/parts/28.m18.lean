section M18
variable {Λ : PL} {d n : Nat} {M : HM} {Rf : HR} {Lg : HL}

/-- the reference's settings: which noises are heard, who is never called, who shams, where a drum is beaten and how loud -/
def MF (M : HM) (hd : Nat) (nv sh di : Int32) (dl : Nat) : Prop := M 96 16 = nI hd ∧ hd < 64 ∧ M 96 17 = nv ∧ M 96 18 = sh ∧ M 96 19 = di ∧ M 96 20 = nI dl ∧ dl < 1000
def mcd (T S : Nat → Nat) (nv : Int32) (cal : Nat) (i : Nat) : Bool := (cal.testBit i && !decide (nI i = nv)) && (!(T (26 + i)).testBit (S 1) && decide (0 < S (3 + i)))
def lou (T S : Nat → Nat) (hd b0 dd : Nat) : Nat → Nat
  | 0 => b0
  | i + 1 => if (hd.testBit i = true ∧ T (38 + i) = dd ∧ T (44 + i) = S 1) ∧ lou T S hd b0 dd i < T (50 + i) then T (50 + i) else lou T S hd b0 dd i
def drB (di : Int32) (dl dd : Nat) : Nat := if di = nI dd then dl else 0
def cntN (q : Nat → Bool) : Nat → Nat
  | 0 => 0
  | k + 1 => cntN q k + bn (q k)
theorem cntN_le (q : Nat → Bool) (k : Nat) : cntN q k ≤ k := by
  induction k with
  | zero => exact Nat.le_refl _
  | succ k ih => have := bn_le (q k); show cntN q k + bn (q k) ≤ k + 1; omega
theorem popn_mk (q : Nat → Bool) (m : Nat) : ∀ k, k ≤ m → popn k (mk q m) = cntN q k := by
  intro k
  induction k with
  | zero => intro _; rfl
  | succ k ih =>
    intro h
    show popn k (mk q m) + bn ((mk q m).testBit k) = cntN q k + bn (q k)
    rw [ih (by omega), mk_bit]
    simp [show k < m by omega]
theorem pop_mk (q : Nat → Bool) {k : Nat} (h : k ≤ 8) : pop (mk q k) = cntN q k := by
  unfold pop
  rw [popn_small (mk_lt q k) 8 h]
  exact popn_mk q k k (Nat.le_refl _)
def lyB (T : Nat → Nat) (cd : Nat → Bool) (c : Nat) : Bool := cd c && decide (pop (lieL T cd c &&& liv T (T (14 + c))) < T (10 + T (14 + c)))
theorem lieL_mk (T : Nat → Nat) (cd : Nat → Bool) (k : Nat) : lieL T cd k = mk (lyB T cd) k := by
  induction k with
  | zero => rfl
  | succ k ih =>
    show lieL T cd k ||| (if lyB T cd k = true then 2 ^ k else 0) = mk (lyB T cd) k ||| (if lyB T cd k then 2 ^ k else 0)
    rw [ih]
/-- how many of the first k lie in a district -/
def usd (T : Nat → Nat) (cd : Nat → Bool) (dd k : Nat) : Nat := cntN (fun i => lyB T cd i && T (14 + i) == dd) k
theorem usd_pop {T : Nat → Nat} (cd : Nat → Bool) (t2 : T 2 ≤ 6) (dd : Nat) {k : Nat} (hk : k ≤ T 2) : pop (lieL T cd k &&& liv T dd) = usd T cd dd k := by
  unfold usd
  rw [← pop_mk _ (show k ≤ 8 by omega)]
  congr 1
  refine bit_ext (k := 6) (and6 (mk6 _ t2)) (mk6 _ (by omega)) (fun i hi => ?_)
  rw [Nat.testBit_and, lieL_mk, mk_bit, mk_bit]
  unfold liv
  rw [mk_bit]
  by_cases h : i < k
  · simp [h, show i < T 2 by omega]
  · simp [h]
def bdS (T : Nat → Nat) (cd : Nat → Bool) (k : Nat) : Nat := usd T cd 0 k + 16 * usd T cd 1 k + 256 * usd T cd 2 k + 4096 * usd T cd 3 k
theorem usd_le (T : Nat → Nat) (cd : Nat → Bool) (dd k : Nat) : usd T cd dd k ≤ k := cntN_le _ _
theorem usd_s (T : Nat → Nat) (cd : Nat → Bool) (dd k : Nat) : usd T cd dd (k + 1) = usd T cd dd k + bn (lyB T cd k && T (14 + k) == dd) := rfl
theorem bd_at (T : Nat → Nat) (cd : Nat → Bool) {dd k : Nat} (hk : k ≤ 6) (hd : dd < 4) : bdS T cd k / 2 ^ (4 * dd) % 16 = usd T cd dd k := by
  have h0 := usd_le T cd 0 k
  have h1 := usd_le T cd 1 k
  have h2 := usd_le T cd 2 k
  have h3 := usd_le T cd 3 k
  unfold bdS
  match dd, hd with
  | 0, _ => simp only [Nat.mul_zero, Nat.pow_zero]; omega
  | 1, _ => rw [show 2 ^ (4 * 1) = 16 from rfl]; omega
  | 2, _ => rw [show 2 ^ (4 * 2) = 256 from rfl]; omega
  | 3, _ => rw [show 2 ^ (4 * 3) = 4096 from rfl]; omega
theorem bd_lt (T : Nat → Nat) (cd : Nat → Bool) {k : Nat} (hk : k ≤ 6) : bdS T cd k < 100000 := by
  have h0 := usd_le T cd 0 k
  have h1 := usd_le T cd 1 k
  have h2 := usd_le T cd 2 k
  have h3 := usd_le T cd 3 k
  unfold bdS; omega
theorem bd_t {T : Nat → Nat} {cd : Nat → Bool} {k : Nat} (h : lyB T cd k = true) (hd : T (14 + k) < 4) : bdS T cd (k + 1) = bdS T cd k + 2 ^ (4 * T (14 + k)) := by
  unfold bdS
  simp only [usd_s, h, Bool.true_and]
  generalize T (14 + k) = dd at hd
  match dd, hd with
  | 0, _ => simp [bn]; omega
  | 1, _ => simp [bn]; omega
  | 2, _ => simp [bn]; omega
  | 3, _ => simp [bn]; omega
theorem bd_f {T : Nat → Nat} {cd : Nat → Bool} {k : Nat} (h : lyB T cd k = false) : bdS T cd (k + 1) = bdS T cd k := by
  unfold bdS
  simp [usd_s, h, bn]
/-- whether c lies and sleeps -/
def slB (T S : Nat → Nat) (hd : Nat) (nv sh di : Int32) (dl cal : Nat) (c : Nat) : Bool := lyB T (mcd T S nv cal) c && (!decide (nI c = sh) && decide (lou T S hd (drB di dl (T (14 + c))) (T (14 + c)) (T 3) ≤ T (32 + c)))
def mSl (T S : Nat → Nat) (hd : Nat) (nv sh di : Int32) (dl cal : Nat) : Nat := mk (slB T S hd nv sh di dl cal) (T 2)
theorem mSl6 {T S : Nat → Nat} {hd : Nat} {nv sh di : Int32} {dl cal : Nat} (h : T 2 ≤ 6) : mSl T S hd nv sh di dl cal < 64 := mk6 _ h
def calN (T S : Nat → Nat) : Nat := mk (fun i => (S (9 + i)).testBit (S 1)) (T 2)
theorem lou_lt {T S : Nat → Nat} {hd b0 dd : Nat} (hb : b0 < 1000) (ht : ∀ i, i < T 3 → T (50 + i) ≤ 9) : ∀ k, k ≤ T 3 → lou T S hd b0 dd k < 1000 := by
  intro k
  induction k with
  | zero => intro _; exact hb
  | succ k ih =>
    intro h
    have := ht k (by omega)
    show (if _ then _ else _) < 1000
    split
    · omega
    · exact ih (by omega)
theorem n_and15 (a : Nat) : nI a &&& 15 = nI (a % 16) := by
  rw [show (15 : Int32) = nI 15 from rfl, n_and]
  congr 1
  exact Nat.and_two_pow_sub_one_eq_mod a 4

set_option maxHeartbeats 2000000 in
set_option maxRecDepth 20000 in
theorem cX4could {b : Nat} {T S : Nat → Nat} (mb : MB M Rf n T S b) {hd dl : Nat} {nv sh di : Int32} (mf : MF M hd nv sh di dl) {c : Nat} (hc : c < T 2) {p : Prop} [Decidable p] : Ret Λ (d) mX4_could [.ref 96, .int (nI c), .int (bi p)] (n, M, Rf, Lg) (some (.int (bi (p ∧ ¬ nI c = nv ∧ (T (26 + c)).testBit (S 1) = false ∧ 0 < S (3 + c))))) (n, M, Rf, Lg) 0 0 := by
  refine Ret.of rfl rfl rfl (fun κ o f hin => ?_)
  obtain ⟨rm, hn, ht, hT, hS, os, hb9⟩ := id mb
  obtain ⟨y1, y3, y4, y5, y6, y8, y9, y10, y21, y22, y23, y24⟩ := id rm
  obtain ⟨⟨t0, t0b⟩, t1, t2, t3, tD, tC, tN⟩ := id ht
  obtain ⟨os0, os1, os2, osc⟩ := id os
  obtain ⟨f16, hd6, f17, f18, f19, f20, hdl⟩ := id mf
  have hx := tC c hc
  have hy := osc c hc
  refine g_iload_n (pc := 0) o 2 dX4_could_0 rfl rfl ?_
  refine g_if_eq (pc := 1) o 48 dX4_could_1 (by decide) (fun q1 => ?_) (fun q1 => ?_)
  · have g := bi_z.mp q1
    refine g_iconst (pc := 48) (v := 0) o dX4_could_48 (by decide) ?_
    exact g_iret (pc := 49) o f dX4_could_49 rfl (by first | exact (bi_t ⟨g, q9, g2, by omega⟩).symm | (refine (bi_f ?_).symm; intro h; obtain ⟨a1, a2, a3, a4⟩ := h; first | exact g a1 | exact a2 q9 | exact absurd (a3.symm.trans g2) (by decide) | omega)) rfl
  · have g := bi_nz.mp q1
    refine g_iload_n (pc := 4) o 1 dX4_could_4 rfl rfl ?_
    refine g_aload_n (pc := 5) o 0 dX4_could_5 rfl rfl ?_
    refine g_getI (pc := 6) o flRX4_39 rfl (by omega) dX4_could_6 ?_
    refine g_icmp_eq (pc := 9) o 48 dX4_could_9 (by decide) (fun q9 => ?_) (fun q9 => ?_)
    · rw [f17] at q9
      refine g_iconst (pc := 48) (v := 0) o dX4_could_48 (by decide) ?_
      exact g_iret (pc := 49) o f dX4_could_49 rfl (by first | exact (bi_t ⟨g, q9, g2, by omega⟩).symm | (refine (bi_f ?_).symm; intro h; obtain ⟨a1, a2, a3, a4⟩ := h; first | exact g a1 | exact a2 q9 | exact absurd (a3.symm.trans g2) (by decide) | omega)) rfl
    · rw [f17] at q9
      refine g_aload_n (pc := 12) o 0 dX4_could_12 rfl rfl ?_
      refine g_getR (pc := 13) o flRX4_13 rfl (by omega) y3 dX4_could_13 ?_
      refine g_bipush (pc := 16) (v := 26) o dX4_could_16 (by decide) ?_
      refine g_iload_n (pc := 18) o 1 dX4_could_18 rfl rfl ?_
      refine g_iadd (pc := 19) o dX4_could_19 ?_
      refine g_iald (pc := 20) o ((26 + c)) rfl (by omega) (nI_addE rfl rfl) (by omega) dX4_could_20 ?_
      refine g_aload_n (pc := 21) o 0 dX4_could_21 rfl rfl ?_
      refine g_getR (pc := 22) o flRX4_19 rfl (by omega) y5 dX4_could_22 ?_
      refine g_iconst (pc := 25) (v := 1) o dX4_could_25 (by decide) ?_
      refine g_iald (pc := 26) o (1) rfl (by omega) rfl (by omega) dX4_could_26 ?_
      rw [hT (26 + c) (by omega), hS 1 (by decide)]
      refine g_ishr (pc := 27) o dX4_could_27 ?_
      refine g_iconst (pc := 28) (v := 1) o dX4_could_28 (by decide) ?_
      refine g_iand (pc := 29) o dX4_could_29 ?_
      rw [n_bit (by omega) (by omega)]
      refine g_if_ne (pc := 30) o 48 dX4_could_30 (by decide) (fun q30 => ?_) (fun q30 => ?_)
      · have g2 : (T (26 + c)).testBit (S 1) = true := by have h := mt bn_zero.mpr q30; simpa using h
        refine g_iconst (pc := 48) (v := 0) o dX4_could_48 (by decide) ?_
        exact g_iret (pc := 49) o f dX4_could_49 rfl (by first | exact (bi_t ⟨g, q9, g2, by omega⟩).symm | (refine (bi_f ?_).symm; intro h; obtain ⟨a1, a2, a3, a4⟩ := h; first | exact g a1 | exact a2 q9 | exact absurd (a3.symm.trans g2) (by decide) | omega)) rfl
      · have g2 : (T (26 + c)).testBit (S 1) = false := bn_zero.mp q30
        refine g_aload_n (pc := 33) o 0 dX4_could_33 rfl rfl ?_
        refine g_getR (pc := 34) o flRX4_19 rfl (by omega) y5 dX4_could_34 ?_
        refine g_iconst (pc := 37) (v := 3) o dX4_could_37 (by decide) ?_
        refine g_iload_n (pc := 38) o 1 dX4_could_38 rfl rfl ?_
        refine g_iadd (pc := 39) o dX4_could_39 ?_
        refine g_iald (pc := 40) o ((3 + c)) rfl (by omega) (nI_addE rfl rfl) (by omega) dX4_could_40 ?_
        rw [hS (3 + c) (by omega)]
        refine g_if_le (pc := 41) o 48 dX4_could_41 (by decide) (fun q41 => ?_) (fun q41 => ?_)
        · have g3 := (le_N (b := 0) (by omega) (by decide) rfl rfl).mp q41
          refine g_iconst (pc := 48) (v := 0) o dX4_could_48 (by decide) ?_
          exact g_iret (pc := 49) o f dX4_could_49 rfl (by first | exact (bi_t ⟨g, q9, g2, by omega⟩).symm | (refine (bi_f ?_).symm; intro h; obtain ⟨a1, a2, a3, a4⟩ := h; first | exact g a1 | exact a2 q9 | exact absurd (a3.symm.trans g2) (by decide) | omega)) rfl
        · have g3 := mt (le_N (b := 0) (by omega) (by decide) rfl rfl).mpr q41
          refine g_iconst (pc := 44) (v := 1) o dX4_could_44 (by decide) ?_
          refine g_goto (pc := 45) o 49 dX4_could_45 (by decide) ?_
          exact g_iret (pc := 49) o f dX4_could_49 rfl (by first | exact (bi_t ⟨g, q9, g2, by omega⟩).symm | (refine (bi_f ?_).symm; intro h; obtain ⟨a1, a2, a3, a4⟩ := h; first | exact g a1 | exact a2 q9 | exact absurd (a3.symm.trans g2) (by decide) | omega)) rfl

set_option maxHeartbeats 2000000 in
set_option maxRecDepth 20000 in
theorem cX4loudest {b : Nat} {T S : Nat → Nat} (mb : MB M Rf n T S b) {hd dl : Nat} {nv sh di : Int32} (mf : MF M hd nv sh di dl) {dd : Nat} (hdd : dd < 1000) : Ret Λ (d) mX4_loudest [.ref 96, .int (nI dd)] (n, M, Rf, Lg) (some (.int (nI (lou T S hd (drB di dl dd) dd (T 3))))) (n, M, Rf, Lg) 0 0 := by
  refine Ret.of rfl rfl rfl (fun κ o f hin => ?_)
  obtain ⟨rm, hn, ht, hT, hS, os, hb9⟩ := id mb
  obtain ⟨y1, y3, y4, y5, y6, y8, y9, y10, y21, y22, y23, y24⟩ := id rm
  obtain ⟨⟨t0, t0b⟩, t1, t2, t3, tD, tC, tN⟩ := id ht
  obtain ⟨os0, os1, os2, osc⟩ := id os
  obtain ⟨f16, hd6, f17, f18, f19, f20, hdl⟩ := id mf
  have hb0 : drB di dl dd < 1000 := by unfold drB; split <;> omega
  have loop : ∀ (k c : Nat) (x), c ≤ T 3 → T 3 < c + k → G (Λ, κ) 19 [some (.ref 96), some (.int (nI dd)), some (.int (nI (lou T S hd (drB di dl dd) dd c))), some (.int (nI c)), x] [] (n, M, Rf, Lg) 0 0 := by
    intro k
    induction k with
    | zero => intro c x h1 h2; exact absurd h2 (by omega)
    | succ k ih =>
      intro c x h1 h2
      refine g_iload_n (pc := 19) o 3 dX4_loudest_19 rfl rfl ?_
      refine g_aload_n (pc := 20) o 0 dX4_loudest_20 rfl rfl ?_
      refine g_getR (pc := 21) o flRX4_13 rfl (by omega) y3 dX4_loudest_21 ?_
      refine g_iconst (pc := 24) (v := 3) o dX4_loudest_24 (by decide) ?_
      refine g_iald (pc := 25) o (3) rfl (by omega) rfl (by omega) dX4_loudest_25 ?_
      refine g_icmp_ge (pc := 26) o 117 dX4_loudest_26 (by decide) (fun q26 => ?_) (fun q26 => ?_)
      · have ec : c = T 3 := by have := (le_N (a := T 3) (b := c) (by omega) (by omega) (hT 3 (by decide)) rfl).mp q26; omega
        refine g_iload_n (pc := 117) o 2 dX4_loudest_117 rfl rfl ?_
        exact g_iret (pc := 118) o f dX4_loudest_118 rfl (by rw [ec]) rfl
      · have hc1 : c < T 3 := by have := mt (le_N (a := T 3) (b := c) (by omega) (by omega) (hT 3 (by decide)) rfl).mpr q26; omega
        have hx := tN c hc1
        have hl := lou_lt (T := T) (S := S) (hd := hd) (dd := dd) hb0 (fun i hi => (tN i hi).2.2.2) c (by omega)
        refine g_aload_n (pc := 29) o 0 dX4_loudest_29 rfl rfl ?_
        refine g_getI (pc := 30) o flRX4_35 rfl (by omega) dX4_loudest_30 ?_
        refine g_iload_n (pc := 33) o 3 dX4_loudest_33 rfl rfl ?_
        refine g_ishr (pc := 34) o dX4_loudest_34 ?_
        refine g_iconst (pc := 35) (v := 1) o dX4_loudest_35 (by decide) ?_
        refine g_iand (pc := 36) o dX4_loudest_36 ?_
        rw [f16, n_bit (by omega) (by omega)]
        refine g_iconst (pc := 37) (v := 1) o dX4_loudest_37 (by decide) ?_
        refine g_icmp_ne (pc := 38) o 76 dX4_loudest_38 (by decide) (fun q38 => ?_) (fun q38 => ?_)
        · have g1 := mt bn_one.mpr q38
          have e1 : lou T S hd (drB di dl dd) dd (c + 1) = lou T S hd (drB di dl dd) dd c := if_neg (by first | exact (fun h => g1 h.1.1) | exact (fun h => g2 h.1.2.1) | exact (fun h => g3 h.1.2.2) | exact (fun h => absurd h.2 (by omega)))
          refine g_iconst (pc := 76) (v := 0) o dX4_loudest_76 (by decide) ?_
          refine g_istore (pc := 77) o dX4_loudest_77 rfl ?_
          refine g_iload (pc := 79) o dX4_loudest_79 rfl ?_
          refine g_if_eq (pc := 81) o 109 dX4_loudest_81 (by decide) (fun q81 => ?_) (fun q81 => ?_)
          · refine g_iload_n (pc := 109) o 2 dX4_loudest_109 rfl rfl ?_
            refine g_istore_n (pc := 110) o 2 dX4_loudest_110 rfl rfl ?_
            refine g_incN (pc := 111) o (c) dX4_loudest_111 rfl rfl ?_
            refine g_goto (pc := 114) o 19 dX4_loudest_114 (by decide) ?_
            first | (refine g_eq rfl ?_ rfl rfl (ih (c + 1) (some (.int 0)) (by omega) (by omega)); rw [e1]; rfl) | (refine g_eq rfl ?_ rfl rfl (ih (c + 1) (some (.int 1)) (by omega) (by omega)); rw [e1]; rfl)
          · exact absurd (by decide) q81
        · have g1 := bn_one.mp (by first | exact q38 | exact Decidable.not_not.mp q38)
          refine g_aload_n (pc := 41) o 0 dX4_loudest_41 rfl rfl ?_
          refine g_getR (pc := 42) o flRX4_13 rfl (by omega) y3 dX4_loudest_42 ?_
          refine g_bipush (pc := 45) (v := 38) o dX4_loudest_45 (by decide) ?_
          refine g_iload_n (pc := 47) o 3 dX4_loudest_47 rfl rfl ?_
          refine g_iadd (pc := 48) o dX4_loudest_48 ?_
          refine g_iald (pc := 49) o ((38 + c)) rfl (by omega) (nI_addE rfl rfl) (by omega) dX4_loudest_49 ?_
          rw [hT (38 + c) (by omega)]
          refine g_iload_n (pc := 50) o 1 dX4_loudest_50 rfl rfl ?_
          refine g_icmp_ne (pc := 51) o 76 dX4_loudest_51 (by decide) (fun q51 => ?_) (fun q51 => ?_)
          · have g2 := mt (eq_N (by omega) (by omega) rfl rfl).mpr q51
            have e1 : lou T S hd (drB di dl dd) dd (c + 1) = lou T S hd (drB di dl dd) dd c := if_neg (by first | exact (fun h => absurd (bn_one.mpr h.1.1) q38) | exact (fun h => g2 h.1.2.1) | exact (fun h => g3 h.1.2.2) | exact (fun h => absurd h.2 (by omega)))
            refine g_iconst (pc := 76) (v := 0) o dX4_loudest_76 (by decide) ?_
            refine g_istore (pc := 77) o dX4_loudest_77 rfl ?_
            refine g_iload (pc := 79) o dX4_loudest_79 rfl ?_
            refine g_if_eq (pc := 81) o 109 dX4_loudest_81 (by decide) (fun q81 => ?_) (fun q81 => ?_)
            · refine g_iload_n (pc := 109) o 2 dX4_loudest_109 rfl rfl ?_
              refine g_istore_n (pc := 110) o 2 dX4_loudest_110 rfl rfl ?_
              refine g_incN (pc := 111) o (c) dX4_loudest_111 rfl rfl ?_
              refine g_goto (pc := 114) o 19 dX4_loudest_114 (by decide) ?_
              first | (refine g_eq rfl ?_ rfl rfl (ih (c + 1) (some (.int 0)) (by omega) (by omega)); rw [e1]; rfl) | (refine g_eq rfl ?_ rfl rfl (ih (c + 1) (some (.int 1)) (by omega) (by omega)); rw [e1]; rfl)
            · exact absurd (by decide) q81
          · have g2 := (eq_N (by omega) (by omega) rfl rfl).mp q51
            refine g_aload_n (pc := 54) o 0 dX4_loudest_54 rfl rfl ?_
            refine g_getR (pc := 55) o flRX4_13 rfl (by omega) y3 dX4_loudest_55 ?_
            refine g_bipush (pc := 58) (v := 44) o dX4_loudest_58 (by decide) ?_
            refine g_iload_n (pc := 60) o 3 dX4_loudest_60 rfl rfl ?_
            refine g_iadd (pc := 61) o dX4_loudest_61 ?_
            refine g_iald (pc := 62) o ((44 + c)) rfl (by omega) (nI_addE rfl rfl) (by omega) dX4_loudest_62 ?_
            refine g_aload_n (pc := 63) o 0 dX4_loudest_63 rfl rfl ?_
            refine g_getR (pc := 64) o flRX4_19 rfl (by omega) y5 dX4_loudest_64 ?_
            refine g_iconst (pc := 67) (v := 1) o dX4_loudest_67 (by decide) ?_
            refine g_iald (pc := 68) o (1) rfl (by omega) rfl (by omega) dX4_loudest_68 ?_
            rw [hT (44 + c) (by omega), hS 1 (by decide)]
            refine g_icmp_ne (pc := 69) o 76 dX4_loudest_69 (by decide) (fun q69 => ?_) (fun q69 => ?_)
            · have g3 := mt (eq_N (by omega) (by omega) rfl rfl).mpr q69
              have e1 : lou T S hd (drB di dl dd) dd (c + 1) = lou T S hd (drB di dl dd) dd c := if_neg (by first | exact (fun h => absurd (bn_one.mpr h.1.1) q38) | exact (fun h => g2 h.1.2.1) | exact (fun h => g3 h.1.2.2) | exact (fun h => absurd h.2 (by omega)))
              refine g_iconst (pc := 76) (v := 0) o dX4_loudest_76 (by decide) ?_
              refine g_istore (pc := 77) o dX4_loudest_77 rfl ?_
              refine g_iload (pc := 79) o dX4_loudest_79 rfl ?_
              refine g_if_eq (pc := 81) o 109 dX4_loudest_81 (by decide) (fun q81 => ?_) (fun q81 => ?_)
              · refine g_iload_n (pc := 109) o 2 dX4_loudest_109 rfl rfl ?_
                refine g_istore_n (pc := 110) o 2 dX4_loudest_110 rfl rfl ?_
                refine g_incN (pc := 111) o (c) dX4_loudest_111 rfl rfl ?_
                refine g_goto (pc := 114) o 19 dX4_loudest_114 (by decide) ?_
                first | (refine g_eq rfl ?_ rfl rfl (ih (c + 1) (some (.int 0)) (by omega) (by omega)); rw [e1]; rfl) | (refine g_eq rfl ?_ rfl rfl (ih (c + 1) (some (.int 1)) (by omega) (by omega)); rw [e1]; rfl)
              · exact absurd (by decide) q81
            · have g3 := (eq_N (by omega) (by omega) rfl rfl).mp q69
              refine g_iconst (pc := 72) (v := 1) o dX4_loudest_72 (by decide) ?_
              refine g_goto (pc := 73) o 77 dX4_loudest_73 (by decide) ?_
              refine g_istore (pc := 77) o dX4_loudest_77 rfl ?_
              refine g_iload (pc := 79) o dX4_loudest_79 rfl ?_
              refine g_if_eq (pc := 81) o 109 dX4_loudest_81 (by decide) (fun q81 => ?_) (fun q81 => ?_)
              · exact absurd q81 (by decide)
              · refine g_aload_n (pc := 84) o 0 dX4_loudest_84 rfl rfl ?_
                refine g_getR (pc := 85) o flRX4_13 rfl (by omega) y3 dX4_loudest_85 ?_
                refine g_bipush (pc := 88) (v := 50) o dX4_loudest_88 (by decide) ?_
                refine g_iload_n (pc := 90) o 3 dX4_loudest_90 rfl rfl ?_
                refine g_iadd (pc := 91) o dX4_loudest_91 ?_
                refine g_iald (pc := 92) o ((50 + c)) rfl (by omega) (nI_addE rfl rfl) (by omega) dX4_loudest_92 ?_
                rw [hT (50 + c) (by omega)]
                refine g_iload_n (pc := 93) o 2 dX4_loudest_93 rfl rfl ?_
                refine g_icmp_le (pc := 94) o 109 dX4_loudest_94 (by decide) (fun q94 => ?_) (fun q94 => ?_)
                · have g4 := (le_N (by omega) (by omega) rfl rfl).mp q94
                  have e1 : lou T S hd (drB di dl dd) dd (c + 1) = lou T S hd (drB di dl dd) dd c := if_neg (by first | exact (fun h => absurd (bn_one.mpr h.1.1) q38) | exact (fun h => g2 h.1.2.1) | exact (fun h => g3 h.1.2.2) | exact (fun h => absurd h.2 (by omega)))
                  refine g_iload_n (pc := 109) o 2 dX4_loudest_109 rfl rfl ?_
                  refine g_istore_n (pc := 110) o 2 dX4_loudest_110 rfl rfl ?_
                  refine g_incN (pc := 111) o (c) dX4_loudest_111 rfl rfl ?_
                  refine g_goto (pc := 114) o 19 dX4_loudest_114 (by decide) ?_
                  first | (refine g_eq rfl ?_ rfl rfl (ih (c + 1) (some (.int 0)) (by omega) (by omega)); rw [e1]; rfl) | (refine g_eq rfl ?_ rfl rfl (ih (c + 1) (some (.int 1)) (by omega) (by omega)); rw [e1]; rfl)
                · have g4 := mt (le_N (by omega) (by omega) rfl rfl).mpr q94
                  have e1 : lou T S hd (drB di dl dd) dd (c + 1) = T (50 + c) := if_pos ⟨⟨g1, g2, g3⟩, by omega⟩
                  refine g_aload_n (pc := 97) o 0 dX4_loudest_97 rfl rfl ?_
                  refine g_getR (pc := 98) o flRX4_13 rfl (by omega) y3 dX4_loudest_98 ?_
                  refine g_bipush (pc := 101) (v := 50) o dX4_loudest_101 (by decide) ?_
                  refine g_iload_n (pc := 103) o 3 dX4_loudest_103 rfl rfl ?_
                  refine g_iadd (pc := 104) o dX4_loudest_104 ?_
                  refine g_iald (pc := 105) o ((50 + c)) rfl (by omega) (nI_addE rfl rfl) (by omega) dX4_loudest_105 ?_
                  rw [hT (50 + c) (by omega)]
                  refine g_goto (pc := 106) o 110 dX4_loudest_106 (by decide) ?_
                  refine g_istore_n (pc := 110) o 2 dX4_loudest_110 rfl rfl ?_
                  refine g_incN (pc := 111) o (c) dX4_loudest_111 rfl rfl ?_
                  refine g_goto (pc := 114) o 19 dX4_loudest_114 (by decide) ?_
                  first | (refine g_eq rfl ?_ rfl rfl (ih (c + 1) (some (.int 0)) (by omega) (by omega)); rw [e1]; rfl) | (refine g_eq rfl ?_ rfl rfl (ih (c + 1) (some (.int 1)) (by omega) (by omega)); rw [e1]; rfl)
  refine g_aload_n (pc := 0) o 0 dX4_loudest_0 rfl rfl ?_
  refine g_getI (pc := 1) o flRX4_45 rfl (by omega) dX4_loudest_1 ?_
  refine g_iload_n (pc := 4) o 1 dX4_loudest_4 rfl rfl ?_
  refine g_icmp_ne (pc := 5) o 15 dX4_loudest_5 (by decide) (fun q5 => ?_) (fun q5 => ?_)
  · have e0 : drB di dl dd = 0 := if_neg (by rw [← f19]; exact q5)
    refine g_iconst (pc := 15) (v := 0) o dX4_loudest_15 (by decide) ?_
    refine g_istore_n (pc := 16) o 2 dX4_loudest_16 rfl rfl ?_
    refine g_iconst (pc := 17) (v := 0) o dX4_loudest_17 (by decide) ?_
    refine g_istore_n (pc := 18) o 3 dX4_loudest_18 rfl rfl ?_
    refine g_eq rfl ?_ rfl rfl (loop (T 3 + 1) 0 none (by omega) (by omega))
    rw [show lou T S hd (drB di dl dd) dd 0 = drB di dl dd from rfl, e0]
    first | rfl | (rw [← f20]; rfl)
  · have e0 : drB di dl dd = dl := if_pos (by rw [← f19]; first | exact q5 | exact Decidable.not_not.mp q5)
    refine g_aload_n (pc := 8) o 0 dX4_loudest_8 rfl rfl ?_
    refine g_getI (pc := 9) o flRX4_145 rfl (by omega) dX4_loudest_9 ?_
    refine g_goto (pc := 12) o 16 dX4_loudest_12 (by decide) ?_
    refine g_istore_n (pc := 16) o 2 dX4_loudest_16 rfl rfl ?_
    refine g_iconst (pc := 17) (v := 0) o dX4_loudest_17 (by decide) ?_
    refine g_istore_n (pc := 18) o 3 dX4_loudest_18 rfl rfl ?_
    refine g_eq rfl ?_ rfl rfl (loop (T 3 + 1) 0 none (by omega) (by omega))
    rw [show lou T S hd (drB di dl dd) dd 0 = drB di dl dd from rfl, e0]
    first | rfl | (rw [← f20]; rfl)

theorem bn_shl (t : Bool) {c : Nat} (h : c < 32) : nI (bn t) <<< (nI c &&& 31) = nI (if t then 2 ^ c else 0) := by
  have h2 : 2 ^ c < 2 ^ 32 := Nat.pow_lt_pow_right (by decide) h
  rw [n_shl h (by cases t <;> simp [bn] <;> omega)]
  cases t <;> simp [bn]
set_option maxHeartbeats 2000000 in
set_option maxRecDepth 20000 in
theorem cX4calledNow {b : Nat} {T S : Nat → Nat} (mb : MB M Rf n T S b) : Ret Λ (d) mX4_calledNow [.ref 96] (n, M, Rf, Lg) (some (.int (nI (calN T S)))) (n, M, Rf, Lg) 0 0 := by
  refine Ret.of rfl rfl rfl (fun κ o f hin => ?_)
  obtain ⟨rm, hn, ht, hT, hS, os, hb9⟩ := id mb
  obtain ⟨y1, y3, y4, y5, y6, y8, y9, y10, y21, y22, y23, y24⟩ := id rm
  obtain ⟨⟨t0, t0b⟩, t1, t2, t3, tD, tC, tN⟩ := id ht
  obtain ⟨os0, os1, os2, osc⟩ := id os
  have loop : ∀ k c : Nat, c ≤ T 2 → T 2 < c + k → G (Λ, κ) 4 [some (.ref 96), some (.int (nI (mk (fun i => (S (9 + i)).testBit (S 1)) c))), some (.int (nI c))] [] (n, M, Rf, Lg) 0 0 := by
    intro k
    induction k with
    | zero => intro c h1 h2; exact absurd h2 (by omega)
    | succ k ih =>
      intro c h1 h2
      refine g_iload_n (pc := 4) o 2 dX4_calledNow_4 rfl rfl ?_
      refine g_aload_n (pc := 5) o 0 dX4_calledNow_5 rfl rfl ?_
      refine g_getR (pc := 6) o flRX4_13 rfl (by omega) y3 dX4_calledNow_6 ?_
      refine g_iconst (pc := 9) (v := 2) o dX4_calledNow_9 (by decide) ?_
      refine g_iald (pc := 10) o (2) rfl (by omega) rfl (by omega) dX4_calledNow_10 ?_
      refine g_icmp_ge (pc := 11) o 43 dX4_calledNow_11 (by decide) (fun q11 => ?_) (fun q11 => ?_)
      · have ec : c = T 2 := by have := (le_N (a := T 2) (b := c) (by omega) (by omega) (hT 2 (by decide)) rfl).mp q11; omega
        refine g_iload_n (pc := 43) o 1 dX4_calledNow_43 rfl rfl ?_
        exact g_iret (pc := 44) o f dX4_calledNow_44 rfl (by rw [ec]; rfl) rfl
      · have hc1 : c < T 2 := by have := mt (le_N (a := T 2) (b := c) (by omega) (by omega) (hT 2 (by decide)) rfl).mpr q11; omega
        have hy := osc c hc1
        refine g_iload_n (pc := 14) o 1 dX4_calledNow_14 rfl rfl ?_
        refine g_aload_n (pc := 15) o 0 dX4_calledNow_15 rfl rfl ?_
        refine g_getR (pc := 16) o flRX4_19 rfl (by omega) y5 dX4_calledNow_16 ?_
        refine g_bipush (pc := 19) (v := 9) o dX4_calledNow_19 (by decide) ?_
        refine g_iload_n (pc := 21) o 2 dX4_calledNow_21 rfl rfl ?_
        refine g_iadd (pc := 22) o dX4_calledNow_22 ?_
        refine g_iald (pc := 23) o ((9 + c)) rfl (by omega) (nI_addE rfl rfl) (by omega) dX4_calledNow_23 ?_
        refine g_aload_n (pc := 24) o 0 dX4_calledNow_24 rfl rfl ?_
        refine g_getR (pc := 25) o flRX4_19 rfl (by omega) y5 dX4_calledNow_25 ?_
        refine g_iconst (pc := 28) (v := 1) o dX4_calledNow_28 (by decide) ?_
        refine g_iald (pc := 29) o (1) rfl (by omega) rfl (by omega) dX4_calledNow_29 ?_
        rw [hS (9 + c) (by omega), hS 1 (by decide)]
        refine g_ishr (pc := 30) o dX4_calledNow_30 ?_
        refine g_iconst (pc := 31) (v := 1) o dX4_calledNow_31 (by decide) ?_
        refine g_iand (pc := 32) o dX4_calledNow_32 ?_
        rw [n_bit (by omega) (by omega)]
        refine g_iload_n (pc := 33) o 2 dX4_calledNow_33 rfl rfl ?_
        refine g_ishl (pc := 34) o dX4_calledNow_34 ?_
        rw [bn_shl _ (by omega)]
        refine g_ior (pc := 35) o dX4_calledNow_35 ?_
        rw [n_or]
        refine g_istore_n (pc := 36) o 1 dX4_calledNow_36 rfl rfl ?_
        refine g_incN (pc := 37) o (c) dX4_calledNow_37 rfl rfl ?_
        refine g_goto (pc := 40) o 4 dX4_calledNow_40 (by decide) ?_
        refine g_eq rfl ?_ rfl rfl (ih (c + 1) (by omega) (by omega))
        rfl
  refine g_iconst (pc := 0) (v := 0) o dX4_calledNow_0 (by decide) ?_
  refine g_istore_n (pc := 1) o 1 dX4_calledNow_1 rfl rfl ?_
  refine g_iconst (pc := 2) (v := 0) o dX4_calledNow_2 (by decide) ?_
  refine g_istore_n (pc := 3) o 2 dX4_calledNow_3 rfl rfl ?_
  exact loop (T 2 + 1) 0 (by omega) (by omega)

theorem mcd_t {T S : Nat → Nat} {nv : Int32} {cal c : Nat} (h : cal.testBit c = true ∧ ¬ nI c = nv ∧ (T (26 + c)).testBit (S 1) = false ∧ 0 < S (3 + c)) : mcd T S nv cal c = true := by
  unfold mcd; simp [h.1, h.2.1, h.2.2.1, h.2.2.2]
theorem mcd_f {T S : Nat → Nat} {nv : Int32} {cal c : Nat} (h : ¬ (cal.testBit c = true ∧ ¬ nI c = nv ∧ (T (26 + c)).testBit (S 1) = false ∧ 0 < S (3 + c))) : mcd T S nv cal c = false := by
  cases e : mcd T S nv cal c with
  | false => rfl
  | true =>
    exfalso; apply h
    unfold mcd at e
    simp at e
    exact ⟨e.1.1, e.1.2, e.2.1, e.2.2⟩
theorem or0 (a : Nat) : nI a ||| 0 = nI a := by
  rw [show (0 : Int32) = nI 0 from rfl, n_or, Nat.or_zero]
set_option maxHeartbeats 2000000 in
set_option maxRecDepth 20000 in
theorem cX4asleep {b : Nat} {T S : Nat → Nat} (mb : MB M Rf n T S b) {hd dl : Nat} {nv sh di : Int32} (mf : MF M hd nv sh di dl) {cal : Nat} (hcal : cal < 256) : Ret Λ (d + 1) mX4_asleep [.ref 96, .int (nI cal)] (n, M, Rf, Lg) (some (.int (nI (mSl T S hd nv sh di dl cal)))) (n, M, Rf, Lg) 0 0 := by
  refine Ret.of rfl rfl rfl (fun κ o f hin => ?_)
  obtain ⟨rm, hn, ht, hT, hS, os, hb9⟩ := id mb
  obtain ⟨y1, y3, y4, y5, y6, y8, y9, y10, y21, y22, y23, y24⟩ := id rm
  obtain ⟨⟨t0, t0b⟩, t1, t2, t3, tD, tC, tN⟩ := id ht
  obtain ⟨os0, os1, os2, osc⟩ := id os
  obtain ⟨f16, hd6, f17, f18, f19, f20, hdl⟩ := id mf
  have loop : ∀ (k c : Nat) (x x2), c ≤ T 2 → T 2 < c + k → G (Λ, κ) 7 [some (.ref 96), some (.int (nI cal)), some (.int (nI (mk (slB T S hd nv sh di dl cal) c))), some (.int (nI (bdS T (mcd T S nv cal) c))), some (.int (nI c)), x, x2] [] (n, M, Rf, Lg) 0 0 := by
    intro k
    induction k with
    | zero => intro c x x2 h1 h2; exact absurd h2 (by omega)
    | succ k ih =>
      intro c x x2 h1 h2
      refine g_iload (pc := 7) o dX4_asleep_7 rfl ?_
      refine g_aload_n (pc := 9) o 0 dX4_asleep_9 rfl rfl ?_
      refine g_getR (pc := 10) o flRX4_13 rfl (by omega) y3 dX4_asleep_10 ?_
      refine g_iconst (pc := 13) (v := 2) o dX4_asleep_13 (by decide) ?_
      refine g_iald (pc := 14) o (2) rfl (by omega) rfl (by omega) dX4_asleep_14 ?_
      refine g_icmp_ge (pc := 15) o 134 dX4_asleep_15 (by decide) (fun q15 => ?_) (fun q15 => ?_)
      · have ec : c = T 2 := by have := (le_N (a := T 2) (b := c) (by omega) (by omega) (hT 2 (by decide)) rfl).mp q15; omega
        refine g_iload_n (pc := 134) o 2 dX4_asleep_134 rfl rfl ?_
        exact g_iret (pc := 135) o f dX4_asleep_135 rfl (by rw [ec]; rfl) rfl
      · have hc1 : c < T 2 := by have := mt (le_N (a := T 2) (b := c) (by omega) (by omega) (hT 2 (by decide)) rfl).mpr q15; omega
        have hx := tC c hc1
        have hy := osc c hc1
        have hD := tD (T (14 + c)) (by omega)
        have us := usd_pop (T := T) (mcd T S nv cal) t2 (T (14 + c)) (k := c) (by omega)
        have ul := usd_le T (mcd T S nv cal) (T (14 + c)) c
        have hl := lou_lt (T := T) (S := S) (hd := hd) (dd := T (14 + c)) (b0 := drB di dl (T (14 + c))) (by unfold drB; split <;> omega) (fun i hi => (tN i hi).2.2.2) (T 3) (Nat.le_refl _)
        have bl := bd_lt T (mcd T S nv cal) (k := c) (by omega)
        refine g_aload_n (pc := 18) o 0 dX4_asleep_18 rfl rfl ?_
        refine g_getR (pc := 19) o flRX4_13 rfl (by omega) y3 dX4_asleep_19 ?_
        refine g_bipush (pc := 22) (v := 14) o dX4_asleep_22 (by decide) ?_
        refine g_iload (pc := 24) o dX4_asleep_24 rfl ?_
        refine g_iadd (pc := 26) o dX4_asleep_26 ?_
        refine g_iald (pc := 27) o ((14 + c)) rfl (by omega) (nI_addE rfl rfl) (by omega) dX4_asleep_27 ?_
        rw [hT (14 + c) (by omega)]
        refine g_istore (pc := 28) o dX4_asleep_28 rfl ?_
        refine g_iload_n (pc := 30) o 3 dX4_asleep_30 rfl rfl ?_
        refine g_iconst (pc := 31) (v := 4) o dX4_asleep_31 (by decide) ?_
        refine g_iload (pc := 32) o dX4_asleep_32 rfl ?_
        refine g_imul (pc := 34) o dX4_asleep_34 ?_
        rw [show (4 : Int32) * nI (T (14 + c)) = nI (4 * T (14 + c)) from nI_mulE rfl rfl]
        refine g_ishr (pc := 35) o dX4_asleep_35 ?_
        rw [n_shr (by omega) (by omega)]
        refine g_bipush (pc := 36) (v := 15) o dX4_asleep_36 (by decide) ?_
        refine g_iand (pc := 38) o dX4_asleep_38 ?_
        rw [n_and15, bd_at T (mcd T S nv cal) (by omega) (by omega)]
        refine g_istore (pc := 39) o dX4_asleep_39 rfl ?_
        refine g_aload_n (pc := 41) o 0 dX4_asleep_41 rfl rfl ?_
        refine g_iload (pc := 42) o dX4_asleep_42 rfl ?_
        refine g_iload_n (pc := 44) o 1 dX4_asleep_44 rfl rfl ?_
        refine g_iload (pc := 45) o dX4_asleep_45 rfl ?_
        refine g_ishr (pc := 47) o dX4_asleep_47 ?_
        refine g_iconst (pc := 48) (v := 1) o dX4_asleep_48 (by decide) ?_
        refine g_iand (pc := 49) o dX4_asleep_49 ?_
        rw [n_bit (by omega) (by omega)]
        refine g_iconst (pc := 50) (v := 1) o dX4_asleep_50 (by decide) ?_
        refine g_icmp_ne (pc := 51) o 58 dX4_asleep_51 (by decide) (fun q51 => ?_) (fun q51 => ?_)
        · have g1 : cal.testBit c = false := by have h := mt bn_one.mpr q51; simpa using h
          have hb1 : (0 : Int32) = bi (cal.testBit c = true) := (bi_f (by rw [g1]; decide)).symm
          refine g_iconst (pc := 58) (v := 0) o dX4_asleep_58 (by decide) ?_
          refine g_V2i (pc := 59) o lkRX4_148 cmX4_could (by rw [hb1]; exact cX4could mb mf hc1) rfl (by omega) rfl rfl ⟨Nat.le_refl _, Nat.le_refl _⟩ dX4_asleep_59 ?_
          refine g_if_eq (pc := 62) o 128 dX4_asleep_62 (by decide) (fun q62 => ?_) (fun q62 => ?_)
          · have g2 := bi_z.mp q62
            have cdc : mcd T S nv cal c = false := mcd_f g2
            have ly : lyB T (mcd T S nv cal) c = false := by unfold lyB; rw [cdc]; rfl
            have e1 := mk_f (p := slB T S hd nv sh di dl cal) (n := c) (by unfold slB; rw [ly]; rfl)
            have e2 := bd_f (T := T) (cd := mcd T S nv cal) (k := c) ly
            refine g_incN (pc := 128) o (c) dX4_asleep_128 rfl rfl ?_
            refine g_goto (pc := 131) o 7 dX4_asleep_131 (by decide) ?_
            first | (refine g_eq rfl ?_ rfl rfl (ih (c + 1) (some (.int (nI (T (14 + c))))) (some (.int (nI (usd T (mcd T S nv cal) (T (14 + c)) c)))) (by omega) (by omega)); rw [e1, e2]; rfl) | (refine g_eq rfl ?_ rfl rfl (ih (c + 1) (some (.int (nI (T (14 + c))))) (some (.int (nI (usd T (mcd T S nv cal) (T (14 + c)) c)))) (by omega) (by omega)); rw [← e1, e2]; rfl) | (refine g_eq rfl ?_ rfl rfl (ih (c + 1) (some (.int (nI (T (14 + c))))) (some (.int (nI (usd T (mcd T S nv cal) (T (14 + c)) c)))) (by omega) (by omega)); rw [e1, e2, or0]; rfl)
          · have g2 := bi_nz.mp q62
            have cdc : mcd T S nv cal c = true := mcd_t g2
            refine g_iload (pc := 65) o dX4_asleep_65 rfl ?_
            refine g_aload_n (pc := 67) o 0 dX4_asleep_67 rfl rfl ?_
            refine g_getR (pc := 68) o flRX4_13 rfl (by omega) y3 dX4_asleep_68 ?_
            refine g_bipush (pc := 71) (v := 10) o dX4_asleep_71 (by decide) ?_
            refine g_iload (pc := 73) o dX4_asleep_73 rfl ?_
            refine g_iadd (pc := 75) o dX4_asleep_75 ?_
            refine g_iald (pc := 76) o (10 + T (14 + c)) rfl (by omega) (nI_addE rfl rfl) (by omega) dX4_asleep_76 ?_
            rw [hT (10 + T (14 + c)) (by omega)]
            refine g_icmp_ge (pc := 77) o 128 dX4_asleep_77 (by decide) (fun q77 => ?_) (fun q77 => ?_)
            · have g3 := (le_N (by omega) (by omega) rfl rfl).mp q77
              have ly : lyB T (mcd T S nv cal) c = false := by unfold lyB; rw [cdc, us]; simp; omega
              have e1 := mk_f (p := slB T S hd nv sh di dl cal) (n := c) (by unfold slB; rw [ly]; rfl)
              have e2 := bd_f (T := T) (cd := mcd T S nv cal) (k := c) ly
              refine g_incN (pc := 128) o (c) dX4_asleep_128 rfl rfl ?_
              refine g_goto (pc := 131) o 7 dX4_asleep_131 (by decide) ?_
              first | (refine g_eq rfl ?_ rfl rfl (ih (c + 1) (some (.int (nI (T (14 + c))))) (some (.int (nI (usd T (mcd T S nv cal) (T (14 + c)) c)))) (by omega) (by omega)); rw [e1, e2]; rfl) | (refine g_eq rfl ?_ rfl rfl (ih (c + 1) (some (.int (nI (T (14 + c))))) (some (.int (nI (usd T (mcd T S nv cal) (T (14 + c)) c)))) (by omega) (by omega)); rw [← e1, e2]; rfl) | (refine g_eq rfl ?_ rfl rfl (ih (c + 1) (some (.int (nI (T (14 + c))))) (some (.int (nI (usd T (mcd T S nv cal) (T (14 + c)) c)))) (by omega) (by omega)); rw [e1, e2, or0]; rfl)
            · have g3 := mt (le_N (by omega) (by omega) rfl rfl).mpr q77
              have ly : lyB T (mcd T S nv cal) c = true := by unfold lyB; rw [cdc, us]; simp; omega
              have e2 := bd_t (T := T) (cd := mcd T S nv cal) (k := c) ly (by omega)
              refine g_iload_n (pc := 80) o 3 dX4_asleep_80 rfl rfl ?_
              refine g_iconst (pc := 81) (v := 1) o dX4_asleep_81 (by decide) ?_
              refine g_iconst (pc := 82) (v := 4) o dX4_asleep_82 (by decide) ?_
              refine g_iload (pc := 83) o dX4_asleep_83 rfl ?_
              refine g_imul (pc := 85) o dX4_asleep_85 ?_
              rw [show (4 : Int32) * nI (T (14 + c)) = nI (4 * T (14 + c)) from nI_mulE rfl rfl]
              refine g_ishl (pc := 86) o dX4_asleep_86 ?_
              rw [n_one (by omega)]
              refine g_iadd (pc := 87) o dX4_asleep_87 ?_
              rw [nI_add]
              refine g_istore_n (pc := 88) o 3 dX4_asleep_88 rfl rfl ?_
              refine g_iload_n (pc := 89) o 2 dX4_asleep_89 rfl rfl ?_
              refine g_iload (pc := 90) o dX4_asleep_90 rfl ?_
              refine g_aload_n (pc := 92) o 0 dX4_asleep_92 rfl rfl ?_
              refine g_getI (pc := 93) o flRX4_42 rfl (by omega) dX4_asleep_93 ?_
              refine g_icmp_eq (pc := 96) o 125 dX4_asleep_96 (by decide) (fun q96 => ?_) (fun q96 => ?_)
              · have e1 : mk (slB T S hd nv sh di dl cal) (c + 1) = mk (slB T S hd nv sh di dl cal) c := mk_f (by unfold slB; rw [ly, ← f18]; simp; intro h; exact absurd q96 h)
                refine g_iconst (pc := 125) (v := 0) o dX4_asleep_125 (by decide) ?_
                refine g_ior (pc := 126) o dX4_asleep_126 ?_
                refine g_istore_n (pc := 127) o 2 dX4_asleep_127 rfl rfl ?_
                refine g_incN (pc := 128) o (c) dX4_asleep_128 rfl rfl ?_
                refine g_goto (pc := 131) o 7 dX4_asleep_131 (by decide) ?_
                first | (refine g_eq rfl ?_ rfl rfl (ih (c + 1) (some (.int (nI (T (14 + c))))) (some (.int (nI (usd T (mcd T S nv cal) (T (14 + c)) c)))) (by omega) (by omega)); rw [e1, e2]; rfl) | (refine g_eq rfl ?_ rfl rfl (ih (c + 1) (some (.int (nI (T (14 + c))))) (some (.int (nI (usd T (mcd T S nv cal) (T (14 + c)) c)))) (by omega) (by omega)); rw [← e1, e2]; rfl) | (refine g_eq rfl ?_ rfl rfl (ih (c + 1) (some (.int (nI (T (14 + c))))) (some (.int (nI (usd T (mcd T S nv cal) (T (14 + c)) c)))) (by omega) (by omega)); rw [e1, e2, or0]; rfl)
              · have g5 : ¬ nI c = sh := by rw [← f18]; exact q96
                refine g_aload_n (pc := 99) o 0 dX4_asleep_99 rfl rfl ?_
                refine g_iload (pc := 100) o dX4_asleep_100 rfl ?_
                refine g_V1i (pc := 102) o lkRX4_152 cmX4_loudest (cX4loudest mb mf (by omega)) rfl (by omega) rfl rfl ⟨Nat.le_refl _, Nat.le_refl _⟩ dX4_asleep_102 ?_
                refine g_aload_n (pc := 105) o 0 dX4_asleep_105 rfl rfl ?_
                refine g_getR (pc := 106) o flRX4_13 rfl (by omega) y3 dX4_asleep_106 ?_
                refine g_bipush (pc := 109) (v := 32) o dX4_asleep_109 (by decide) ?_
                refine g_iload (pc := 111) o dX4_asleep_111 rfl ?_
                refine g_iadd (pc := 113) o dX4_asleep_113 ?_
                refine g_iald (pc := 114) o ((32 + c)) rfl (by omega) (nI_addE rfl rfl) (by omega) dX4_asleep_114 ?_
                rw [hT (32 + c) (by omega)]
                refine g_icmp_gt (pc := 115) o 125 dX4_asleep_115 (by decide) (fun q115 => ?_) (fun q115 => ?_)
                · have e1 : mk (slB T S hd nv sh di dl cal) (c + 1) = mk (slB T S hd nv sh di dl cal) c := mk_f (by have g6 := (lt_N (by omega) (by omega) rfl rfl).mp q115; unfold slB; rw [ly]; simp; intro _; omega)
                  refine g_iconst (pc := 125) (v := 0) o dX4_asleep_125 (by decide) ?_
                  refine g_ior (pc := 126) o dX4_asleep_126 ?_
                  refine g_istore_n (pc := 127) o 2 dX4_asleep_127 rfl rfl ?_
                  refine g_incN (pc := 128) o (c) dX4_asleep_128 rfl rfl ?_
                  refine g_goto (pc := 131) o 7 dX4_asleep_131 (by decide) ?_
                  first | (refine g_eq rfl ?_ rfl rfl (ih (c + 1) (some (.int (nI (T (14 + c))))) (some (.int (nI (usd T (mcd T S nv cal) (T (14 + c)) c)))) (by omega) (by omega)); rw [e1, e2]; rfl) | (refine g_eq rfl ?_ rfl rfl (ih (c + 1) (some (.int (nI (T (14 + c))))) (some (.int (nI (usd T (mcd T S nv cal) (T (14 + c)) c)))) (by omega) (by omega)); rw [← e1, e2]; rfl) | (refine g_eq rfl ?_ rfl rfl (ih (c + 1) (some (.int (nI (T (14 + c))))) (some (.int (nI (usd T (mcd T S nv cal) (T (14 + c)) c)))) (by omega) (by omega)); rw [e1, e2, or0]; rfl)
                · have e1 := mk_t (p := slB T S hd nv sh di dl cal) (n := c) (by have g6 := mt (lt_N (by omega) (by omega) rfl rfl).mpr q115; unfold slB; rw [ly]; simp [g5]; omega) (by omega)
                  refine g_iconst (pc := 118) (v := 1) o dX4_asleep_118 (by decide) ?_
                  refine g_iload (pc := 119) o dX4_asleep_119 rfl ?_
                  refine g_ishl (pc := 121) o dX4_asleep_121 ?_
                  refine g_goto (pc := 122) o 126 dX4_asleep_122 (by decide) ?_
                  refine g_ior (pc := 126) o dX4_asleep_126 ?_
                  refine g_istore_n (pc := 127) o 2 dX4_asleep_127 rfl rfl ?_
                  refine g_incN (pc := 128) o (c) dX4_asleep_128 rfl rfl ?_
                  refine g_goto (pc := 131) o 7 dX4_asleep_131 (by decide) ?_
                  first | (refine g_eq rfl ?_ rfl rfl (ih (c + 1) (some (.int (nI (T (14 + c))))) (some (.int (nI (usd T (mcd T S nv cal) (T (14 + c)) c)))) (by omega) (by omega)); rw [e1, e2]; rfl) | (refine g_eq rfl ?_ rfl rfl (ih (c + 1) (some (.int (nI (T (14 + c))))) (some (.int (nI (usd T (mcd T S nv cal) (T (14 + c)) c)))) (by omega) (by omega)); rw [← e1, e2]; rfl) | (refine g_eq rfl ?_ rfl rfl (ih (c + 1) (some (.int (nI (T (14 + c))))) (some (.int (nI (usd T (mcd T S nv cal) (T (14 + c)) c)))) (by omega) (by omega)); rw [e1, e2, or0]; rfl)
        · have g1 : cal.testBit c = true := bn_one.mp (by first | exact q51 | exact Decidable.not_not.mp q51)
          have hb1 : (1 : Int32) = bi (cal.testBit c = true) := (bi_t g1).symm
          refine g_iconst (pc := 54) (v := 1) o dX4_asleep_54 (by decide) ?_
          refine g_goto (pc := 55) o 59 dX4_asleep_55 (by decide) ?_
          refine g_V2i (pc := 59) o lkRX4_148 cmX4_could (by rw [hb1]; exact cX4could mb mf hc1) rfl (by omega) rfl rfl ⟨Nat.le_refl _, Nat.le_refl _⟩ dX4_asleep_59 ?_
          refine g_if_eq (pc := 62) o 128 dX4_asleep_62 (by decide) (fun q62 => ?_) (fun q62 => ?_)
          · have g2 := bi_z.mp q62
            have cdc : mcd T S nv cal c = false := mcd_f g2
            have ly : lyB T (mcd T S nv cal) c = false := by unfold lyB; rw [cdc]; rfl
            have e1 := mk_f (p := slB T S hd nv sh di dl cal) (n := c) (by unfold slB; rw [ly]; rfl)
            have e2 := bd_f (T := T) (cd := mcd T S nv cal) (k := c) ly
            refine g_incN (pc := 128) o (c) dX4_asleep_128 rfl rfl ?_
            refine g_goto (pc := 131) o 7 dX4_asleep_131 (by decide) ?_
            first | (refine g_eq rfl ?_ rfl rfl (ih (c + 1) (some (.int (nI (T (14 + c))))) (some (.int (nI (usd T (mcd T S nv cal) (T (14 + c)) c)))) (by omega) (by omega)); rw [e1, e2]; rfl) | (refine g_eq rfl ?_ rfl rfl (ih (c + 1) (some (.int (nI (T (14 + c))))) (some (.int (nI (usd T (mcd T S nv cal) (T (14 + c)) c)))) (by omega) (by omega)); rw [← e1, e2]; rfl) | (refine g_eq rfl ?_ rfl rfl (ih (c + 1) (some (.int (nI (T (14 + c))))) (some (.int (nI (usd T (mcd T S nv cal) (T (14 + c)) c)))) (by omega) (by omega)); rw [e1, e2, or0]; rfl)
          · have g2 := bi_nz.mp q62
            have cdc : mcd T S nv cal c = true := mcd_t g2
            refine g_iload (pc := 65) o dX4_asleep_65 rfl ?_
            refine g_aload_n (pc := 67) o 0 dX4_asleep_67 rfl rfl ?_
            refine g_getR (pc := 68) o flRX4_13 rfl (by omega) y3 dX4_asleep_68 ?_
            refine g_bipush (pc := 71) (v := 10) o dX4_asleep_71 (by decide) ?_
            refine g_iload (pc := 73) o dX4_asleep_73 rfl ?_
            refine g_iadd (pc := 75) o dX4_asleep_75 ?_
            refine g_iald (pc := 76) o (10 + T (14 + c)) rfl (by omega) (nI_addE rfl rfl) (by omega) dX4_asleep_76 ?_
            rw [hT (10 + T (14 + c)) (by omega)]
            refine g_icmp_ge (pc := 77) o 128 dX4_asleep_77 (by decide) (fun q77 => ?_) (fun q77 => ?_)
            · have g3 := (le_N (by omega) (by omega) rfl rfl).mp q77
              have ly : lyB T (mcd T S nv cal) c = false := by unfold lyB; rw [cdc, us]; simp; omega
              have e1 := mk_f (p := slB T S hd nv sh di dl cal) (n := c) (by unfold slB; rw [ly]; rfl)
              have e2 := bd_f (T := T) (cd := mcd T S nv cal) (k := c) ly
              refine g_incN (pc := 128) o (c) dX4_asleep_128 rfl rfl ?_
              refine g_goto (pc := 131) o 7 dX4_asleep_131 (by decide) ?_
              first | (refine g_eq rfl ?_ rfl rfl (ih (c + 1) (some (.int (nI (T (14 + c))))) (some (.int (nI (usd T (mcd T S nv cal) (T (14 + c)) c)))) (by omega) (by omega)); rw [e1, e2]; rfl) | (refine g_eq rfl ?_ rfl rfl (ih (c + 1) (some (.int (nI (T (14 + c))))) (some (.int (nI (usd T (mcd T S nv cal) (T (14 + c)) c)))) (by omega) (by omega)); rw [← e1, e2]; rfl) | (refine g_eq rfl ?_ rfl rfl (ih (c + 1) (some (.int (nI (T (14 + c))))) (some (.int (nI (usd T (mcd T S nv cal) (T (14 + c)) c)))) (by omega) (by omega)); rw [e1, e2, or0]; rfl)
            · have g3 := mt (le_N (by omega) (by omega) rfl rfl).mpr q77
              have ly : lyB T (mcd T S nv cal) c = true := by unfold lyB; rw [cdc, us]; simp; omega
              have e2 := bd_t (T := T) (cd := mcd T S nv cal) (k := c) ly (by omega)
              refine g_iload_n (pc := 80) o 3 dX4_asleep_80 rfl rfl ?_
              refine g_iconst (pc := 81) (v := 1) o dX4_asleep_81 (by decide) ?_
              refine g_iconst (pc := 82) (v := 4) o dX4_asleep_82 (by decide) ?_
              refine g_iload (pc := 83) o dX4_asleep_83 rfl ?_
              refine g_imul (pc := 85) o dX4_asleep_85 ?_
              rw [show (4 : Int32) * nI (T (14 + c)) = nI (4 * T (14 + c)) from nI_mulE rfl rfl]
              refine g_ishl (pc := 86) o dX4_asleep_86 ?_
              rw [n_one (by omega)]
              refine g_iadd (pc := 87) o dX4_asleep_87 ?_
              rw [nI_add]
              refine g_istore_n (pc := 88) o 3 dX4_asleep_88 rfl rfl ?_
              refine g_iload_n (pc := 89) o 2 dX4_asleep_89 rfl rfl ?_
              refine g_iload (pc := 90) o dX4_asleep_90 rfl ?_
              refine g_aload_n (pc := 92) o 0 dX4_asleep_92 rfl rfl ?_
              refine g_getI (pc := 93) o flRX4_42 rfl (by omega) dX4_asleep_93 ?_
              refine g_icmp_eq (pc := 96) o 125 dX4_asleep_96 (by decide) (fun q96 => ?_) (fun q96 => ?_)
              · have e1 : mk (slB T S hd nv sh di dl cal) (c + 1) = mk (slB T S hd nv sh di dl cal) c := mk_f (by unfold slB; rw [ly, ← f18]; simp; intro h; exact absurd q96 h)
                refine g_iconst (pc := 125) (v := 0) o dX4_asleep_125 (by decide) ?_
                refine g_ior (pc := 126) o dX4_asleep_126 ?_
                refine g_istore_n (pc := 127) o 2 dX4_asleep_127 rfl rfl ?_
                refine g_incN (pc := 128) o (c) dX4_asleep_128 rfl rfl ?_
                refine g_goto (pc := 131) o 7 dX4_asleep_131 (by decide) ?_
                first | (refine g_eq rfl ?_ rfl rfl (ih (c + 1) (some (.int (nI (T (14 + c))))) (some (.int (nI (usd T (mcd T S nv cal) (T (14 + c)) c)))) (by omega) (by omega)); rw [e1, e2]; rfl) | (refine g_eq rfl ?_ rfl rfl (ih (c + 1) (some (.int (nI (T (14 + c))))) (some (.int (nI (usd T (mcd T S nv cal) (T (14 + c)) c)))) (by omega) (by omega)); rw [← e1, e2]; rfl) | (refine g_eq rfl ?_ rfl rfl (ih (c + 1) (some (.int (nI (T (14 + c))))) (some (.int (nI (usd T (mcd T S nv cal) (T (14 + c)) c)))) (by omega) (by omega)); rw [e1, e2, or0]; rfl)
              · have g5 : ¬ nI c = sh := by rw [← f18]; exact q96
                refine g_aload_n (pc := 99) o 0 dX4_asleep_99 rfl rfl ?_
                refine g_iload (pc := 100) o dX4_asleep_100 rfl ?_
                refine g_V1i (pc := 102) o lkRX4_152 cmX4_loudest (cX4loudest mb mf (by omega)) rfl (by omega) rfl rfl ⟨Nat.le_refl _, Nat.le_refl _⟩ dX4_asleep_102 ?_
                refine g_aload_n (pc := 105) o 0 dX4_asleep_105 rfl rfl ?_
                refine g_getR (pc := 106) o flRX4_13 rfl (by omega) y3 dX4_asleep_106 ?_
                refine g_bipush (pc := 109) (v := 32) o dX4_asleep_109 (by decide) ?_
                refine g_iload (pc := 111) o dX4_asleep_111 rfl ?_
                refine g_iadd (pc := 113) o dX4_asleep_113 ?_
                refine g_iald (pc := 114) o ((32 + c)) rfl (by omega) (nI_addE rfl rfl) (by omega) dX4_asleep_114 ?_
                rw [hT (32 + c) (by omega)]
                refine g_icmp_gt (pc := 115) o 125 dX4_asleep_115 (by decide) (fun q115 => ?_) (fun q115 => ?_)
                · have e1 : mk (slB T S hd nv sh di dl cal) (c + 1) = mk (slB T S hd nv sh di dl cal) c := mk_f (by have g6 := (lt_N (by omega) (by omega) rfl rfl).mp q115; unfold slB; rw [ly]; simp; intro _; omega)
                  refine g_iconst (pc := 125) (v := 0) o dX4_asleep_125 (by decide) ?_
                  refine g_ior (pc := 126) o dX4_asleep_126 ?_
                  refine g_istore_n (pc := 127) o 2 dX4_asleep_127 rfl rfl ?_
                  refine g_incN (pc := 128) o (c) dX4_asleep_128 rfl rfl ?_
                  refine g_goto (pc := 131) o 7 dX4_asleep_131 (by decide) ?_
                  first | (refine g_eq rfl ?_ rfl rfl (ih (c + 1) (some (.int (nI (T (14 + c))))) (some (.int (nI (usd T (mcd T S nv cal) (T (14 + c)) c)))) (by omega) (by omega)); rw [e1, e2]; rfl) | (refine g_eq rfl ?_ rfl rfl (ih (c + 1) (some (.int (nI (T (14 + c))))) (some (.int (nI (usd T (mcd T S nv cal) (T (14 + c)) c)))) (by omega) (by omega)); rw [← e1, e2]; rfl) | (refine g_eq rfl ?_ rfl rfl (ih (c + 1) (some (.int (nI (T (14 + c))))) (some (.int (nI (usd T (mcd T S nv cal) (T (14 + c)) c)))) (by omega) (by omega)); rw [e1, e2, or0]; rfl)
                · have e1 := mk_t (p := slB T S hd nv sh di dl cal) (n := c) (by have g6 := mt (lt_N (by omega) (by omega) rfl rfl).mpr q115; unfold slB; rw [ly]; simp [g5]; omega) (by omega)
                  refine g_iconst (pc := 118) (v := 1) o dX4_asleep_118 (by decide) ?_
                  refine g_iload (pc := 119) o dX4_asleep_119 rfl ?_
                  refine g_ishl (pc := 121) o dX4_asleep_121 ?_
                  refine g_goto (pc := 122) o 126 dX4_asleep_122 (by decide) ?_
                  refine g_ior (pc := 126) o dX4_asleep_126 ?_
                  refine g_istore_n (pc := 127) o 2 dX4_asleep_127 rfl rfl ?_
                  refine g_incN (pc := 128) o (c) dX4_asleep_128 rfl rfl ?_
                  refine g_goto (pc := 131) o 7 dX4_asleep_131 (by decide) ?_
                  first | (refine g_eq rfl ?_ rfl rfl (ih (c + 1) (some (.int (nI (T (14 + c))))) (some (.int (nI (usd T (mcd T S nv cal) (T (14 + c)) c)))) (by omega) (by omega)); rw [e1, e2]; rfl) | (refine g_eq rfl ?_ rfl rfl (ih (c + 1) (some (.int (nI (T (14 + c))))) (some (.int (nI (usd T (mcd T S nv cal) (T (14 + c)) c)))) (by omega) (by omega)); rw [← e1, e2]; rfl) | (refine g_eq rfl ?_ rfl rfl (ih (c + 1) (some (.int (nI (T (14 + c))))) (some (.int (nI (usd T (mcd T S nv cal) (T (14 + c)) c)))) (by omega) (by omega)); rw [e1, e2, or0]; rfl)
  refine g_iconst (pc := 0) (v := 0) o dX4_asleep_0 (by decide) ?_
  refine g_istore_n (pc := 1) o 2 dX4_asleep_1 rfl rfl ?_
  refine g_iconst (pc := 2) (v := 0) o dX4_asleep_2 (by decide) ?_
  refine g_istore_n (pc := 3) o 3 dX4_asleep_3 rfl rfl ?_
  refine g_iconst (pc := 4) (v := 0) o dX4_asleep_4 (by decide) ?_
  refine g_istore (pc := 5) o dX4_asleep_5 rfl ?_
  exact loop (T 2 + 1) 0 none none (by omega) (by omega)

end M18
