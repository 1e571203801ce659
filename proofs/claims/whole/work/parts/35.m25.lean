section M25
variable {Λ : PL} {d n : Nat} {M : HM} {Rf : HR} {Lg : HL}

theorem red_spec {p : Nat} (hp : 1 < p) (a m : Nat) (K : Nat) : ∀ k, k ≤ K → ∃ x, x ≤ k ∧ a = (red p a (p ^ K * m) k).1 * p ^ x ∧ (red p a (p ^ K * m) k).2 = p ^ (K - x) * m ∧ (x = k ∨ ¬ (red p a (p ^ K * m) k).1 % p = 0) := by
  intro k
  induction k with
  | zero => intro _; exact ⟨0, by omega, by simp [red], by simp [red], Or.inl rfl⟩
  | succ k ih =>
    intro hk
    obtain ⟨x, h1, h2, h3, h4⟩ := ih (by omega)
    by_cases q : (red p a (p ^ K * m) k).1 % p = 0
    · have e : red p a (p ^ K * m) (k + 1) = ((red p a (p ^ K * m) k).1 / p, (red p a (p ^ K * m) k).2 / p) := by show (if _ then _ else _) = _; rw [if_pos q]
      have hx : x = k := by rcases h4 with h | h; exact h; exact absurd q h
      refine ⟨x + 1, by omega, ?_, ?_, Or.inl (by omega)⟩
      · rw [e]
        show a = (red p a (p ^ K * m) k).1 / p * p ^ (x + 1)
        rw [Nat.pow_succ, Nat.mul_comm (p ^ x) p, ← Nat.mul_assoc, Nat.div_mul_cancel (Nat.dvd_of_mod_eq_zero q)]
        exact h2
      · rw [e]
        show (red p a (p ^ K * m) k).2 / p = _
        rw [h3, show K - x = (K - (x + 1)) + 1 by omega, Nat.pow_succ, Nat.mul_comm (p ^ (K - (x + 1))) p, Nat.mul_assoc, Nat.mul_div_cancel_left _ (by omega)]
    · have e : red p a (p ^ K * m) (k + 1) = red p a (p ^ K * m) k := by show (if _ then _ else _) = _; rw [if_neg q]
      rw [e]
      exact ⟨x, by omega, h2, h3, Or.inr q⟩
theorem cop_p {p a : Nat} (hp : p = 2 ∨ p = 5) (h : ¬ a % p = 0) : Nat.Coprime a p := by
  have h1 : Nat.gcd a p ∣ p := Nat.gcd_dvd_right a p
  have h2 : Nat.gcd a p ∣ a := Nat.gcd_dvd_left a p
  have h3 : Nat.gcd a p ≤ p := Nat.le_of_dvd (by omega) h1
  have h0 : 0 < Nat.gcd a p := Nat.gcd_pos_of_pos_right _ (by omega)
  show Nat.gcd a p = 1
  generalize Nat.gcd a p = g at *
  have hmod : a % g = 0 := Nat.mod_eq_zero_of_dvd h2
  have hm2 : p % g = 0 := Nat.mod_eq_zero_of_dvd h1
  rcases hp with rfl | rfl
  · have : g = 1 ∨ g = 2 := by omega
    rcases this with h | h
    · exact h
    · subst h; exact absurd hmod (by assumption)
  · have : g = 1 ∨ g = 2 ∨ g = 3 ∨ g = 4 ∨ g = 5 := by omega
    rcases this with h | h | h | h | h <;> subst h <;> first | rfl | omega
theorem lea_gcd (u e : Nat) : (lea u e).1 = u / Nat.gcd u (10 ^ e) ∧ (lea u e).2 = 10 ^ e / Nat.gcd u (10 ^ e) := by
  have e10 : (10 : Nat) ^ e = 2 ^ e * 5 ^ e := by rw [← Nat.mul_pow]
  unfold lea
  rw [e10]
  obtain ⟨x, x1, x2, x3, x4⟩ := red_spec (p := 2) (by decide) u (5 ^ e) e e (Nat.le_refl _)
  generalize hr : red 2 u (2 ^ e * 5 ^ e) e = r at *
  rw [x3, Nat.mul_comm (2 ^ (e - x)) (5 ^ e)]
  obtain ⟨y, y1, y2, y3, y4⟩ := red_spec (p := 5) (by decide) r.1 (2 ^ (e - x)) e e (Nat.le_refl _)
  generalize hq : red 5 r.1 (5 ^ e * 2 ^ (e - x)) e = q at *
  have hc : 0 < 5 ^ y * 2 ^ x := Nat.mul_pos (Nat.pow_pos (by decide)) (Nat.pow_pos (by decide))
  have hu : u = q.1 * (5 ^ y * 2 ^ x) := by rw [x2, y2, Nat.mul_assoc]
  have h10 : 2 ^ e * 5 ^ e = q.2 * (5 ^ y * 2 ^ x) := by
    rw [y3]
    have a1 : 5 ^ e = 5 ^ (e - y) * 5 ^ y := by rw [← Nat.pow_add]; congr 1; omega
    have a2 : 2 ^ e = 2 ^ (e - x) * 2 ^ x := by rw [← Nat.pow_add]; congr 1; omega
    rw [a1, a2]
    simp only [Nat.mul_assoc, Nat.mul_comm, Nat.mul_left_comm]
  have c5 : Nat.Coprime q.1 (5 ^ (e - y)) := by
    rcases y4 with h | h
    · rw [h, Nat.sub_self]; exact Nat.coprime_one_right _
    · exact Nat.Coprime.pow_right _ (cop_p (Or.inr rfl) h)
  have c2 : Nat.Coprime q.1 (2 ^ (e - x)) := by
    rcases x4 with h | h
    · rw [h, Nat.sub_self]; exact Nat.coprime_one_right _
    · refine Nat.Coprime.pow_right _ (cop_p (Or.inl rfl) (fun g => h ?_))
      rw [y2, Nat.mul_mod, g]; simp
  have hg : Nat.gcd u (2 ^ e * 5 ^ e) = 5 ^ y * 2 ^ x := by
    rw [hu, h10, Nat.gcd_mul_right, y3]
    rw [show Nat.gcd q.1 (5 ^ (e - y) * 2 ^ (e - x)) = 1 from Nat.Coprime.mul_right c5 c2, Nat.one_mul]
  rw [hg]
  constructor
  · exact (Nat.div_eq_of_eq_mul_left hc hu).symm
  · exact (Nat.div_eq_of_eq_mul_left hc h10).symm
def ity (p th so : Nat) : Nat → Nat
  | 0 => 1
  | i + 1 => ity p th so i * (if th.testBit i = true then (if so.testBit i = true then p else 10 - p) else 1)
theorem ity_eq {p th so : Nat} (h : ∀ i, so.testBit i = true → th.testBit i = true) (k : Nat) : ity p th so k = p ^ popn k so * (10 - p) ^ (popn k th - popn k so) := by
  induction k with
  | zero => rfl
  | succ k ih =>
    show ity p th so k * _ = p ^ (popn k so + bn (so.testBit k)) * (10 - p) ^ (popn k th + bn (th.testBit k) - (popn k so + bn (so.testBit k)))
    have hm := popn_mono h k
    rw [ih]
    cases e1 : so.testBit k with
    | true =>
      rw [h k e1]
      simp only [if_true, bn]
      rw [Nat.pow_succ, show popn k th + 1 - (popn k so + 1) = popn k th - popn k so by omega, Nat.mul_assoc, Nat.mul_assoc]
      congr 1
      exact Nat.mul_comm _ _
    | false =>
      cases e2 : th.testBit k with
      | true =>
        simp [bn]
        rw [show popn k th + 1 - popn k so = (popn k th - popn k so) + 1 by omega, Nat.pow_succ, Nat.mul_assoc]
      | false => simp [bn]
theorem ity_le {p th so : Nat} (hp : p ≤ 10) (k : Nat) : ity p th so k ≤ 10 ^ k := by
  induction k with
  | zero => exact Nat.le_refl _
  | succ k ih =>
    show _ * _ ≤ 10 ^ k * 10
    refine Nat.mul_le_mul ih ?_
    split
    · split <;> omega
    · decide
theorem sub10 : ∀ p, p < 11 → (10 : Int32) - nI p = nI (10 - p) := by decide +kernel

theorem pop_6 {w : Nat} (h : w < 64) : pop w = popn 6 w := popn_small (k := 6) h 8 (by decide)
set_option maxHeartbeats 2000000 in
set_option maxRecDepth 20000 in
theorem cX4odds {b : Nat} {T S : Nat → Nat} (mb : MB M Rf n T S b) {dl : Nat} (mf : MF M 63 (-9) (-9) (-9) dl) {v w : Int32} : Ret Λ (d + 2) mX4_odds [.ref 96, .int v, .int w] (n, M, Rf, Lg) (some (.int (aOdds T S v w))) (n, M, Rf, Lg) 0 0 := by
  refine Ret.of rfl rfl rfl (fun κ o f hin => ?_)
  obtain ⟨rm, hn, ht, hT, hS, os, hb9⟩ := id mb
  obtain ⟨y1, y3, y4, y5, y6, y8, y9, y10, y21, y22, y23, y24⟩ := id rm
  obtain ⟨⟨t0, t0b⟩, t1, t2, t3, tD, tC, tN⟩ := id ht
  obtain ⟨os0, os1, os2, osc⟩ := id os
  obtain ⟨f16, hd6, f17, f18, f19, f20, hdl⟩ := id mf
  refine g_iload_n (pc := 0) o 1 dX4_odds_0 rfl rfl ?_
  refine g_iconst (pc := 1) (v := 0) o dX4_odds_1 (by decide) ?_
  refine g_bipush (pc := 2) (v := 10) o dX4_odds_2 (by decide) ?_
  refine g_S3i (pc := 4) o lkRX4_67 cmX4_in (cX4inN 11 (by decide) rfl) rfl rfl ⟨Nat.le_refl _, Nat.le_refl _⟩ dX4_odds_4 ?_
  refine g_if_eq (pc := 7) o 19 dX4_odds_7 (by decide) (fun q7 => ?_) (fun q7 => ?_)
  · have g := bi_z.mp q7
    refine g_iconst (pc := 19) (v := -1) o dX4_odds_19 (by decide) ?_
    exact g_iret (pc := 20) o f dX4_odds_20 rfl (by unfold aOdds; rw [if_neg (by intro hh; first | exact g hh.1 | exact g hh.2)]) rfl
  · have gp := bi_nz.mp q7
    refine g_iload_n (pc := 10) o 2 dX4_odds_10 rfl rfl ?_
    refine g_iconst (pc := 11) (v := 0) o dX4_odds_11 (by decide) ?_
    refine g_iconst (pc := 12) (v := 1) o dX4_odds_12 (by decide) ?_
    refine g_S3i (pc := 13) o lkRX4_67 cmX4_in (cX4inN 2 (by decide) rfl) rfl rfl ⟨Nat.le_refl _, Nat.le_refl _⟩ dX4_odds_13 ?_
    refine g_if_ne (pc := 16) o 21 dX4_odds_16 (by decide) (fun q16 => ?_) (fun q16 => ?_)
    · have gw := bi_nz.mp q16
      obtain ⟨p, hp, rfl⟩ := inn_of gp (by omega)
      have hp10 : p ≤ 10 := by omega
      have hth := ns64 (T := T) t3 (S 1)
      have ppl := pop6 hth
      have hbe : (10 ^ pop (nsO T (S 1))) ≤ 1000000 := Nat.pow_le_pow_right (n := 10) (by decide) (by omega)
      have hub64 := odU_le (T := T) (S := S) hp10 t3 64
      have loopE : ∀ (k a2 b2 : Nat) (x8), b2 < k → a2 < 100000000 → b2 < 100000000 → Nat.gcd a2 b2 = Nat.gcd (odU T S p 64) (10 ^ pop (nsO T (S 1))) → G (Λ, κ) 236 [some (.ref 96), some (.int (nI p)), some (.int w), some (.int (nI (nsO T (S 1)))), some (.int (nI (odU T S p 64))), some (.int (nI (10 ^ pop (nsO T (S 1))))), some (.int (nI a2)), some (.int (nI b2)), x8] [] (n, M, Rf, Lg) 0 0 := by
        intro k
        induction k with
        | zero => intro a2 b2 x8 h1; exact absurd h1 (by omega)
        | succ k ih =>
          intro a2 b2 x8 h1 h2 h3 hg
          refine g_iload (pc := 236) o dX4_odds_236 rfl ?_
          refine g_if_le (pc := 238) o 259 dX4_odds_238 (by decide) (fun q238 => ?_) (fun q238 => ?_)
          · have b0 : b2 = 0 := by have := (le_N (b := 0) (by omega) (by decide) rfl rfl).mp q238; omega
            subst b0
            rw [Nat.gcd_zero_right] at hg
            subst hg
            have hgp : 0 < Nat.gcd (odU T S p 64) (10 ^ pop (nsO T (S 1))) := Nat.gcd_pos_of_pos_right _ (Nat.pow_pos (by decide))
            have hnz : ¬ nI (Nat.gcd (odU T S p 64) (10 ^ pop (nsO T (S 1)))) = 0 := fun h => by have := (nI_eq (b := 0) (by omega) (by decide)).mp h; omega
            refine g_iload_n (pc := 259) o 2 dX4_odds_259 rfl rfl ?_
            refine g_if_ne (pc := 260) o 271 dX4_odds_260 (by decide) (fun q260 => ?_) (fun q260 => ?_)
            · have w0 : ¬ w = 0 := q260
              refine g_iload (pc := 271) o dX4_odds_271 rfl ?_
              refine g_iload (pc := 273) o dX4_odds_273 rfl ?_
              refine g_idiv (pc := 275) o dX4_odds_275 hnz ?_
              exact g_iret (pc := 276) o f dX4_odds_276 rfl (by unfold aOdds; rw [if_pos ⟨gp, gw⟩, nI_clamp (by omega), (lea_gcd _ _).1, (lea_gcd _ _).2]; first | (rw [if_pos w0]; exact pk_div (by omega) (by omega) (by omega)) | (rw [if_neg w0]; exact pk_div (by omega) (by omega) (by omega))) rfl
            · have w0 : w = 0 := q260
              refine g_iload (pc := 263) o dX4_odds_263 rfl ?_
              refine g_iload (pc := 265) o dX4_odds_265 rfl ?_
              refine g_idiv (pc := 267) o dX4_odds_267 hnz ?_
              refine g_goto (pc := 268) o 276 dX4_odds_268 (by decide) ?_
              exact g_iret (pc := 276) o f dX4_odds_276 rfl (by unfold aOdds; rw [if_pos ⟨gp, gw⟩, nI_clamp (by omega), (lea_gcd _ _).1, (lea_gcd _ _).2]; first | (rw [if_pos w0]; exact pk_div (by omega) (by omega) (by omega)) | (rw [if_neg w0]; exact pk_div (by omega) (by omega) (by omega))) rfl
          · have b0 : 0 < b2 := by have := mt (le_N (b := 0) (by omega) (by decide) rfl rfl).mpr q238; omega
            have hbz : ¬ nI b2 = 0 := fun h => by have := (nI_eq (b := 0) (by omega) (by decide)).mp h; omega
            have hlt := Nat.mod_lt a2 b0
            refine g_iload (pc := 241) o dX4_odds_241 rfl ?_
            refine g_iload (pc := 243) o dX4_odds_243 rfl ?_
            refine g_irem (pc := 245) o dX4_odds_245 hbz ?_
            rw [show nI a2 - nI a2 / nI b2 * nI b2 = nI (a2 % b2) from pk_rem (by omega) (by omega) (by omega)]
            refine g_istore (pc := 246) o dX4_odds_246 rfl ?_
            refine g_iload (pc := 248) o dX4_odds_248 rfl ?_
            refine g_istore (pc := 250) o dX4_odds_250 rfl ?_
            refine g_iload (pc := 252) o dX4_odds_252 rfl ?_
            refine g_istore (pc := 254) o dX4_odds_254 rfl ?_
            refine g_goto (pc := 256) o 236 dX4_odds_256 (by decide) ?_
            exact ih b2 (a2 % b2) _ (by omega) (by omega) (by omega) (by rw [Nat.gcd_comm, ← Nat.gcd_rec, Nat.gcd_comm]; exact hg)
      have loopC : ∀ (k c : Nat) (y : Int32) (x7 x8), c ≤ 64 → 64 < c + k → G (Λ, κ) 107 [some (.ref 96), some (.int (nI p)), some (.int w), some (.int (nI (nsO T (S 1)))), some (.int (nI (odU T S p c))), some (.int (nI (10 ^ pop (nsO T (S 1))))), some (.int (nI c)), x7, x8] [] (n, (st2 M 96 16 y), Rf, Lg) 0 0 := by
        intro k
        induction k with
        | zero => intro c y x7 x8 h1 h2; exact absurd h2 (by omega)
        | succ k ih =>
          intro c y x7 x8 h1 h2
          have hub := odU_le (T := T) (S := S) hp10 t3 c
          refine g_iload (pc := 107) o dX4_odds_107 rfl ?_
          refine g_bipush (pc := 109) (v := 64) o dX4_odds_109 (by decide) ?_
          refine g_icmp_ge (pc := 111) o 222 dX4_odds_111 (by decide) (fun q111 => ?_) (fun q111 => ?_)
          · have ec : c = 64 := by have := (le_N (a := 64) (b := c) (by omega) (by omega) rfl rfl).mp q111; omega
            refine g_aload_n (pc := 222) o 0 dX4_odds_222 rfl rfl ?_
            refine g_bipush (pc := 223) (v := 63) o dX4_odds_223 (by decide) ?_
            refine g_putI (pc := 225) o flRX4_35 rfl rfl (by omega) rfl rfl dX4_odds_225 ?_
            rw [st2_st2, show st2 M 96 16 63 = M from by rw [show (63 : Int32) = nI 63 from rfl, ← f16, st2_self]]
            refine g_iload (pc := 228) o dX4_odds_228 rfl ?_
            refine g_istore (pc := 230) o dX4_odds_230 rfl ?_
            refine g_iload (pc := 232) o dX4_odds_232 rfl ?_
            refine g_istore (pc := 234) o dX4_odds_234 rfl ?_
            subst ec
            exact loopE (10 ^ pop (nsO T (S 1)) + 1) (odU T S p 64) (10 ^ pop (nsO T (S 1))) x8 (by omega) (by omega) (by omega) rfl
          · have hc1 : c < 64 := by have := mt (le_N (a := 64) (b := c) (by omega) (by omega) rfl rfl).mpr q111; omega
            refine g_iload (pc := 114) o dX4_odds_114 rfl ?_
            refine g_iload_n (pc := 116) o 3 dX4_odds_116 rfl rfl ?_
            refine g_iconst (pc := 117) (v := -1) o dX4_odds_117 (by decide) ?_
            refine g_ixor (pc := 118) o dX4_odds_118 ?_
            refine g_iand (pc := 119) o dX4_odds_119 ?_
            rw [n_dif]
            refine g_if_ne (pc := 120) o 216 dX4_odds_120 (by decide) (fun q120 => ?_) (fun q120 => ?_)
            · have gd : ¬ dif c (nsO T (S 1)) = 0 := fun h => q120 (by rw [h]; rfl)
              have e1 : odU T S p (c + 1) = odU T S p c := by show _ + odT T S p c = _; unfold odT; rw [if_neg (fun h => gd h.1)]; rfl
              refine g_incN (pc := 216) o (c) dX4_odds_216 rfl rfl ?_
              refine g_goto (pc := 219) o 107 dX4_odds_219 (by decide) ?_
              refine g_eq rfl ?_ rfl rfl (ih (c + 1) y x7 x8 (by omega) (by omega))
              rw [e1]; rfl
            · have gd : dif c (nsO T (S 1)) = 0 := (nI_eq (a := dif c (nsO T (S 1))) (b := 0) (by have := dif6 (b := (nsO T (S 1))) (show c < 64 by omega); omega) (by decide)).mp q120
              have mbc : MB (st2 (st2 M 96 16 y) 96 16 (nI c)) Rf n T S b := mb.kept (by rw [st2_ne _ _ _ (by decide), st2_ne _ _ _ (by decide)]) (by rw [st2_ne _ _ _ (by decide), st2_ne _ _ _ (by decide)])
              have e : ∀ j, j ≠ 16 → (st2 (st2 M 96 16 y) 96 16 (nI c)) 96 j = M 96 j := fun j hj => by rw [st2_ne2 _ _ (by omega), st2_ne2 _ _ (by omega)]
              have mfc : MF (st2 (st2 M 96 16 y) 96 16 (nI c)) c (-9) (-9) (-9) dl := by
                unfold MF
                rw [e 17 (by decide), e 18 (by decide), e 19 (by decide), e 20 (by decide), st2_same]
                exact ⟨rfl, by omega, mf.2.2.1, mf.2.2.2.1, mf.2.2.2.2.1, mf.2.2.2.2.2.1, mf.2.2.2.2.2.2⟩
              have e98 : (st2 (st2 M 96 16 y) 96 16 (nI c)) 98 1 = nI (T 1) := by rw [st2_ne _ _ _ (by decide), st2_ne _ _ _ (by decide)]; exact hT 1 (by decide)
              have loopD : ∀ k i : Nat, i ≤ 6 → 6 < i + k → G (Λ, κ) 129 [some (.ref 96), some (.int (nI p)), some (.int w), some (.int (nI (nsO T (S 1)))), some (.int (nI (odU T S p c))), some (.int (nI (10 ^ pop (nsO T (S 1))))), some (.int (nI c)), some (.int (nI (ity p (nsO T (S 1)) c i))), some (.int (nI i))] [] (n, (st2 M 96 16 y), Rf, Lg) 0 0 := by
                intro k
                induction k with
                | zero => intro i h1 h2; exact absurd h2 (by omega)
                | succ k ih2 =>
                  intro i h1 h2
                  refine g_iload (pc := 129) o dX4_odds_129 rfl ?_
                  refine g_bipush (pc := 131) (v := 6) o dX4_odds_131 (by decide) ?_
                  refine g_icmp_ge (pc := 133) o 179 dX4_odds_133 (by decide) (fun q133 => ?_) (fun q133 => ?_)
                  · have ei : i = 6 := by have := (le_N (a := 6) (b := i) (by omega) (by omega) rfl rfl).mp q133; omega
                    refine g_aload_n (pc := 179) o 0 dX4_odds_179 rfl rfl ?_
                    refine g_iload (pc := 180) o dX4_odds_180 rfl ?_
                    refine g_putI (pc := 182) o flRX4_35 rfl rfl (by omega) rfl rfl dX4_odds_182 ?_
                    refine g_iload (pc := 185) o dX4_odds_185 rfl ?_
                    refine g_aload_n (pc := 187) o 0 dX4_odds_187 rfl rfl ?_
                    refine g_aload_n (pc := 188) o 0 dX4_odds_188 rfl rfl ?_
                    refine g_V0i (pc := 189) o lkRX4_158 cmX4_calledNow (cX4calledNow mbc) rfl (by omega) rfl rfl ⟨Nat.le_refl _, Nat.le_refl _⟩ dX4_odds_189 ?_
                    refine g_V1i (pc := 192) o lkRX4_162 cmX4_asleep (cX4asleep mbc mfc (by have := calN6 (S := S) t2; omega)) rfl (by omega) rfl rfl ⟨Nat.le_refl _, Nat.le_refl _⟩ dX4_odds_192 ?_
                    rw [mSl_od ht gd]
                    refine g_S1i (pc := 195) o lkRX4_155 cmX4_ones (cX4ones (by have := dif6 (b := wkA T c) (lieL6 T (cdA T S (-1)) t2); exact Nat.lt_of_lt_of_le this (by decide))) rfl rfl ⟨Nat.le_refl _, Nat.le_refl _⟩ dX4_odds_195 ?_
                    refine g_aload_n (pc := 198) o 0 dX4_odds_198 rfl rfl ?_
                    refine g_getR (pc := 199) o flRX4_13 rfl (by omega) y3 dX4_odds_199 ?_
                    refine g_iconst (pc := 202) (v := 1) o dX4_odds_202 (by decide) ?_
                    refine g_iald (pc := 203) o (1) rfl (by omega) rfl (by omega) dX4_odds_203 ?_
                    refine g_icmp_lt (pc := 204) o 212 dX4_odds_204 (by decide) (fun q204 => ?_) (fun q204 => ?_)
                    · have g3 := (lt_N (b := T 1) (by have := pop_le (dif (lie T (cdA T S (-1))) (wkA T c)); omega) (by omega) rfl e98).mp q204
                      have e1 : odU T S p (c + 1) = odU T S p c := by show _ + odT T S p c = _; unfold odT; rw [if_neg (fun h => h.2 g3)]; rfl
                      refine g_iconst (pc := 212) (v := 0) o dX4_odds_212 (by decide) ?_
                      refine g_iadd (pc := 213) o dX4_odds_213 ?_
                      refine g_istore (pc := 214) o dX4_odds_214 rfl ?_
                      refine g_incN (pc := 216) o (c) dX4_odds_216 rfl rfl ?_
                      refine g_goto (pc := 219) o 107 dX4_odds_219 (by decide) ?_
                      refine g_eq rfl ?_ rfl (hp_M (st2_st2 _ _ _ _ _)) (ih (c + 1) (nI c) (some (.int (nI (ity p (nsO T (S 1)) c i)))) (some (.int (nI i))) (by omega) (by omega))
                      rw [e1]
                      first | (rw [ei, show nI (odU T S p c + ity p (nsO T (S 1)) c 6) = nI (odU T S p c) + nI (ity p (nsO T (S 1)) c 6) from (nI_add _ _).symm]; rfl) | (rw [show nI (odU T S p c) + 0 = nI (odU T S p c) from Int32.add_zero _]; rfl)
                    · have g3 := mt (lt_N (b := T 1) (by have := pop_le (dif (lie T (cdA T S (-1))) (wkA T c)); omega) (by omega) rfl e98).mpr q204
                      have e1 : odU T S p (c + 1) = odU T S p c + ity p (nsO T (S 1)) c 6 := by show _ + odT T S p c = _; unfold odT; rw [if_pos ⟨gd, g3⟩, ity_eq (dif_sub gd), ← pop_6 (show c < 64 by omega), ← pop_6 hth]
                      refine g_iload (pc := 207) o dX4_odds_207 rfl ?_
                      refine g_goto (pc := 209) o 213 dX4_odds_209 (by decide) ?_
                      refine g_iadd (pc := 213) o dX4_odds_213 ?_
                      refine g_istore (pc := 214) o dX4_odds_214 rfl ?_
                      refine g_incN (pc := 216) o (c) dX4_odds_216 rfl rfl ?_
                      refine g_goto (pc := 219) o 107 dX4_odds_219 (by decide) ?_
                      refine g_eq rfl ?_ rfl (hp_M (st2_st2 _ _ _ _ _)) (ih (c + 1) (nI c) (some (.int (nI (ity p (nsO T (S 1)) c i)))) (some (.int (nI i))) (by omega) (by omega))
                      rw [e1]
                      first | (rw [ei, show nI (odU T S p c + ity p (nsO T (S 1)) c 6) = nI (odU T S p c) + nI (ity p (nsO T (S 1)) c 6) from (nI_add _ _).symm]; rfl) | (rw [show nI (odU T S p c) + 0 = nI (odU T S p c) from Int32.add_zero _]; rfl)
                  · have hi1 : i < 6 := by have := mt (le_N (a := 6) (b := i) (by omega) (by omega) rfl rfl).mpr q133; omega
                    refine g_iload (pc := 136) o dX4_odds_136 rfl ?_
                    refine g_iload_n (pc := 138) o 3 dX4_odds_138 rfl rfl ?_
                    refine g_iload (pc := 139) o dX4_odds_139 rfl ?_
                    refine g_ishr (pc := 141) o dX4_odds_141 ?_
                    refine g_iconst (pc := 142) (v := 1) o dX4_odds_142 (by decide) ?_
                    refine g_iand (pc := 143) o dX4_odds_143 ?_
                    rw [n_bit (by omega) (by omega)]
                    refine g_if_ne (pc := 144) o 151 dX4_odds_144 (by decide) (fun q144 => ?_) (fun q144 => ?_)
                    · have g1 : (nsO T (S 1)).testBit i = true := by have h := mt bn_zero.mpr q144; simpa using h
                      refine g_iload (pc := 151) o dX4_odds_151 rfl ?_
                      refine g_iload (pc := 153) o dX4_odds_153 rfl ?_
                      refine g_ishr (pc := 155) o dX4_odds_155 ?_
                      refine g_iconst (pc := 156) (v := 1) o dX4_odds_156 (by decide) ?_
                      refine g_iand (pc := 157) o dX4_odds_157 ?_
                      rw [n_bit (by omega) (by omega)]
                      refine g_iconst (pc := 158) (v := 1) o dX4_odds_158 (by decide) ?_
                      refine g_icmp_ne (pc := 159) o 166 dX4_odds_159 (by decide) (fun q159 => ?_) (fun q159 => ?_)
                      · have g2 : c.testBit i = false := by have h := mt bn_one.mpr q159; simpa using h
                        have e1 : ity p (nsO T (S 1)) c (i + 1) = ity p (nsO T (S 1)) c i * (10 - p) := by show _ * _ = _; rw [g1, g2]; rfl
                        refine g_bipush (pc := 166) (v := 10) o dX4_odds_166 (by decide) ?_
                        refine g_iload_n (pc := 168) o 1 dX4_odds_168 rfl rfl ?_
                        refine g_isub (pc := 169) o dX4_odds_169 ?_
                        skip
                        refine g_imul (pc := 170) o dX4_odds_170 ?_
                        refine g_istore (pc := 171) o dX4_odds_171 rfl ?_
                        refine g_incN (pc := 173) o (i) dX4_odds_173 rfl rfl ?_
                        refine g_goto (pc := 176) o 129 dX4_odds_176 (by decide) ?_
                        refine g_eq rfl ?_ rfl rfl (ih2 (i + 1) (by omega) (by omega))
                        rw [e1]
                        first | (rw [show nI (ity p (nsO T (S 1)) c i * p) = nI (ity p (nsO T (S 1)) c i) * nI p from (nI_mulE rfl rfl).symm]; rfl) | (rw [show nI (ity p (nsO T (S 1)) c i * (10 - p)) = nI (ity p (nsO T (S 1)) c i) * (10 - nI p) from by rw [sub10 p (by omega)]; exact (nI_mulE rfl rfl).symm]; rfl) | (rw [Nat.mul_one, show nI (ity p (nsO T (S 1)) c i) * 1 = nI (ity p (nsO T (S 1)) c i) from Int32.mul_one _]; rfl)
                      · have g2 : c.testBit i = true := bn_one.mp q159
                        have e1 : ity p (nsO T (S 1)) c (i + 1) = ity p (nsO T (S 1)) c i * p := by show _ * _ = _; rw [g1, g2]; rfl
                        refine g_iload_n (pc := 162) o 1 dX4_odds_162 rfl rfl ?_
                        refine g_goto (pc := 163) o 170 dX4_odds_163 (by decide) ?_
                        skip
                        refine g_imul (pc := 170) o dX4_odds_170 ?_
                        refine g_istore (pc := 171) o dX4_odds_171 rfl ?_
                        refine g_incN (pc := 173) o (i) dX4_odds_173 rfl rfl ?_
                        refine g_goto (pc := 176) o 129 dX4_odds_176 (by decide) ?_
                        refine g_eq rfl ?_ rfl rfl (ih2 (i + 1) (by omega) (by omega))
                        rw [e1]
                        first | (rw [show nI (ity p (nsO T (S 1)) c i * p) = nI (ity p (nsO T (S 1)) c i) * nI p from (nI_mulE rfl rfl).symm]; rfl) | (rw [show nI (ity p (nsO T (S 1)) c i * (10 - p)) = nI (ity p (nsO T (S 1)) c i) * (10 - nI p) from by rw [sub10 p (by omega)]; exact (nI_mulE rfl rfl).symm]; rfl) | (rw [Nat.mul_one, show nI (ity p (nsO T (S 1)) c i) * 1 = nI (ity p (nsO T (S 1)) c i) from Int32.mul_one _]; rfl)
                    · have g1 : (nsO T (S 1)).testBit i = false := bn_zero.mp q144
                      have e1 : ity p (nsO T (S 1)) c (i + 1) = ity p (nsO T (S 1)) c i * 1 := by show _ * _ = _; rw [g1]; rfl
                      refine g_iconst (pc := 147) (v := 1) o dX4_odds_147 (by decide) ?_
                      refine g_goto (pc := 148) o 170 dX4_odds_148 (by decide) ?_
                      skip
                      refine g_imul (pc := 170) o dX4_odds_170 ?_
                      refine g_istore (pc := 171) o dX4_odds_171 rfl ?_
                      refine g_incN (pc := 173) o (i) dX4_odds_173 rfl rfl ?_
                      refine g_goto (pc := 176) o 129 dX4_odds_176 (by decide) ?_
                      refine g_eq rfl ?_ rfl rfl (ih2 (i + 1) (by omega) (by omega))
                      rw [e1]
                      first | (rw [show nI (ity p (nsO T (S 1)) c i * p) = nI (ity p (nsO T (S 1)) c i) * nI p from (nI_mulE rfl rfl).symm]; rfl) | (rw [show nI (ity p (nsO T (S 1)) c i * (10 - p)) = nI (ity p (nsO T (S 1)) c i) * (10 - nI p) from by rw [sub10 p (by omega)]; exact (nI_mulE rfl rfl).symm]; rfl) | (rw [Nat.mul_one, show nI (ity p (nsO T (S 1)) c i) * 1 = nI (ity p (nsO T (S 1)) c i) from Int32.mul_one _]; rfl)
              refine g_iconst (pc := 123) (v := 1) o dX4_odds_123 (by decide) ?_
              refine g_istore (pc := 124) o dX4_odds_124 rfl ?_
              refine g_iconst (pc := 126) (v := 0) o dX4_odds_126 (by decide) ?_
              refine g_istore (pc := 127) o dX4_odds_127 rfl ?_
              exact loopD 7 0 (by omega) (by omega)
      have loopB : ∀ k c : Nat, c ≤ pop (nsO T (S 1)) → pop (nsO T (S 1)) < c + k → G (Λ, κ) 82 [some (.ref 96), some (.int (nI p)), some (.int w), some (.int (nI (nsO T (S 1)))), some (.int 0), some (.int (nI (10 ^ c))), some (.int (nI c)), none, none] [] (n, M, Rf, Lg) 0 0 := by
        intro k
        induction k with
        | zero => intro c h1 h2; exact absurd h2 (by omega)
        | succ k ih =>
          intro c h1 h2
          refine g_iload (pc := 82) o dX4_odds_82 rfl ?_
          refine g_iload_n (pc := 84) o 3 dX4_odds_84 rfl rfl ?_
          refine g_S1i (pc := 85) o lkRX4_155 cmX4_ones (cX4ones (by omega)) rfl rfl ⟨Nat.le_refl _, Nat.le_refl _⟩ dX4_odds_85 ?_
          refine g_icmp_ge (pc := 88) o 104 dX4_odds_88 (by decide) (fun q88 => ?_) (fun q88 => ?_)
          · have ec : c = pop (nsO T (S 1)) := by have := (le_N (a := pop (nsO T (S 1))) (b := c) (by omega) (by omega) rfl rfl).mp q88; omega
            refine g_iconst (pc := 104) (v := 0) o dX4_odds_104 (by decide) ?_
            refine g_istore (pc := 105) o dX4_odds_105 rfl ?_
            have h9 := loopC 65 0 (nI 63) none none (by omega) (by omega)
            rw [show st2 M 96 16 (nI 63) = M from by rw [← f16, st2_self], show odU T S p 0 = 0 from rfl] at h9
            rw [ec]
            exact h9
          · have hc1 : c < pop (nsO T (S 1)) := by have := mt (le_N (a := pop (nsO T (S 1))) (b := c) (by omega) (by omega) rfl rfl).mpr q88; omega
            refine g_iload (pc := 91) o dX4_odds_91 rfl ?_
            refine g_bipush (pc := 93) (v := 10) o dX4_odds_93 (by decide) ?_
            refine g_imul (pc := 95) o dX4_odds_95 ?_
            rw [show (10 : Int32) = nI 10 from rfl, show nI (10 ^ c) * nI 10 = nI (10 ^ (c + 1)) from nI_mulE rfl rfl]
            refine g_istore (pc := 96) o dX4_odds_96 rfl ?_
            refine g_incN (pc := 98) o (c) dX4_odds_98 rfl rfl ?_
            refine g_goto (pc := 101) o 82 dX4_odds_101 (by decide) ?_
            exact ih (c + 1) (by omega) (by omega)
      have afterA : ∀ x4, G (Λ, κ) 73 [some (.ref 96), some (.int (nI p)), some (.int w), some (.int (nI (nsO T (S 1)))), x4, none, none, none, none] [] (n, M, Rf, Lg) 0 0 := by
        intro x4
        refine g_iconst (pc := 73) (v := 0) o dX4_odds_73 (by decide) ?_
        refine g_istore (pc := 74) o dX4_odds_74 rfl ?_
        refine g_iconst (pc := 76) (v := 1) o dX4_odds_76 (by decide) ?_
        refine g_istore (pc := 77) o dX4_odds_77 rfl ?_
        refine g_iconst (pc := 79) (v := 0) o dX4_odds_79 (by decide) ?_
        refine g_istore (pc := 80) o dX4_odds_80 rfl ?_
        exact loopB (pop (nsO T (S 1)) + 1) 0 (by omega) (by omega)
      have loop : ∀ k c : Nat, c ≤ T 3 → T 3 < c + k → G (Λ, κ) 26 [some (.ref 96), some (.int (nI p)), some (.int w), some (.int (nI (mk (fun i => T (44 + i) == S 1) c))), some (.int (nI c)), none, none, none, none] [] (n, M, Rf, Lg) 0 0 := by
        intro k
        induction k with
        | zero => intro c h1 h2; exact absurd h2 (by omega)
        | succ k ih =>
          intro c h1 h2
          refine g_iload (pc := 26) o dX4_odds_26 rfl ?_
          refine g_aload_n (pc := 28) o 0 dX4_odds_28 rfl rfl ?_
          refine g_getR (pc := 29) o flRX4_13 rfl (by omega) y3 dX4_odds_29 ?_
          refine g_iconst (pc := 32) (v := 3) o dX4_odds_32 (by decide) ?_
          refine g_iald (pc := 33) o (3) rfl (by omega) rfl (by omega) dX4_odds_33 ?_
          refine g_icmp_ge (pc := 34) o 73 dX4_odds_34 (by decide) (fun q34 => ?_) (fun q34 => ?_)
          · have ec : c = T 3 := by have := (le_N (a := T 3) (b := c) (by omega) (by omega) (hT 3 (by decide)) rfl).mp q34; omega
            subst ec
            exact afterA (some (.int (nI (T 3))))
          · have hc1 : c < T 3 := by have := mt (le_N (a := T 3) (b := c) (by omega) (by omega) (hT 3 (by decide)) rfl).mpr q34; omega
            have hx := tN c hc1
            refine g_iload_n (pc := 37) o 3 dX4_odds_37 rfl rfl ?_
            refine g_aload_n (pc := 38) o 0 dX4_odds_38 rfl rfl ?_
            refine g_getR (pc := 39) o flRX4_13 rfl (by omega) y3 dX4_odds_39 ?_
            refine g_bipush (pc := 42) (v := 44) o dX4_odds_42 (by decide) ?_
            refine g_iload (pc := 44) o dX4_odds_44 rfl ?_
            refine g_iadd (pc := 46) o dX4_odds_46 ?_
            refine g_iald (pc := 47) o ((44 + c)) rfl (by omega) (nI_addE rfl rfl) (by omega) dX4_odds_47 ?_
            refine g_aload_n (pc := 48) o 0 dX4_odds_48 rfl rfl ?_
            refine g_getR (pc := 49) o flRX4_19 rfl (by omega) y5 dX4_odds_49 ?_
            refine g_iconst (pc := 52) (v := 1) o dX4_odds_52 (by decide) ?_
            refine g_iald (pc := 53) o (1) rfl (by omega) rfl (by omega) dX4_odds_53 ?_
            rw [hT (44 + c) (by omega), hS 1 (by decide)]
            refine g_icmp_ne (pc := 54) o 64 dX4_odds_54 (by decide) (fun q54 => ?_) (fun q54 => ?_)
            · have e1 := mk_f (p := (fun i => T (44 + i) == S 1)) (n := c) (by have := mt (eq_N (by omega) (by omega) rfl rfl).mpr q54; simpa using this)
              refine g_iconst (pc := 64) (v := 0) o dX4_odds_64 (by decide) ?_
              refine g_ior (pc := 65) o dX4_odds_65 ?_
              refine g_istore_n (pc := 66) o 3 dX4_odds_66 rfl rfl ?_
              refine g_incN (pc := 67) o (c) dX4_odds_67 rfl rfl ?_
              refine g_goto (pc := 70) o 26 dX4_odds_70 (by decide) ?_
              refine g_eq rfl ?_ rfl rfl (ih (c + 1) (by omega) (by omega))
              first | (rw [e1, or0]; rfl) | (rw [← e1]; rfl)
            · have e1 := mk_t (p := (fun i => T (44 + i) == S 1)) (n := c) (by have := (eq_N (by omega) (by omega) rfl rfl).mp q54; simpa using this) (by omega)
              refine g_iconst (pc := 57) (v := 1) o dX4_odds_57 (by decide) ?_
              refine g_iload (pc := 58) o dX4_odds_58 rfl ?_
              refine g_ishl (pc := 60) o dX4_odds_60 ?_
              refine g_goto (pc := 61) o 65 dX4_odds_61 (by decide) ?_
              refine g_ior (pc := 65) o dX4_odds_65 ?_
              refine g_istore_n (pc := 66) o 3 dX4_odds_66 rfl rfl ?_
              refine g_incN (pc := 67) o (c) dX4_odds_67 rfl rfl ?_
              refine g_goto (pc := 70) o 26 dX4_odds_70 (by decide) ?_
              refine g_eq rfl ?_ rfl rfl (ih (c + 1) (by omega) (by omega))
              first | (rw [e1, or0]; rfl) | (rw [← e1]; rfl)
      refine g_iconst (pc := 21) (v := 0) o dX4_odds_21 (by decide) ?_
      refine g_istore_n (pc := 22) o 3 dX4_odds_22 rfl rfl ?_
      refine g_iconst (pc := 23) (v := 0) o dX4_odds_23 (by decide) ?_
      refine g_istore (pc := 24) o dX4_odds_24 rfl ?_
      exact loop (T 3 + 1) 0 (by omega) (by omega)
    · have g := bi_z.mp q16
      refine g_iconst (pc := 19) (v := -1) o dX4_odds_19 (by decide) ?_
      exact g_iret (pc := 20) o f dX4_odds_20 rfl (by unfold aOdds; rw [if_neg (by intro hh; first | exact g hh.1 | exact g hh.2)]) rfl

end M25
