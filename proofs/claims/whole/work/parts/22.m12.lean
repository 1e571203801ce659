section M12
variable {Λ : PL} {d n : Nat} {M : HM} {Rf : HR} {Lg : HL}

/-- how far a run of places with q goes -/
def rn (q : Nat → Bool) (p : Nat) : Nat → Nat
  | 0 => p
  | k + 1 => if q p = true then rn q (p + 1) k else p
def run (q : Nat → Bool) (tl p : Nat) : Nat := rn q p (tl - p)
theorem run_end {q : Nat → Bool} {tl p : Nat} (h : tl ≤ p) : run q tl p = p := by unfold run; rw [show tl - p = 0 by omega]; rfl
theorem run_go {q : Nat → Bool} {tl p : Nat} (h : p < tl) (hq : q p = true) : run q tl p = run q tl (p + 1) := by
  unfold run
  rw [show tl - p = (tl - (p + 1)) + 1 by omega]
  show (if q p = true then _ else _) = _
  rw [if_pos hq]
theorem run_no {q : Nat → Bool} {tl p : Nat} (hq : ¬ q p = true) : run q tl p = p := by
  unfold run
  cases tl - p with
  | zero => rfl
  | succ k => show (if q p = true then _ else _) = _; rw [if_neg hq]
theorem run_ge (q : Nat → Bool) (tl p : Nat) : p ≤ run q tl p := by
  unfold run
  generalize tl - p = k
  induction k generalizing p with
  | zero => exact Nat.le_refl _
  | succ k ih =>
    show p ≤ (if q p = true then _ else _)
    split
    · exact Nat.le_trans (Nat.le_succ p) (ih (p + 1))
    · exact Nat.le_refl _
theorem run_le (q : Nat → Bool) {tl p : Nat} (h : p ≤ tl) : run q tl p ≤ tl := by
  unfold run
  generalize hk : tl - p = k
  induction k generalizing p with
  | zero => exact h
  | succ k ih =>
    show (if q p = true then _ else _) ≤ tl
    split
    · exact ih (by omega) (by omega)
    · exact h
def isDg (x : Nat) : Bool := decide (48 ≤ x ∧ x ≤ 57)
def skp (tl : Nat) (tx : Nat → Nat) (p : Nat) : Nat := run (fun i => tx i == 32) tl p
def dge (tl : Nat) (tx : Nat → Nat) (p : Nat) : Nat := run (fun i => isDg (tx i)) tl p
/-- a row of k digits, at most 256 -/
def capV (tx : Nat → Nat) (s : Nat) : Nat → Nat
  | 0 => 0
  | k + 1 => min (capV tx s k * 10 + (tx (s + k) - 48)) 256
theorem capV_le (tx : Nat → Nat) (s k : Nat) : capV tx s k ≤ 256 := by
  cases k with
  | zero => exact Nat.zero_le _
  | succ k => exact Nat.min_le_right _ _
def nOk (tx : Nat → Nat) (s e : Nat) : Bool := !((tx s == 48 && decide (1 < e - s)) || decide (255 < capV tx s (e - s)))
/-- the token at p: where it starts, what it is (258 the end, 256 a number, 257 a wrong one, else the letter), where it ends, its value -/
def tkS (tl : Nat) (tx : Nat → Nat) (p : Nat) : Nat := skp tl tx p
def tkD (tl : Nat) (tx : Nat → Nat) (p : Nat) : Prop := tkS tl tx p < tl ∧ isDg (tx (tkS tl tx p)) = true
def tkC (tl : Nat) (tx : Nat → Nat) (p : Nat) : Nat := if tl ≤ tkS tl tx p then 258 else if isDg (tx (tkS tl tx p)) = true then (if nOk tx (tkS tl tx p) (dge tl tx (tkS tl tx p)) = true then 256 else 257) else tx (tkS tl tx p)
def tkE (tl : Nat) (tx : Nat → Nat) (p : Nat) : Nat := if tl ≤ tkS tl tx p then tkS tl tx p else if isDg (tx (tkS tl tx p)) = true then dge tl tx (tkS tl tx p) else tkS tl tx p + 1
def tkV (tl : Nat) (tx : Nat → Nat) (p : Nat) : Nat := capV tx (tkS tl tx p) (dge tl tx (tkS tl tx p) - tkS tl tx p)
def tkW (tl : Nat) (tx : Nat → Nat) (p : Nat) (v : Int32) : Int32 := if tl ≤ tkS tl tx p then v else if isDg (tx (tkS tl tx p)) = true then nI (tkV tl tx p) else v
/-- the reader's own numbers: place, token, its place, value -/
def setR (M : HM) (pl tk tp v : Int32) : HM := fun z j => if z = 1 then (if j = 2 then pl else if j = 3 then tk else if j = 4 then tp else if j = 5 then v else M 1 j) else M z j
theorem setR_ne (M : HM) (pl tk tp v : Int32) {z : Nat} (h : z ≠ 1) : setR M pl tk tp v z = M z := by funext j; simp [setR, h]
theorem setR_setR (M : HM) (a b c e a2 b2 c2 e2 : Int32) : setR (setR M a b c e) a2 b2 c2 e2 = setR M a2 b2 c2 e2 := by
  funext z j; simp only [setR]; grind
def txM (M : HM) (tl : Nat) (tx : Nat → Nat) : Prop := tl ≤ 200 ∧ M 1 1 = nI tl ∧ ∀ i, i < tl → M 2 i = nI (tx i) ∧ tx i < 256
theorem txM.setR {M : HM} {tl : Nat} {tx : Nat → Nat} (h : txM M tl tx) (a b c e : Int32) : txM (setR M a b c e) tl tx := ⟨h.1, h.2.1, h.2.2⟩
set_option maxHeartbeats 2000000 in
set_option maxRecDepth 20000 in
theorem cX2isDigit  {x : Nat} (hx : x < 65536) : Ret Λ (d) mX2_isDigit [.int (nI x)] (n, M, Rf, Lg) (some (.int (bi (isDg x = true)))) (n, M, Rf, Lg) 0 0 := by
  refine Ret.of rfl rfl rfl (fun κ o f hin => ?_)
  refine g_iload_n (pc := 0) o 0 dX2_isDigit_0 rfl rfl ?_
  refine g_bipush (pc := 1) (v := 48) o dX2_isDigit_1 (by decide) ?_
  refine g_icmp_lt (pc := 3) o 16 dX2_isDigit_3 (by decide) (fun q3 => ?_) (fun q3 => ?_)
  · refine g_iconst (pc := 16) (v := 0) o dX2_isDigit_16 (by decide) ?_
    exact g_iret (pc := 17) o f dX2_isDigit_17 rfl (by first | exact (bi_t (by have g1 := mt (lt_N (b := 48) (by omega) (by decide) rfl rfl).mpr q3; have g2 := mt (lt_N (a := 57) (by decide) (by omega) rfl rfl).mpr q9; simp [isDg]; omega)).symm | exact (bi_f (by have g2 := (lt_N (a := 57) (by decide) (by omega) rfl rfl).mp q9; simp [isDg]; omega)).symm | exact (bi_f (by have g1 := (lt_N (b := 48) (by omega) (by decide) rfl rfl).mp q3; simp [isDg]; omega)).symm) rfl
  · refine g_iload_n (pc := 6) o 0 dX2_isDigit_6 rfl rfl ?_
    refine g_bipush (pc := 7) (v := 57) o dX2_isDigit_7 (by decide) ?_
    refine g_icmp_gt (pc := 9) o 16 dX2_isDigit_9 (by decide) (fun q9 => ?_) (fun q9 => ?_)
    · refine g_iconst (pc := 16) (v := 0) o dX2_isDigit_16 (by decide) ?_
      exact g_iret (pc := 17) o f dX2_isDigit_17 rfl (by first | exact (bi_t (by have g1 := mt (lt_N (b := 48) (by omega) (by decide) rfl rfl).mpr q3; have g2 := mt (lt_N (a := 57) (by decide) (by omega) rfl rfl).mpr q9; simp [isDg]; omega)).symm | exact (bi_f (by have g2 := (lt_N (a := 57) (by decide) (by omega) rfl rfl).mp q9; simp [isDg]; omega)).symm | exact (bi_f (by have g1 := (lt_N (b := 48) (by omega) (by decide) rfl rfl).mp q3; simp [isDg]; omega)).symm) rfl
    · refine g_iconst (pc := 12) (v := 1) o dX2_isDigit_12 (by decide) ?_
      refine g_goto (pc := 13) o 17 dX2_isDigit_13 (by decide) ?_
      exact g_iret (pc := 17) o f dX2_isDigit_17 rfl (by first | exact (bi_t (by have g1 := mt (lt_N (b := 48) (by omega) (by decide) rfl rfl).mpr q3; have g2 := mt (lt_N (a := 57) (by decide) (by omega) rfl rfl).mpr q9; simp [isDg]; omega)).symm | exact (bi_f (by have g2 := (lt_N (a := 57) (by decide) (by omega) rfl rfl).mp q9; simp [isDg]; omega)).symm | exact (bi_f (by have g1 := (lt_N (b := 48) (by omega) (by decide) rfl rfl).mp q3; simp [isDg]; omega)).symm) rfl

set_option maxHeartbeats 2000000 in
set_option maxRecDepth 20000 in
theorem cX2readNumber  (hn : 96 ≤ n) (xL : Rf 1 0 = some 2) {tl : Nat} {tx : Nat → Nat} (htx : txM M tl tx) {s : Nat} {tk0 : Int32} (hs : s < tl) (hdg : isDg (tx s) = true) (h2 : M 1 2 = nI s) (h3 : M 1 3 = tk0) (h4 : M 1 4 = nI s) : Ret Λ (d + 1) mX2_readNumber [.ref 1] (n, M, Rf, Lg) none (n, setR M (nI (dge tl tx s)) (if nOk tx s (dge tl tx s) = true then 256 else 257) (nI s) (nI (capV tx s (dge tl tx s - s))), Rf, Lg) 0 0 := by
  refine Ret.of rfl rfl rfl (fun κ o f hin => ?_)
  have loop : ∀ k c : Nat, dge tl tx s = dge tl tx (s + c) → s + c ≤ tl → tl < s + c + k → G (Λ, κ) 5 [some (.ref 1), none] [] (n, setR M (nI (s + c)) tk0 (nI s) (nI (capV tx s c)), Rf, Lg) 0 0 := by
    intro k
    induction k with
    | zero => intro c er h1 h2; exact absurd h2 (by omega)
    | succ k ih =>
      intro c er h1 h2
      have htl := htx.1
      have h1a : (setR M (nI (s + c)) tk0 (nI s) (nI (capV tx s c))) 1 1 = nI tl := htx.2.1
      have h1b : (setR M (nI (s + c)) tk0 (nI s) (nI (capV tx s c))) 1 2 = nI (s + c) := rfl
      have hcp := capV_le tx s c
      refine g_aload_n (pc := 5) o 0 dX2_readNumber_5 rfl rfl ?_
      refine g_getI (pc := 6) o flRX2_24 (by first | assumption | rfl) (by first | assumption | omega) dX2_readNumber_6 ?_
      refine g_aload_n (pc := 9) o 0 dX2_readNumber_9 rfl rfl ?_
      refine g_getI (pc := 10) o flRX2_73 (by first | assumption | rfl) (by first | assumption | omega) dX2_readNumber_10 ?_
      refine g_icmp_ge (pc := 13) o 74 dX2_readNumber_13 (by decide) (fun q13 => ?_) (fun q13 => ?_)
      · have hse : s + c = tl := by have := (le_N (by omega) (by omega) h1a h1b).mp q13; omega
        have ee : dge tl tx s = s + c := by rw [er]; exact run_end (by omega)
        have hs0 := htx.2.2 s hs
        have hc1 : 1 ≤ c := by
          cases c with
          | zero => exfalso; have : dge tl tx s = dge tl tx (s + 1) := run_go hs hdg
                    have := run_ge (fun i => isDg (tx i)) tl (s + 1); unfold dge at *; omega
          | succ c => omega
        refine g_aload_n (pc := 74) o 0 dX2_readNumber_74 rfl rfl ?_
        refine g_getR (pc := 75) o flRX2_9 (by first | assumption | rfl) (by first | assumption | omega) (by assumption) dX2_readNumber_75 ?_
        refine g_aload_n (pc := 78) o 0 dX2_readNumber_78 rfl rfl ?_
        refine g_getI (pc := 79) o flRX2_41 (by first | assumption | rfl) (by first | assumption | omega) dX2_readNumber_79 ?_
        refine g_cald (pc := 82) o (s) (by first | assumption | rfl) (by first | assumption | omega) rfl (by omega) dX2_readNumber_82 ?_
        rw [show (setR M (nI (s + c)) tk0 (nI s) (nI (capV tx s c))) 2 s = nI (tx s) from hs0.1]
        refine g_bipush (pc := 83) (v := 48) o dX2_readNumber_83 (by decide) ?_
        refine g_icmp_ne (pc := 85) o 105 dX2_readNumber_85 (by decide) (fun q85 => ?_) (fun q85 => ?_)
        · have g1 : ¬ tx s = 48 := mt (eq_N (b := 48) (by omega) (by decide) rfl rfl).mpr q85
          refine g_iconst (pc := 105) (v := 0) o dX2_readNumber_105 (by decide) ?_
          refine g_istore_n (pc := 106) o 1 dX2_readNumber_106 rfl rfl ?_
          refine g_aload_n (pc := 107) o 0 dX2_readNumber_107 rfl rfl ?_
          refine g_iload_n (pc := 108) o 1 dX2_readNumber_108 rfl rfl ?_
          refine g_if_ne (pc := 109) o 122 dX2_readNumber_109 (by decide) (fun q109 => ?_) (fun q109 => ?_)
          · exact absurd (by decide) q109
          · refine g_aload_n (pc := 112) o 0 dX2_readNumber_112 rfl rfl ?_
            refine g_getI (pc := 113) o flRX2_56 (by first | assumption | rfl) (by first | assumption | omega) dX2_readNumber_113 ?_
            rw [show (setR M (nI (s + c)) tk0 (nI s) (nI (capV tx s c))) 1 5 = nI (capV tx s c) from rfl]
            refine g_sipush (pc := 116) (v := 255) o dX2_readNumber_116 (by decide) ?_
            refine g_icmp_le (pc := 119) o 128 dX2_readNumber_119 (by decide) (fun q119 => ?_) (fun q119 => ?_)
            · have g3 : capV tx s c ≤ 255 := (le_N (b := 255) (by omega) (by decide) rfl rfl).mp q119
              refine g_sipush (pc := 128) (v := 256) o dX2_readNumber_128 (by decide) ?_
              refine g_putI (pc := 131) o flRX2_31 rfl (by first | assumption | rfl) (by first | assumption | omega) rfl rfl dX2_readNumber_131 ?_
              have ek : s + c - s = c := by omega
              have et : nOk tx s (s + c) = true := by unfold nOk; rw [ek]; simp [*]; try omega
              exact g_vret (pc := 134) o f dX2_readNumber_134 (hp_M (by rw [ee, et, ek]; funext z j; simp only [setR, st2]; grind))
            · have g3 : ¬ capV tx s c ≤ 255 := mt (le_N (b := 255) (by omega) (by decide) rfl rfl).mpr q119
              refine g_sipush (pc := 122) (v := 257) o dX2_readNumber_122 (by decide) ?_
              refine g_goto (pc := 125) o 131 dX2_readNumber_125 (by decide) ?_
              refine g_putI (pc := 131) o flRX2_31 rfl (by first | assumption | rfl) (by first | assumption | omega) rfl rfl dX2_readNumber_131 ?_
              have ek : s + c - s = c := by omega
              have et : nOk tx s (s + c) = false := by unfold nOk; rw [ek]; simp [*]; try omega
              exact g_vret (pc := 134) o f dX2_readNumber_134 (hp_M (by rw [ee, et, ek]; funext z j; simp only [setR, st2]; grind))
        · have g1 : tx s = 48 := (eq_N (b := 48) (by omega) (by decide) rfl rfl).mp q85
          refine g_aload_n (pc := 88) o 0 dX2_readNumber_88 rfl rfl ?_
          refine g_getI (pc := 89) o flRX2_24 (by first | assumption | rfl) (by first | assumption | omega) dX2_readNumber_89 ?_
          refine g_aload_n (pc := 92) o 0 dX2_readNumber_92 rfl rfl ?_
          refine g_getI (pc := 93) o flRX2_41 (by first | assumption | rfl) (by first | assumption | omega) dX2_readNumber_93 ?_
          refine g_isub (pc := 96) o dX2_readNumber_96 ?_
          rw [show (setR M (nI (s + c)) tk0 (nI s) (nI (capV tx s c))) 1 2 = nI (s + c) from rfl, show (setR M (nI (s + c)) tk0 (nI s) (nI (capV tx s c))) 1 4 = nI s from rfl]
          have h98 : nI (s + c) - nI s = nI c := by rw [pk_sub (by omega)]; congr 1; omega
          refine g_iconst (pc := 97) (v := 1) o dX2_readNumber_97 (by decide) ?_
          refine g_icmp_le (pc := 98) o 105 dX2_readNumber_98 (by decide) (fun q98 => ?_) (fun q98 => ?_)
          · have g2 : ¬ 1 < c := by have := (le_N (b := 1) (by omega) (by decide) h98 rfl).mp q98; omega
            refine g_iconst (pc := 105) (v := 0) o dX2_readNumber_105 (by decide) ?_
            refine g_istore_n (pc := 106) o 1 dX2_readNumber_106 rfl rfl ?_
            refine g_aload_n (pc := 107) o 0 dX2_readNumber_107 rfl rfl ?_
            refine g_iload_n (pc := 108) o 1 dX2_readNumber_108 rfl rfl ?_
            refine g_if_ne (pc := 109) o 122 dX2_readNumber_109 (by decide) (fun q109 => ?_) (fun q109 => ?_)
            · exact absurd (by decide) q109
            · refine g_aload_n (pc := 112) o 0 dX2_readNumber_112 rfl rfl ?_
              refine g_getI (pc := 113) o flRX2_56 (by first | assumption | rfl) (by first | assumption | omega) dX2_readNumber_113 ?_
              rw [show (setR M (nI (s + c)) tk0 (nI s) (nI (capV tx s c))) 1 5 = nI (capV tx s c) from rfl]
              refine g_sipush (pc := 116) (v := 255) o dX2_readNumber_116 (by decide) ?_
              refine g_icmp_le (pc := 119) o 128 dX2_readNumber_119 (by decide) (fun q119 => ?_) (fun q119 => ?_)
              · have g3 : capV tx s c ≤ 255 := (le_N (b := 255) (by omega) (by decide) rfl rfl).mp q119
                refine g_sipush (pc := 128) (v := 256) o dX2_readNumber_128 (by decide) ?_
                refine g_putI (pc := 131) o flRX2_31 rfl (by first | assumption | rfl) (by first | assumption | omega) rfl rfl dX2_readNumber_131 ?_
                have ek : s + c - s = c := by omega
                have et : nOk tx s (s + c) = true := by unfold nOk; rw [ek]; simp [*]; try omega
                exact g_vret (pc := 134) o f dX2_readNumber_134 (hp_M (by rw [ee, et, ek]; funext z j; simp only [setR, st2]; grind))
              · have g3 : ¬ capV tx s c ≤ 255 := mt (le_N (b := 255) (by omega) (by decide) rfl rfl).mpr q119
                refine g_sipush (pc := 122) (v := 257) o dX2_readNumber_122 (by decide) ?_
                refine g_goto (pc := 125) o 131 dX2_readNumber_125 (by decide) ?_
                refine g_putI (pc := 131) o flRX2_31 rfl (by first | assumption | rfl) (by first | assumption | omega) rfl rfl dX2_readNumber_131 ?_
                have ek : s + c - s = c := by omega
                have et : nOk tx s (s + c) = false := by unfold nOk; rw [ek]; simp [*]; try omega
                exact g_vret (pc := 134) o f dX2_readNumber_134 (hp_M (by rw [ee, et, ek]; funext z j; simp only [setR, st2]; grind))
          · have g2 : 1 < c := by have := mt (le_N (b := 1) (by omega) (by decide) h98 rfl).mpr q98; omega
            refine g_iconst (pc := 101) (v := 1) o dX2_readNumber_101 (by decide) ?_
            refine g_goto (pc := 102) o 106 dX2_readNumber_102 (by decide) ?_
            refine g_istore_n (pc := 106) o 1 dX2_readNumber_106 rfl rfl ?_
            refine g_aload_n (pc := 107) o 0 dX2_readNumber_107 rfl rfl ?_
            refine g_iload_n (pc := 108) o 1 dX2_readNumber_108 rfl rfl ?_
            refine g_if_ne (pc := 109) o 122 dX2_readNumber_109 (by decide) (fun q109 => ?_) (fun q109 => ?_)
            · refine g_sipush (pc := 122) (v := 257) o dX2_readNumber_122 (by decide) ?_
              refine g_goto (pc := 125) o 131 dX2_readNumber_125 (by decide) ?_
              refine g_putI (pc := 131) o flRX2_31 rfl (by first | assumption | rfl) (by first | assumption | omega) rfl rfl dX2_readNumber_131 ?_
              have ek : s + c - s = c := by omega
              have et : nOk tx s (s + c) = false := by unfold nOk; rw [ek]; simp [*]; try omega
              exact g_vret (pc := 134) o f dX2_readNumber_134 (hp_M (by rw [ee, et, ek]; funext z j; simp only [setR, st2]; grind))
            · exact absurd q109 (by decide)
      · have hse : s + c < tl := by have := mt (le_N (by omega) (by omega) h1a h1b).mpr q13; omega
        have hl := htx.2.2 (s + c) hse
        refine g_aload_n (pc := 16) o 0 dX2_readNumber_16 rfl rfl ?_
        refine g_getR (pc := 17) o flRX2_9 (by first | assumption | rfl) (by first | assumption | omega) (by assumption) dX2_readNumber_17 ?_
        refine g_aload_n (pc := 20) o 0 dX2_readNumber_20 rfl rfl ?_
        refine g_getI (pc := 21) o flRX2_24 (by first | assumption | rfl) (by first | assumption | omega) dX2_readNumber_21 ?_
        refine g_cald (pc := 24) o (s + c) (by first | assumption | rfl) (by first | assumption | omega) h1b (by omega) dX2_readNumber_24 ?_
        rw [show (setR M (nI (s + c)) tk0 (nI s) (nI (capV tx s c))) 2 (s + c) = nI (tx (s + c)) from hl.1]
        refine g_S1i (pc := 25) o lkRX2_76 cmX2_isDigit (cX2isDigit (x := tx (s + c)) (by omega)) rfl rfl ⟨Nat.le_refl _, Nat.le_refl _⟩ dX2_readNumber_25 ?_
        refine g_if_eq (pc := 28) o 74 dX2_readNumber_28 (by decide) (fun q28 => ?_) (fun q28 => ?_)
        · have hd := bi_z.mp q28
          have ee : dge tl tx s = s + c := by rw [er]; exact run_no hd
          have hs0 := htx.2.2 s hs
          have hc1 : 1 ≤ c := by
            cases c with
            | zero => exfalso; have : dge tl tx s = dge tl tx (s + 1) := run_go hs hdg
                      have := run_ge (fun i => isDg (tx i)) tl (s + 1); unfold dge at *; omega
            | succ c => omega
          refine g_aload_n (pc := 74) o 0 dX2_readNumber_74 rfl rfl ?_
          refine g_getR (pc := 75) o flRX2_9 (by first | assumption | rfl) (by first | assumption | omega) (by assumption) dX2_readNumber_75 ?_
          refine g_aload_n (pc := 78) o 0 dX2_readNumber_78 rfl rfl ?_
          refine g_getI (pc := 79) o flRX2_41 (by first | assumption | rfl) (by first | assumption | omega) dX2_readNumber_79 ?_
          refine g_cald (pc := 82) o (s) (by first | assumption | rfl) (by first | assumption | omega) rfl (by omega) dX2_readNumber_82 ?_
          rw [show (setR M (nI (s + c)) tk0 (nI s) (nI (capV tx s c))) 2 s = nI (tx s) from hs0.1]
          refine g_bipush (pc := 83) (v := 48) o dX2_readNumber_83 (by decide) ?_
          refine g_icmp_ne (pc := 85) o 105 dX2_readNumber_85 (by decide) (fun q85 => ?_) (fun q85 => ?_)
          · have g1 : ¬ tx s = 48 := mt (eq_N (b := 48) (by omega) (by decide) rfl rfl).mpr q85
            refine g_iconst (pc := 105) (v := 0) o dX2_readNumber_105 (by decide) ?_
            refine g_istore_n (pc := 106) o 1 dX2_readNumber_106 rfl rfl ?_
            refine g_aload_n (pc := 107) o 0 dX2_readNumber_107 rfl rfl ?_
            refine g_iload_n (pc := 108) o 1 dX2_readNumber_108 rfl rfl ?_
            refine g_if_ne (pc := 109) o 122 dX2_readNumber_109 (by decide) (fun q109 => ?_) (fun q109 => ?_)
            · exact absurd (by decide) q109
            · refine g_aload_n (pc := 112) o 0 dX2_readNumber_112 rfl rfl ?_
              refine g_getI (pc := 113) o flRX2_56 (by first | assumption | rfl) (by first | assumption | omega) dX2_readNumber_113 ?_
              rw [show (setR M (nI (s + c)) tk0 (nI s) (nI (capV tx s c))) 1 5 = nI (capV tx s c) from rfl]
              refine g_sipush (pc := 116) (v := 255) o dX2_readNumber_116 (by decide) ?_
              refine g_icmp_le (pc := 119) o 128 dX2_readNumber_119 (by decide) (fun q119 => ?_) (fun q119 => ?_)
              · have g3 : capV tx s c ≤ 255 := (le_N (b := 255) (by omega) (by decide) rfl rfl).mp q119
                refine g_sipush (pc := 128) (v := 256) o dX2_readNumber_128 (by decide) ?_
                refine g_putI (pc := 131) o flRX2_31 rfl (by first | assumption | rfl) (by first | assumption | omega) rfl rfl dX2_readNumber_131 ?_
                have ek : s + c - s = c := by omega
                have et : nOk tx s (s + c) = true := by unfold nOk; rw [ek]; simp [*]; try omega
                exact g_vret (pc := 134) o f dX2_readNumber_134 (hp_M (by rw [ee, et, ek]; funext z j; simp only [setR, st2]; grind))
              · have g3 : ¬ capV tx s c ≤ 255 := mt (le_N (b := 255) (by omega) (by decide) rfl rfl).mpr q119
                refine g_sipush (pc := 122) (v := 257) o dX2_readNumber_122 (by decide) ?_
                refine g_goto (pc := 125) o 131 dX2_readNumber_125 (by decide) ?_
                refine g_putI (pc := 131) o flRX2_31 rfl (by first | assumption | rfl) (by first | assumption | omega) rfl rfl dX2_readNumber_131 ?_
                have ek : s + c - s = c := by omega
                have et : nOk tx s (s + c) = false := by unfold nOk; rw [ek]; simp [*]; try omega
                exact g_vret (pc := 134) o f dX2_readNumber_134 (hp_M (by rw [ee, et, ek]; funext z j; simp only [setR, st2]; grind))
          · have g1 : tx s = 48 := (eq_N (b := 48) (by omega) (by decide) rfl rfl).mp q85
            refine g_aload_n (pc := 88) o 0 dX2_readNumber_88 rfl rfl ?_
            refine g_getI (pc := 89) o flRX2_24 (by first | assumption | rfl) (by first | assumption | omega) dX2_readNumber_89 ?_
            refine g_aload_n (pc := 92) o 0 dX2_readNumber_92 rfl rfl ?_
            refine g_getI (pc := 93) o flRX2_41 (by first | assumption | rfl) (by first | assumption | omega) dX2_readNumber_93 ?_
            refine g_isub (pc := 96) o dX2_readNumber_96 ?_
            rw [show (setR M (nI (s + c)) tk0 (nI s) (nI (capV tx s c))) 1 2 = nI (s + c) from rfl, show (setR M (nI (s + c)) tk0 (nI s) (nI (capV tx s c))) 1 4 = nI s from rfl]
            have h98 : nI (s + c) - nI s = nI c := by rw [pk_sub (by omega)]; congr 1; omega
            refine g_iconst (pc := 97) (v := 1) o dX2_readNumber_97 (by decide) ?_
            refine g_icmp_le (pc := 98) o 105 dX2_readNumber_98 (by decide) (fun q98 => ?_) (fun q98 => ?_)
            · have g2 : ¬ 1 < c := by have := (le_N (b := 1) (by omega) (by decide) h98 rfl).mp q98; omega
              refine g_iconst (pc := 105) (v := 0) o dX2_readNumber_105 (by decide) ?_
              refine g_istore_n (pc := 106) o 1 dX2_readNumber_106 rfl rfl ?_
              refine g_aload_n (pc := 107) o 0 dX2_readNumber_107 rfl rfl ?_
              refine g_iload_n (pc := 108) o 1 dX2_readNumber_108 rfl rfl ?_
              refine g_if_ne (pc := 109) o 122 dX2_readNumber_109 (by decide) (fun q109 => ?_) (fun q109 => ?_)
              · exact absurd (by decide) q109
              · refine g_aload_n (pc := 112) o 0 dX2_readNumber_112 rfl rfl ?_
                refine g_getI (pc := 113) o flRX2_56 (by first | assumption | rfl) (by first | assumption | omega) dX2_readNumber_113 ?_
                rw [show (setR M (nI (s + c)) tk0 (nI s) (nI (capV tx s c))) 1 5 = nI (capV tx s c) from rfl]
                refine g_sipush (pc := 116) (v := 255) o dX2_readNumber_116 (by decide) ?_
                refine g_icmp_le (pc := 119) o 128 dX2_readNumber_119 (by decide) (fun q119 => ?_) (fun q119 => ?_)
                · have g3 : capV tx s c ≤ 255 := (le_N (b := 255) (by omega) (by decide) rfl rfl).mp q119
                  refine g_sipush (pc := 128) (v := 256) o dX2_readNumber_128 (by decide) ?_
                  refine g_putI (pc := 131) o flRX2_31 rfl (by first | assumption | rfl) (by first | assumption | omega) rfl rfl dX2_readNumber_131 ?_
                  have ek : s + c - s = c := by omega
                  have et : nOk tx s (s + c) = true := by unfold nOk; rw [ek]; simp [*]; try omega
                  exact g_vret (pc := 134) o f dX2_readNumber_134 (hp_M (by rw [ee, et, ek]; funext z j; simp only [setR, st2]; grind))
                · have g3 : ¬ capV tx s c ≤ 255 := mt (le_N (b := 255) (by omega) (by decide) rfl rfl).mpr q119
                  refine g_sipush (pc := 122) (v := 257) o dX2_readNumber_122 (by decide) ?_
                  refine g_goto (pc := 125) o 131 dX2_readNumber_125 (by decide) ?_
                  refine g_putI (pc := 131) o flRX2_31 rfl (by first | assumption | rfl) (by first | assumption | omega) rfl rfl dX2_readNumber_131 ?_
                  have ek : s + c - s = c := by omega
                  have et : nOk tx s (s + c) = false := by unfold nOk; rw [ek]; simp [*]; try omega
                  exact g_vret (pc := 134) o f dX2_readNumber_134 (hp_M (by rw [ee, et, ek]; funext z j; simp only [setR, st2]; grind))
            · have g2 : 1 < c := by have := mt (le_N (b := 1) (by omega) (by decide) h98 rfl).mpr q98; omega
              refine g_iconst (pc := 101) (v := 1) o dX2_readNumber_101 (by decide) ?_
              refine g_goto (pc := 102) o 106 dX2_readNumber_102 (by decide) ?_
              refine g_istore_n (pc := 106) o 1 dX2_readNumber_106 rfl rfl ?_
              refine g_aload_n (pc := 107) o 0 dX2_readNumber_107 rfl rfl ?_
              refine g_iload_n (pc := 108) o 1 dX2_readNumber_108 rfl rfl ?_
              refine g_if_ne (pc := 109) o 122 dX2_readNumber_109 (by decide) (fun q109 => ?_) (fun q109 => ?_)
              · refine g_sipush (pc := 122) (v := 257) o dX2_readNumber_122 (by decide) ?_
                refine g_goto (pc := 125) o 131 dX2_readNumber_125 (by decide) ?_
                refine g_putI (pc := 131) o flRX2_31 rfl (by first | assumption | rfl) (by first | assumption | omega) rfl rfl dX2_readNumber_131 ?_
                have ek : s + c - s = c := by omega
                have et : nOk tx s (s + c) = false := by unfold nOk; rw [ek]; simp [*]; try omega
                exact g_vret (pc := 134) o f dX2_readNumber_134 (hp_M (by rw [ee, et, ek]; funext z j; simp only [setR, st2]; grind))
              · exact absurd q109 (by decide)
        · have hd := bi_nz.mp q28
          have hd2 : 48 ≤ tx (s + c) ∧ tx (s + c) ≤ 57 := by simpa [isDg] using hd
          refine g_aload_n (pc := 31) o 0 dX2_readNumber_31 rfl rfl ?_
          refine g_aload_n (pc := 32) o 0 dX2_readNumber_32 rfl rfl ?_
          refine g_getI (pc := 33) o flRX2_56 (by first | assumption | rfl) (by first | assumption | omega) dX2_readNumber_33 ?_
          refine g_bipush (pc := 36) (v := 10) o dX2_readNumber_36 (by decide) ?_
          refine g_imul (pc := 38) o dX2_readNumber_38 ?_
          refine g_aload_n (pc := 39) o 0 dX2_readNumber_39 rfl rfl ?_
          refine g_getR (pc := 40) o flRX2_9 (by first | assumption | rfl) (by first | assumption | omega) (by assumption) dX2_readNumber_40 ?_
          refine g_aload_n (pc := 43) o 0 dX2_readNumber_43 rfl rfl ?_
          refine g_getI (pc := 44) o flRX2_24 (by first | assumption | rfl) (by first | assumption | omega) dX2_readNumber_44 ?_
          refine g_cald (pc := 47) o (s + c) (by first | assumption | rfl) (by first | assumption | omega) h1b (by omega) dX2_readNumber_47 ?_
          rw [show (setR M (nI (s + c)) tk0 (nI s) (nI (capV tx s c))) 2 (s + c) = nI (tx (s + c)) from hl.1, show (setR M (nI (s + c)) tk0 (nI s) (nI (capV tx s c))) 1 5 = nI (capV tx s c) from rfl]
          refine g_iadd (pc := 48) o dX2_readNumber_48 ?_
          refine g_bipush (pc := 49) (v := 48) o dX2_readNumber_49 (by decide) ?_
          refine g_isub (pc := 51) o dX2_readNumber_51 ?_
          rw [show nI (capV tx s c) * 10 + nI (tx (s + c)) - 48 = nI (capV tx s c * 10 + (tx (s + c) - 48)) from by rw [show (10 : Int32) = nI 10 from rfl, show (48 : Int32) = nI 48 from rfl, pk_mul, nI_add, pk_sub (by omega)]; congr 1; omega]
          refine g_sipush (pc := 52) (v := 256) o dX2_readNumber_52 (by decide) ?_
          refine g_min (pc := 55) o lkRX2_83 rfl rfl ⟨Nat.le_refl _, Nat.le_refl _⟩ dX2_readNumber_55 ?_ st_min ini_math co_min
          rw [show (if (256 : Int32) < nI (capV tx s c * 10 + (tx (s + c) - 48)) then 256 else nI (capV tx s c * 10 + (tx (s + c) - 48))) = nI (capV tx s (c + 1)) from n_min (a := capV tx s c * 10 + (tx (s + c) - 48)) (b := 256) (by omega) (by decide)]
          refine g_putI (pc := 58) o flRX2_56 rfl (by first | assumption | rfl) (by first | assumption | omega) rfl rfl dX2_readNumber_58 ?_
          refine g_aload_n (pc := 61) o 0 dX2_readNumber_61 rfl rfl ?_
          refine g_dup (pc := 62) o dX2_readNumber_62 rfl ?_
          refine g_getI (pc := 63) o flRX2_24 (by first | assumption | rfl) (by first | assumption | omega) dX2_readNumber_63 ?_
          refine g_iconst (pc := 66) (v := 1) o dX2_readNumber_66 (by decide) ?_
          refine g_iadd (pc := 67) o dX2_readNumber_67 ?_
          refine g_putI (pc := 68) o flRX2_24 rfl (by first | assumption | rfl) (by first | assumption | omega) rfl rfl dX2_readNumber_68 ?_
          refine g_goto (pc := 71) o 5 dX2_readNumber_71 (by decide) ?_
          refine g_eq rfl rfl rfl (hp_M ?_) (ih (c + 1) (by rw [er]; exact run_go hse hd) (by omega) (by omega))
          have e9 : nI (s + c) + 1 = nI (s + (c + 1)) := nI_1 _
          funext z j; simp only [setR, st2]; grind
  refine g_aload_n (pc := 0) o 0 dX2_readNumber_0 rfl rfl ?_
  refine g_iconst (pc := 1) (v := 0) o dX2_readNumber_1 (by decide) ?_
  refine g_putI (pc := 2) o flRX2_56 rfl (by first | assumption | rfl) (by first | assumption | omega) rfl rfl dX2_readNumber_2 ?_
  refine g_eq rfl rfl rfl (hp_M ?_) (loop (tl + 1) 0 rfl (by omega) (by omega))
  have e0 : nI 0 = 0 := rfl
  funext z j; simp only [setR, st2, capV]; grind

set_option maxHeartbeats 2000000 in
set_option maxRecDepth 20000 in
theorem cX2nextToken  (hn : 96 ≤ n) (xL : Rf 1 0 = some 2) {tl : Nat} {tx : Nat → Nat} (htx : txM M tl tx) {p0 : Nat} {tk0 tp0 v0 : Int32} (hp : p0 ≤ tl) (h2 : M 1 2 = nI p0) (h3 : M 1 3 = tk0) (h4 : M 1 4 = tp0) (h5 : M 1 5 = v0) : Ret Λ (d + 2) mX2_nextToken [.ref 1] (n, M, Rf, Lg) none (n, setR M (nI (tkE tl tx p0)) (nI (tkC tl tx p0)) (nI (tkS tl tx p0)) (tkW tl tx p0 v0), Rf, Lg) 0 0 := by
  refine Ret.of rfl rfl rfl (fun κ o f hin => ?_)
  have htl := htx.1
  have loop : ∀ k p : Nat, tkS tl tx p0 = skp tl tx p → p ≤ tl → tl < p + k → G (Λ, κ) 0 [some (.ref 1), none] [] (n, setR M (nI p) tk0 tp0 v0, Rf, Lg) 0 0 := by
    intro k
    induction k with
    | zero => intro p er h1 h2; exact absurd h2 (by omega)
    | succ k ih =>
      intro p er h1 h2
      have h1a : (setR M (nI p) tk0 tp0 v0) 1 1 = nI tl := htx.2.1
      refine g_aload_n (pc := 0) o 0 dX2_nextToken_0 rfl rfl ?_
      refine g_getI (pc := 1) o flRX2_24 (by first | assumption | rfl) (by first | assumption | omega) dX2_nextToken_1 ?_
      refine g_aload_n (pc := 4) o 0 dX2_nextToken_4 rfl rfl ?_
      refine g_getI (pc := 5) o flRX2_73 (by first | assumption | rfl) (by first | assumption | omega) dX2_nextToken_5 ?_
      refine g_icmp_ge (pc := 8) o 38 dX2_nextToken_8 (by decide) (fun q8 => ?_) (fun q8 => ?_)
      · have hp1 : p = tl := by have := (le_N (by omega) (by omega) h1a rfl).mp q8; omega
        have es : tkS tl tx p0 = p := by rw [er]; exact run_end (by omega)
        refine g_aload_n (pc := 38) o 0 dX2_nextToken_38 rfl rfl ?_
        refine g_aload_n (pc := 39) o 0 dX2_nextToken_39 rfl rfl ?_
        refine g_getI (pc := 40) o flRX2_24 (by first | assumption | rfl) (by first | assumption | omega) dX2_nextToken_40 ?_
        rw [show (setR M (nI p) tk0 tp0 v0) 1 2 = nI p from rfl]
        refine g_putI (pc := 43) o flRX2_41 rfl (by first | assumption | rfl) (by first | assumption | omega) rfl rfl dX2_nextToken_43 ?_
        refine g_aload_n (pc := 46) o 0 dX2_nextToken_46 rfl rfl ?_
        refine g_getI (pc := 47) o flRX2_24 (by first | assumption | rfl) (by first | assumption | omega) dX2_nextToken_47 ?_
        refine g_aload_n (pc := 50) o 0 dX2_nextToken_50 rfl rfl ?_
        refine g_getI (pc := 51) o flRX2_73 (by first | assumption | rfl) (by first | assumption | omega) dX2_nextToken_51 ?_
        refine g_icmp_lt (pc := 54) o 65 dX2_nextToken_54 (by decide) (fun q54 => ?_) (fun q54 => ?_)
        · have hp2 : p < tl := by have := (lt_N (b := tl) (a := p) (by omega) (by omega) rfl h1a).mp q54; exact this
          have hl := htx.2.2 p hp2
          refine g_aload_n (pc := 65) o 0 dX2_nextToken_65 rfl rfl ?_
          refine g_getR (pc := 66) o flRX2_9 (by first | assumption | rfl) (by first | assumption | omega) (by assumption) dX2_nextToken_66 ?_
          refine g_aload_n (pc := 69) o 0 dX2_nextToken_69 rfl rfl ?_
          refine g_getI (pc := 70) o flRX2_24 (by first | assumption | rfl) (by first | assumption | omega) dX2_nextToken_70 ?_
          refine g_cald (pc := 73) o (p) (by first | assumption | rfl) (by first | assumption | omega) rfl (by omega) dX2_nextToken_73 ?_
          rw [show (st2 (setR M (nI p) tk0 tp0 v0) 1 4 (nI p)) 2 p = nI (tx p) from hl.1]
          refine g_istore_n (pc := 74) o 1 dX2_nextToken_74 rfl rfl ?_
          refine g_iload_n (pc := 75) o 1 dX2_nextToken_75 rfl rfl ?_
          refine g_S1i (pc := 76) o lkRX2_76 cmX2_isDigit (cX2isDigit (x := tx p) (by omega)) rfl rfl ⟨Nat.le_refl _, Nat.le_refl _⟩ dX2_nextToken_76 ?_
          refine g_if_eq (pc := 79) o 87 dX2_nextToken_79 (by decide) (fun q79 => ?_) (fun q79 => ?_)
          · have hd := bi_z.mp q79
            refine g_aload_n (pc := 87) o 0 dX2_nextToken_87 rfl rfl ?_
            refine g_dup (pc := 88) o dX2_nextToken_88 rfl ?_
            refine g_getI (pc := 89) o flRX2_24 (by first | assumption | rfl) (by first | assumption | omega) dX2_nextToken_89 ?_
            refine g_iconst (pc := 92) (v := 1) o dX2_nextToken_92 (by decide) ?_
            refine g_iadd (pc := 93) o dX2_nextToken_93 ?_
            refine g_putI (pc := 94) o flRX2_24 rfl (by first | assumption | rfl) (by first | assumption | omega) rfl rfl dX2_nextToken_94 ?_
            refine g_aload_n (pc := 97) o 0 dX2_nextToken_97 rfl rfl ?_
            refine g_iload_n (pc := 98) o 1 dX2_nextToken_98 rfl rfl ?_
            refine g_putI (pc := 99) o flRX2_31 rfl (by first | assumption | rfl) (by first | assumption | omega) rfl rfl dX2_nextToken_99 ?_
            have t1 : nI (tkE tl tx p0) = nI p + 1 := by unfold tkE; rw [es, if_neg (by omega), if_neg hd, nI_1]
            have t2 : tkC tl tx p0 = tx p := by unfold tkC; rw [es, if_neg (by omega), if_neg hd]
            have t3 : tkW tl tx p0 v0 = v0 := by unfold tkW; rw [es, if_neg (by omega), if_neg hd]
            exact g_vret (pc := 102) o f dX2_nextToken_102 (hp_M (by rw [es, t1, t2, t3]; funext z j; simp only [setR, st2]; grind))
          · have hd := bi_nz.mp q79
            refine g_aload_n (pc := 82) o 0 dX2_nextToken_82 rfl rfl ?_
            refine g_V0v (pc := 83) o lkRX2_80 cmX2_readNumber (cX2readNumber hn xL (tl := tl) (tx := tx) (M := st2 (setR M (nI p) tk0 tp0 v0) 1 4 (nI p)) (s := p) (tk0 := tk0) ⟨htx.1, htx.2.1, htx.2.2⟩ hp2 hd rfl rfl rfl) (by first | assumption | rfl) (by first | assumption | omega) rfl rfl ⟨Nat.le_refl _, Nat.le_refl _⟩ dX2_nextToken_83 ?_
            have t1 : tkE tl tx p0 = dge tl tx p := by unfold tkE; rw [es, if_neg (by omega), if_pos hd]
            have t2 : nI (tkC tl tx p0) = (if nOk tx p (dge tl tx p) = true then 256 else 257) := by unfold tkC; rw [es, if_neg (by omega), if_pos hd]; split <;> rfl
            have t3 : tkW tl tx p0 v0 = nI (capV tx p (dge tl tx p - p)) := by unfold tkW tkV; rw [es, if_neg (by omega), if_pos hd]
            exact g_vret (pc := 86) o f dX2_nextToken_86 (hp_M (by rw [es, t1, t2, t3]; funext z j; simp only [setR, st2]; grind))
        · have hp2 : ¬ p < tl := mt (lt_N (b := tl) (a := p) (by omega) (by omega) rfl h1a).mpr q54
          refine g_aload_n (pc := 57) o 0 dX2_nextToken_57 rfl rfl ?_
          refine g_sipush (pc := 58) (v := 258) o dX2_nextToken_58 (by decide) ?_
          refine g_putI (pc := 61) o flRX2_31 rfl (by first | assumption | rfl) (by first | assumption | omega) rfl rfl dX2_nextToken_61 ?_
          have t1 : tkE tl tx p0 = p := by unfold tkE; rw [es, if_pos (by omega)]
          have t2 : tkC tl tx p0 = 258 := by unfold tkC; rw [es, if_pos (by omega)]
          have t3 : tkW tl tx p0 v0 = v0 := by unfold tkW; rw [es, if_pos (by omega)]
          have t4 : nI 258 = 258 := rfl
          exact g_vret (pc := 64) o f dX2_nextToken_64 (hp_M (by rw [es, t1, t2, t3]; funext z j; simp only [setR, st2]; grind))
      · have hp1 : p < tl := by have := mt (le_N (by omega) (by omega) h1a rfl).mpr q8; omega
        have hl := htx.2.2 p hp1
        refine g_aload_n (pc := 11) o 0 dX2_nextToken_11 rfl rfl ?_
        refine g_getR (pc := 12) o flRX2_9 (by first | assumption | rfl) (by first | assumption | omega) (by assumption) dX2_nextToken_12 ?_
        refine g_aload_n (pc := 15) o 0 dX2_nextToken_15 rfl rfl ?_
        refine g_getI (pc := 16) o flRX2_24 (by first | assumption | rfl) (by first | assumption | omega) dX2_nextToken_16 ?_
        refine g_cald (pc := 19) o (p) (by first | assumption | rfl) (by first | assumption | omega) rfl (by omega) dX2_nextToken_19 ?_
        rw [show (setR M (nI p) tk0 tp0 v0) 2 p = nI (tx p) from hl.1]
        refine g_bipush (pc := 20) (v := 32) o dX2_nextToken_20 (by decide) ?_
        refine g_icmp_ne (pc := 22) o 38 dX2_nextToken_22 (by decide) (fun q22 => ?_) (fun q22 => ?_)
        · have g1 : ¬ tx p = 32 := mt (eq_N (b := 32) (by omega) (by decide) rfl rfl).mpr q22
          have es : tkS tl tx p0 = p := by rw [er]; exact run_no (by simpa using g1)
          refine g_aload_n (pc := 38) o 0 dX2_nextToken_38 rfl rfl ?_
          refine g_aload_n (pc := 39) o 0 dX2_nextToken_39 rfl rfl ?_
          refine g_getI (pc := 40) o flRX2_24 (by first | assumption | rfl) (by first | assumption | omega) dX2_nextToken_40 ?_
          rw [show (setR M (nI p) tk0 tp0 v0) 1 2 = nI p from rfl]
          refine g_putI (pc := 43) o flRX2_41 rfl (by first | assumption | rfl) (by first | assumption | omega) rfl rfl dX2_nextToken_43 ?_
          refine g_aload_n (pc := 46) o 0 dX2_nextToken_46 rfl rfl ?_
          refine g_getI (pc := 47) o flRX2_24 (by first | assumption | rfl) (by first | assumption | omega) dX2_nextToken_47 ?_
          refine g_aload_n (pc := 50) o 0 dX2_nextToken_50 rfl rfl ?_
          refine g_getI (pc := 51) o flRX2_73 (by first | assumption | rfl) (by first | assumption | omega) dX2_nextToken_51 ?_
          refine g_icmp_lt (pc := 54) o 65 dX2_nextToken_54 (by decide) (fun q54 => ?_) (fun q54 => ?_)
          · have hp2 : p < tl := by have := (lt_N (b := tl) (a := p) (by omega) (by omega) rfl h1a).mp q54; exact this
            have hl := htx.2.2 p hp2
            refine g_aload_n (pc := 65) o 0 dX2_nextToken_65 rfl rfl ?_
            refine g_getR (pc := 66) o flRX2_9 (by first | assumption | rfl) (by first | assumption | omega) (by assumption) dX2_nextToken_66 ?_
            refine g_aload_n (pc := 69) o 0 dX2_nextToken_69 rfl rfl ?_
            refine g_getI (pc := 70) o flRX2_24 (by first | assumption | rfl) (by first | assumption | omega) dX2_nextToken_70 ?_
            refine g_cald (pc := 73) o (p) (by first | assumption | rfl) (by first | assumption | omega) rfl (by omega) dX2_nextToken_73 ?_
            rw [show (st2 (setR M (nI p) tk0 tp0 v0) 1 4 (nI p)) 2 p = nI (tx p) from hl.1]
            refine g_istore_n (pc := 74) o 1 dX2_nextToken_74 rfl rfl ?_
            refine g_iload_n (pc := 75) o 1 dX2_nextToken_75 rfl rfl ?_
            refine g_S1i (pc := 76) o lkRX2_76 cmX2_isDigit (cX2isDigit (x := tx p) (by omega)) rfl rfl ⟨Nat.le_refl _, Nat.le_refl _⟩ dX2_nextToken_76 ?_
            refine g_if_eq (pc := 79) o 87 dX2_nextToken_79 (by decide) (fun q79 => ?_) (fun q79 => ?_)
            · have hd := bi_z.mp q79
              refine g_aload_n (pc := 87) o 0 dX2_nextToken_87 rfl rfl ?_
              refine g_dup (pc := 88) o dX2_nextToken_88 rfl ?_
              refine g_getI (pc := 89) o flRX2_24 (by first | assumption | rfl) (by first | assumption | omega) dX2_nextToken_89 ?_
              refine g_iconst (pc := 92) (v := 1) o dX2_nextToken_92 (by decide) ?_
              refine g_iadd (pc := 93) o dX2_nextToken_93 ?_
              refine g_putI (pc := 94) o flRX2_24 rfl (by first | assumption | rfl) (by first | assumption | omega) rfl rfl dX2_nextToken_94 ?_
              refine g_aload_n (pc := 97) o 0 dX2_nextToken_97 rfl rfl ?_
              refine g_iload_n (pc := 98) o 1 dX2_nextToken_98 rfl rfl ?_
              refine g_putI (pc := 99) o flRX2_31 rfl (by first | assumption | rfl) (by first | assumption | omega) rfl rfl dX2_nextToken_99 ?_
              have t1 : nI (tkE tl tx p0) = nI p + 1 := by unfold tkE; rw [es, if_neg (by omega), if_neg hd, nI_1]
              have t2 : tkC tl tx p0 = tx p := by unfold tkC; rw [es, if_neg (by omega), if_neg hd]
              have t3 : tkW tl tx p0 v0 = v0 := by unfold tkW; rw [es, if_neg (by omega), if_neg hd]
              exact g_vret (pc := 102) o f dX2_nextToken_102 (hp_M (by rw [es, t1, t2, t3]; funext z j; simp only [setR, st2]; grind))
            · have hd := bi_nz.mp q79
              refine g_aload_n (pc := 82) o 0 dX2_nextToken_82 rfl rfl ?_
              refine g_V0v (pc := 83) o lkRX2_80 cmX2_readNumber (cX2readNumber hn xL (tl := tl) (tx := tx) (M := st2 (setR M (nI p) tk0 tp0 v0) 1 4 (nI p)) (s := p) (tk0 := tk0) ⟨htx.1, htx.2.1, htx.2.2⟩ hp2 hd rfl rfl rfl) (by first | assumption | rfl) (by first | assumption | omega) rfl rfl ⟨Nat.le_refl _, Nat.le_refl _⟩ dX2_nextToken_83 ?_
              have t1 : tkE tl tx p0 = dge tl tx p := by unfold tkE; rw [es, if_neg (by omega), if_pos hd]
              have t2 : nI (tkC tl tx p0) = (if nOk tx p (dge tl tx p) = true then 256 else 257) := by unfold tkC; rw [es, if_neg (by omega), if_pos hd]; split <;> rfl
              have t3 : tkW tl tx p0 v0 = nI (capV tx p (dge tl tx p - p)) := by unfold tkW tkV; rw [es, if_neg (by omega), if_pos hd]
              exact g_vret (pc := 86) o f dX2_nextToken_86 (hp_M (by rw [es, t1, t2, t3]; funext z j; simp only [setR, st2]; grind))
          · have hp2 : ¬ p < tl := mt (lt_N (b := tl) (a := p) (by omega) (by omega) rfl h1a).mpr q54
            refine g_aload_n (pc := 57) o 0 dX2_nextToken_57 rfl rfl ?_
            refine g_sipush (pc := 58) (v := 258) o dX2_nextToken_58 (by decide) ?_
            refine g_putI (pc := 61) o flRX2_31 rfl (by first | assumption | rfl) (by first | assumption | omega) rfl rfl dX2_nextToken_61 ?_
            have t1 : tkE tl tx p0 = p := by unfold tkE; rw [es, if_pos (by omega)]
            have t2 : tkC tl tx p0 = 258 := by unfold tkC; rw [es, if_pos (by omega)]
            have t3 : tkW tl tx p0 v0 = v0 := by unfold tkW; rw [es, if_pos (by omega)]
            have t4 : nI 258 = 258 := rfl
            exact g_vret (pc := 64) o f dX2_nextToken_64 (hp_M (by rw [es, t1, t2, t3]; funext z j; simp only [setR, st2]; grind))
        · have g1 : tx p = 32 := (eq_N (b := 32) (by omega) (by decide) rfl rfl).mp q22
          refine g_aload_n (pc := 25) o 0 dX2_nextToken_25 rfl rfl ?_
          refine g_dup (pc := 26) o dX2_nextToken_26 rfl ?_
          refine g_getI (pc := 27) o flRX2_24 (by first | assumption | rfl) (by first | assumption | omega) dX2_nextToken_27 ?_
          refine g_iconst (pc := 30) (v := 1) o dX2_nextToken_30 (by decide) ?_
          refine g_iadd (pc := 31) o dX2_nextToken_31 ?_
          refine g_putI (pc := 32) o flRX2_24 rfl (by first | assumption | rfl) (by first | assumption | omega) rfl rfl dX2_nextToken_32 ?_
          refine g_goto (pc := 35) o 0 dX2_nextToken_35 (by decide) ?_
          refine g_eq rfl rfl rfl (hp_M ?_) (ih (p + 1) (by rw [er]; exact run_go hp1 (by simpa using g1)) (by omega) (by omega))
          have e9 : nI p + 1 = nI (p + 1) := nI_1 _
          funext z j; simp only [setR, st2]; grind
  refine g_eq rfl rfl rfl (hp_M ?_) (loop (tl + 1) p0 rfl (by omega) (by omega))
  funext z j; simp only [setR]; grind

set_option maxHeartbeats 2000000 in
set_option maxRecDepth 20000 in
theorem cX2isWithin  (hn : 96 ≤ n) {v a b : Nat} (hv : M 1 5 = nI v) (hv2 : v < 1000) (ha : a < 1000) (hb : b < 1000) : Ret Λ (d) mX2_isWithin [.ref 1, .int (nI a), .int (nI b)] (n, M, Rf, Lg) (some (.int (bi (a ≤ v ∧ v ≤ b)))) (n, M, Rf, Lg) 0 0 := by
  refine Ret.of rfl rfl rfl (fun κ o f hin => ?_)
  refine g_aload_n (pc := 0) o 0 dX2_isWithin_0 rfl rfl ?_
  refine g_getI (pc := 1) o flRX2_56 (by first | assumption | rfl) (by first | assumption | omega) dX2_isWithin_1 ?_
  refine g_iload_n (pc := 4) o 1 dX2_isWithin_4 rfl rfl ?_
  refine g_icmp_lt (pc := 5) o 20 dX2_isWithin_5 (by decide) (fun q5 => ?_) (fun q5 => ?_)
  · refine g_iconst (pc := 20) (v := 0) o dX2_isWithin_20 (by decide) ?_
    exact g_iret (pc := 21) o f dX2_isWithin_21 rfl (by first | exact (bi_t ⟨by have := mt (lt_N (by omega) (by omega) hv rfl).mpr q5; omega, by have := mt (lt_N (by omega) (by omega) rfl hv).mpr q13; omega⟩).symm | exact (bi_f (by have := (lt_N (by omega) (by omega) hv rfl).mp q5; omega)).symm | exact (bi_f (by have := (lt_N (by omega) (by omega) rfl hv).mp q13; omega)).symm) rfl
  · refine g_aload_n (pc := 8) o 0 dX2_isWithin_8 rfl rfl ?_
    refine g_getI (pc := 9) o flRX2_56 (by first | assumption | rfl) (by first | assumption | omega) dX2_isWithin_9 ?_
    refine g_iload_n (pc := 12) o 2 dX2_isWithin_12 rfl rfl ?_
    refine g_icmp_gt (pc := 13) o 20 dX2_isWithin_13 (by decide) (fun q13 => ?_) (fun q13 => ?_)
    · refine g_iconst (pc := 20) (v := 0) o dX2_isWithin_20 (by decide) ?_
      exact g_iret (pc := 21) o f dX2_isWithin_21 rfl (by first | exact (bi_t ⟨by have := mt (lt_N (by omega) (by omega) hv rfl).mpr q5; omega, by have := mt (lt_N (by omega) (by omega) rfl hv).mpr q13; omega⟩).symm | exact (bi_f (by have := (lt_N (by omega) (by omega) hv rfl).mp q5; omega)).symm | exact (bi_f (by have := (lt_N (by omega) (by omega) rfl hv).mp q13; omega)).symm) rfl
    · refine g_iconst (pc := 16) (v := 1) o dX2_isWithin_16 (by decide) ?_
      refine g_goto (pc := 17) o 21 dX2_isWithin_17 (by decide) ?_
      exact g_iret (pc := 21) o f dX2_isWithin_21 rfl (by first | exact (bi_t ⟨by have := mt (lt_N (by omega) (by omega) hv rfl).mpr q5; omega, by have := mt (lt_N (by omega) (by omega) rfl hv).mpr q13; omega⟩).symm | exact (bi_f (by have := (lt_N (by omega) (by omega) hv rfl).mp q5; omega)).symm | exact (bi_f (by have := (lt_N (by omega) (by omega) rfl hv).mp q13; omega)).symm) rfl

def hmN (L : Nat) : Nat := if L = 98 then 2 else if L = 99 then 4 else if L = 101 then 2 else if L = 110 then 3 else 1
set_option maxHeartbeats 2000000 in
set_option maxRecDepth 20000 in
theorem cX2howMany  {L : Nat} (hL : L < 1000) : Ret Λ (d) mX2_howManyNumbers [.int (nI L)] (n, M, Rf, Lg) (some (.int (nI (hmN L)))) (n, M, Rf, Lg) 0 0 := by
  refine Ret.of rfl rfl rfl (fun κ o f hin => ?_)
  refine g_iload_n (pc := 0) o 0 dX2_howManyNumbers_0 rfl rfl ?_
  by_cases e98 : L = 98
  · subst e98
    refine g_look (pc := 1) o 50 dX2_howManyNumbers_1 (by decide) rfl (by decide) ?_
    refine g_iconst (pc := 50) (v := 2) o dX2_howManyNumbers_50 (by decide) ?_
    exact g_iret (pc := 51) o f dX2_howManyNumbers_51 rfl rfl rfl
  · have n98 : ¬ nI L = 98 := mt (eq_N (b := 98) (by omega) (by decide) rfl rfl).mp e98
    by_cases e99 : L = 99
    · subst e99
      refine g_look (pc := 1) o 44 dX2_howManyNumbers_1 (by decide) rfl (by decide) ?_
      refine g_iconst (pc := 44) (v := 4) o dX2_howManyNumbers_44 (by decide) ?_
      exact g_iret (pc := 45) o f dX2_howManyNumbers_45 rfl rfl rfl
    · have n99 : ¬ nI L = 99 := mt (eq_N (b := 99) (by omega) (by decide) rfl rfl).mp e99
      by_cases e101 : L = 101
      · subst e101
        refine g_look (pc := 1) o 48 dX2_howManyNumbers_1 (by decide) rfl (by decide) ?_
        refine g_iconst (pc := 48) (v := 2) o dX2_howManyNumbers_48 (by decide) ?_
        exact g_iret (pc := 49) o f dX2_howManyNumbers_49 rfl rfl rfl
      · have n101 : ¬ nI L = 101 := mt (eq_N (b := 101) (by omega) (by decide) rfl rfl).mp e101
        by_cases e110 : L = 110
        · subst e110
          refine g_look (pc := 1) o 46 dX2_howManyNumbers_1 (by decide) rfl (by decide) ?_
          refine g_iconst (pc := 46) (v := 3) o dX2_howManyNumbers_46 (by decide) ?_
          exact g_iret (pc := 47) o f dX2_howManyNumbers_47 rfl rfl rfl
        · have n110 : ¬ nI L = 110 := mt (eq_N (b := 110) (by omega) (by decide) rfl rfl).mp e110
          refine g_look (pc := 1) (off := 51) o 52 dX2_howManyNumbers_1 (by decide) (by rw [show (#[((98 : Int), (49 : Int)), (99, 43), (101, 47), (110, 45)] : Array (Int × Int)).toList = [(98, 49), (99, 43), (101, 47), (110, 45)] from rfl, lv_osw (a := 98) n98 (by decide), lv_osw (a := 99) n99 (by decide), lv_osw (a := 101) n101 (by decide), lv_osw (a := 110) n110 (by decide)]; rfl) (by decide) ?_
          refine g_iconst (pc := 52) (v := 1) o dX2_howManyNumbers_52 (by decide) ?_
          exact g_iret (pc := 53) o f dX2_howManyNumbers_53 rfl (by unfold hmN; rw [if_neg e98, if_neg e99, if_neg e101, if_neg e110]; rfl) rfl

/-- what may stand for a citizen at its k-th place -/
def chC (k v : Nat) : Bool := if k = 1 then decide (0 ≤ v ∧ v ≤ 20) else if k = 2 then decide (0 ≤ v ∧ v ≤ 255) else decide (1 ≤ v ∧ v ≤ 9)
set_option maxHeartbeats 2000000 in
set_option maxRecDepth 20000 in
theorem cX2standC  (hn : 96 ≤ n) {v k : Nat} (hv : M 1 5 = nI v) (hv2 : v < 1000) (hk : k < 1000) : Ret Λ (d + 1) mX2_mayStandForCitizen [.ref 1, .int (nI k)] (n, M, Rf, Lg) (some (.int (bi (chC k v = true)))) (n, M, Rf, Lg) 0 0 := by
  refine Ret.of rfl rfl rfl (fun κ o f hin => ?_)
  refine g_iload_n (pc := 0) o 1 dX2_mayStandForCitizen_0 rfl rfl ?_
  by_cases e1 : k = 1
  · subst e1
    refine g_look (pc := 1) o 28 dX2_mayStandForCitizen_1 (by decide) rfl (by decide) ?_
    refine g_aload_n (pc := 28) o 0 dX2_mayStandForCitizen_28 rfl rfl ?_
    refine g_iconst (pc := 29) (v := 0) o dX2_mayStandForCitizen_29 (by decide) ?_
    refine g_bipush (pc := 30) (v := 20) o dX2_mayStandForCitizen_30 (by decide) ?_
    refine g_V2i (pc := 32) o lkRX2_63 cmX2_isWithin (cX2isWithin hn hv hv2 (a := 0) (b := 20) (by decide) (by decide)) (by first | assumption | rfl) (by first | assumption | omega) rfl rfl ⟨Nat.le_refl _, Nat.le_refl _⟩ dX2_mayStandForCitizen_32 ?_
    exact g_iret (pc := 35) o f dX2_mayStandForCitizen_35 bi_nar (by unfold chC; simp) rfl
  · have n1 : ¬ nI k = 1 := mt (eq_N (b := 1) (by omega) (by decide) rfl rfl).mp e1
    by_cases e2 : k = 2
    · subst e2
      refine g_look (pc := 1) o 36 dX2_mayStandForCitizen_1 (by decide) rfl (by decide) ?_
      refine g_aload_n (pc := 36) o 0 dX2_mayStandForCitizen_36 rfl rfl ?_
      refine g_iconst (pc := 37) (v := 0) o dX2_mayStandForCitizen_37 (by decide) ?_
      refine g_sipush (pc := 38) (v := 255) o dX2_mayStandForCitizen_38 (by decide) ?_
      refine g_V2i (pc := 41) o lkRX2_63 cmX2_isWithin (cX2isWithin hn hv hv2 (a := 0) (b := 255) (by decide) (by decide)) (by first | assumption | rfl) (by first | assumption | omega) rfl rfl ⟨Nat.le_refl _, Nat.le_refl _⟩ dX2_mayStandForCitizen_41 ?_
      exact g_iret (pc := 44) o f dX2_mayStandForCitizen_44 bi_nar (by unfold chC; simp) rfl
    · have n2 : ¬ nI k = 2 := mt (eq_N (b := 2) (by omega) (by decide) rfl rfl).mp e2
      refine g_look (pc := 1) (off := 44) o 45 dX2_mayStandForCitizen_1 (by decide) (by rw [show (#[((1 : Int), (27 : Int)), (2, 35)] : Array (Int × Int)).toList = [(1, 27), (2, 35)] from rfl, lv_osw (a := 1) n1 (by decide), lv_osw (a := 2) n2 (by decide)]; rfl) (by decide) ?_
      refine g_aload_n (pc := 45) o 0 dX2_mayStandForCitizen_45 rfl rfl ?_
      refine g_iconst (pc := 46) (v := 1) o dX2_mayStandForCitizen_46 (by decide) ?_
      refine g_bipush (pc := 47) (v := 9) o dX2_mayStandForCitizen_47 (by decide) ?_
      refine g_V2i (pc := 49) o lkRX2_63 cmX2_isWithin (cX2isWithin hn hv hv2 (a := 1) (b := 9) (by decide) (by decide)) (by first | assumption | rfl) (by first | assumption | omega) rfl rfl ⟨Nat.le_refl _, Nat.le_refl _⟩ dX2_mayStandForCitizen_49 ?_
      exact g_iret (pc := 52) o f dX2_mayStandForCitizen_52 bi_nar (by unfold chC; simp [e1, e2]) rfl

end M12
