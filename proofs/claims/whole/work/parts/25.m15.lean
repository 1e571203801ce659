section M15
variable {Λ : PL} {d n : Nat} {M : HM} {Rf : HR} {Lg : HL}

/-- the numbers of an item: the place of a fault, or the numbers and the place behind -/
def prN (tl : Nat) (tx : Nat → Nat) (T : Nat → Nat) (L : Nat) : Nat → Nat → Nat → (Nat → Nat) → Nat ⊕ ((Nat → Nat) × Nat)
  | 0, _, p, acc => .inr (acc, p)
  | m + 1, k, p, acc => if tkC tl tx p = 256 ∧ chk T L k (acc 0) (tkV tl tx p) = true then prN tl tx T L m (k + 1) (tkE tl tx p) (upN acc k (tkV tl tx p)) else .inl (tkS tl tx p)
def itmB (tl : Nat) (tx : Nat → Nat) (T : Nat → Nat) (L : Nat) (o : Nat ⊕ ((Nat → Nat) × Nat)) : Nat ⊕ ((Nat → Nat) × Nat) := match o with
  | .inl f => .inl f
  | .inr (acc, q) => if tkC tl tx q = 59 then .inr (tel T L (acc 0) (acc 1) (acc 2) (acc 3), tkE tl tx q) else .inl (tkS tl tx q)
/-- an item: the place of a fault, or the city and the place behind -/
def itm (tl : Nat) (tx : Nat → Nat) (T : Nat → Nat) (p : Nat) : Nat ⊕ ((Nat → Nat) × Nat) := if may T (tkC tl tx p) = true then itmB tl tx T (tkC tl tx p) (prN tl tx T (tkC tl tx p) (hmN (tkC tl tx p)) 0 (tkE tl tx p) (fun _ => 0)) else .inl (tkS tl tx p)
def rdT (tl : Nat) (tx : Nat → Nat) : Nat → (Nat → Nat) → Nat → Nat ⊕ (Nat → Nat)
  | 0, _, _ => .inl 0
  | f + 1, T, p => if tkC tl tx p = 258 then .inr T else match itm tl tx T p with
    | .inl e => .inl e
    | .inr (T', q) => rdT tl tx f T' q
theorem tkS_ge (tl : Nat) (tx : Nat → Nat) (p : Nat) : p ≤ tkS tl tx p := run_ge _ _ _
theorem tkS_le {tl : Nat} (tx : Nat → Nat) {p : Nat} (h : p ≤ tl) : tkS tl tx p ≤ tl := run_le _ h
theorem tkE_le {tl : Nat} (tx : Nat → Nat) {p : Nat} (h : p ≤ tl) : tkE tl tx p ≤ tl := by
  have h1 := tkS_le tx h
  unfold tkE
  split
  · exact h1
  · split
    · exact run_le _ h1
    · omega
theorem tkE_ge (tl : Nat) (tx : Nat → Nat) (p : Nat) : tkS tl tx p ≤ tkE tl tx p := by
  unfold tkE
  split
  · exact Nat.le_refl _
  · split
    · exact run_ge _ _ _
    · omega
theorem tkE_gt {tl : Nat} {tx : Nat → Nat} {p : Nat} (h : ¬ tkC tl tx p = 258) : p < tkE tl tx p := by
  have h1 := tkS_ge tl tx p
  unfold tkC at h
  unfold tkE
  split
  · rename_i g; rw [if_pos g] at h; exact absurd rfl h
  · rename_i g
    split
    · rename_i g2
      have : dge tl tx (tkS tl tx p) = dge tl tx (tkS tl tx p + 1) := run_go (by omega) g2
      have h3 : tkS tl tx p + 1 ≤ dge tl tx (tkS tl tx p + 1) := run_ge _ _ _
      omega
    · omega
theorem tkC_lt {tl : Nat} {tx : Nat → Nat} {p : Nat} (hx : ∀ i, i < tl → tx i < 256) : tkC tl tx p ≤ 258 := by
  unfold tkC
  split
  · exact Nat.le_refl _
  · rename_i g
    split
    · split <;> omega
    · have := hx _ (Nat.not_le.mp g); omega
theorem tk_num {tl : Nat} {tx : Nat → Nat} {p : Nat} (hx : ∀ i, i < tl → tx i < 256) (h : tkC tl tx p = 256) (v : Int32) : tkW tl tx p v = nI (tkV tl tx p) ∧ tkV tl tx p ≤ 255 := by
  unfold tkC at h
  unfold tkW
  by_cases g : tl ≤ tkS tl tx p
  · rw [if_pos g] at h; omega
  · rw [if_neg g] at h ⊢
    by_cases g2 : isDg (tx (tkS tl tx p)) = true
    · rw [if_pos g2] at h ⊢
      refine ⟨rfl, ?_⟩
      by_cases g3 : nOk tx (tkS tl tx p) (dge tl tx (tkS tl tx p)) = true
      · unfold nOk at g3
        simp at g3
        have := g3.2
        unfold tkV
        omega
      · rw [if_neg g3] at h; omega
    · rw [if_neg g2] at h
      have := hx _ (Nat.not_le.mp g); omega
theorem prN_ok {tl : Nat} {tx : Nat → Nat} {T : Nat → Nat} {L : Nat} (hx : ∀ i, i < tl → tx i < 256) : ∀ (m k p : Nat) (acc acc' : Nat → Nat) (q : Nat), p ≤ tl → (∀ j, j < k → chk T L j (acc 0) (acc j) = true ∧ acc j ≤ 255) → prN tl tx T L m k p acc = .inr (acc', q) → (∀ j, j < k + m → chk T L j (acc' 0) (acc' j) = true ∧ acc' j ≤ 255) ∧ p ≤ q ∧ q ≤ tl := by
  intro m
  induction m with
  | zero =>
    intro k p acc acc' q hp ha h
    simp only [prN, Sum.inr.injEq, Prod.mk.injEq] at h
    obtain ⟨rfl, rfl⟩ := h
    exact ⟨ha, Nat.le_refl _, hp⟩
  | succ m ih =>
    intro k p acc acc' q hp ha h
    simp only [prN] at h
    split at h
    · rename_i g
      have hv := (tk_num hx g.1 0).2
      have h1 : ∀ j, j < k + 1 → chk T L j (upN acc k (tkV tl tx p) 0) (upN acc k (tkV tl tx p) j) = true ∧ upN acc k (tkV tl tx p) j ≤ 255 := by
        intro j hj
        by_cases e : j = k
        · subst e
          rw [upN_s]
          refine ⟨?_, hv⟩
          by_cases j0 : j = 0
          · subst j0
            rw [upN_s]
            have := g.2
            unfold chk at this ⊢
            simpa using this
          · rw [upN_n _ _ (by omega)]; exact g.2
        · rw [upN_n _ _ e]
          have g5 := ha j (by omega)
          by_cases k0 : k = 0
          · omega
          · rw [upN_n _ _ (by omega)]; exact g5
      obtain ⟨i1, i2, i3⟩ := ih (k + 1) (tkE tl tx p) _ acc' q (tkE_le tx hp) h1 h
      refine ⟨fun j hj => i1 j (by omega), ?_, i3⟩
      have := tkS_ge tl tx p
      have := tkE_ge tl tx p
      omega
    · cases h
def okP (T : Nat → Nat) : Prop := T 5 ≤ 1 ∧ (T 4 = 0 → T 2 = 0 ∧ T 3 = 0)
theorem may_L {T : Nat → Nat} {L : Nat} (h : may T L = true) : L = 98 ∨ L = 99 ∨ L = 100 ∨ L = 101 ∨ L = 110 ∨ L = 113 := by
  unfold may at h
  by_cases h1 : L = 99
  · omega
  · rw [if_neg h1] at h
    by_cases h2 : L = 100
    · omega
    · rw [if_neg h2] at h
      by_cases h3 : L = 110
      · omega
      · rw [if_neg h3] at h
        by_cases h4 : L = 113
        · omega
        · rw [if_neg h4] at h
          have := of_decide_eq_true h
          omega
theorem or4 {a b : Nat} (h : a < 16) (hb : b < 4) : a ||| 2 ^ b < 16 := Nat.or_lt_two_pow (n := 4) h (Nat.pow_lt_pow_right (by decide) hb)
theorem tel_ok {T : Nat → Nat} {L n0 n1 n2 n3 : Nat} (ht : okT T) (hp : okP T) (hm : may T L = true) (h0 : chk T L 0 n0 n0 = true) (h1 : 1 < hmN L → chk T L 1 n0 n1 = true) (h2 : 2 < hmN L → chk T L 2 n0 n2 = true) (h3 : 3 < hmN L → chk T L 3 n0 n3 = true) : okT (tel T L n0 n1 n2 n3) ∧ okP (tel T L n0 n1 n2 n3) := by
  obtain ⟨⟨t0, t0b⟩, t1, t2, t3, tD, tC, tN⟩ := ht
  obtain ⟨p5, p4⟩ := hp
  rcases may_L hm with rfl | rfl | rfl | rfl | rfl | rfl
  · -- b
    have c0 : n0 ≤ T 0 - 1 := by simpa [chk] using h0
    have c1 : n1 ≤ 6 := by simpa [chk] using h1 (by decide)
    have e : ∀ k, tel T 98 n0 n1 n2 n3 k = if k = 4 then T 4 + 1 else if k = 10 + n0 then n1 else T k := fun k => rfl
    refine ⟨⟨by rw [e 0, if_neg (by omega), if_neg (by omega)]; exact ⟨t0, t0b⟩, by rw [e 1, if_neg (by omega), if_neg (by omega)]; exact t1, by rw [e 2, if_neg (by omega), if_neg (by omega)]; exact t2, by rw [e 3, if_neg (by omega), if_neg (by omega)]; exact t3, fun d hd => ⟨?_, ?_⟩, fun i hi => ?_, fun i hi => ?_⟩, ?_, ?_⟩
    · rw [e, if_neg (by omega), if_neg (by omega)]; exact (tD d hd).1
    · rw [e, if_neg (by omega)]; split
      · exact c1
      · exact (tD d hd).2
    · rw [e 2, if_neg (by omega), if_neg (by omega)] at hi
      rw [e 0, if_neg (by omega), if_neg (by omega), e (14 + i), if_neg (by omega), if_neg (by omega), e (20 + i), if_neg (by omega), if_neg (by omega), e (26 + i), if_neg (by omega), if_neg (by omega), e (32 + i), if_neg (by omega), if_neg (by omega)]
      exact tC i hi
    · rw [e 3, if_neg (by omega), if_neg (by omega)] at hi
      rw [e 0, if_neg (by omega), if_neg (by omega), e (38 + i), if_neg (by omega), if_neg (by omega), e (44 + i), if_neg (by omega), if_neg (by omega), e (50 + i), if_neg (by omega), if_neg (by omega)]
      exact tN i hi
    · rw [e 5, if_neg (by omega), if_neg (by omega)]; exact p5
    · rw [e 4, if_pos rfl]; omega
  · -- c
    have c0 : n0 ≤ T 0 - 1 := by simpa [chk] using h0
    have c1 : n1 ≤ 20 := by simpa [chk, chC] using h1 (by decide)
    have c2 : n2 ≤ 255 := by simpa [chk, chC] using h2 (by decide)
    have c3 : 1 ≤ n3 ∧ n3 ≤ 9 := by simpa [chk, chC] using h3 (by decide)
    have g2 : T 2 < 6 := by simpa [may] using hm
    have e : ∀ k, tel T 99 n0 n1 n2 n3 k = if k = 4 then T 4 + 1 else if k = 2 then T 2 + 1 else if k = 32 + T 2 then n3 else if k = 26 + T 2 then n2 else if k = 20 + T 2 then n1 else if k = 14 + T 2 then n0 else T k := fun k => rfl
    refine ⟨⟨?_, ?_, ?_, ?_, fun d hd => ?_, fun i hi => ?_, fun i hi => ?_⟩, ?_, ?_⟩
    · rw [e 0]; grind
    · rw [e 1]; grind
    · rw [e 2]; grind
    · rw [e 3]; grind
    · have := tD d hd; rw [e, e]; grind
    · rw [e 2] at hi
      have hi2 : i < T 2 + 1 := by simpa using hi
      rw [e 0, e (14 + i), e (20 + i), e (26 + i), e (32 + i)]
      by_cases q : i = T 2
      · subst q; grind
      · have := tC i (by omega); grind
    · rw [e 3] at hi
      have hi2 : i < T 3 := by grind
      have := tN i hi2
      rw [e 0, e (38 + i), e (44 + i), e (50 + i)]; grind
    · rw [e 5]; grind
    · rw [e 4]; grind
  · -- d
    have c0 : 1 ≤ n0 ∧ n0 ≤ 4 := by simpa [chk] using h0
    have g4 : T 4 = 0 := by simpa [may] using hm
    have g5 := p4 g4
    have e : ∀ k, tel T 100 n0 n1 n2 n3 k = if k = 4 then T 4 + 1 else if k = 0 then n0 else T k := fun k => rfl
    refine ⟨⟨?_, ?_, ?_, ?_, fun d hd => ?_, fun i hi => ?_, fun i hi => ?_⟩, ?_, ?_⟩
    · rw [e 0]; grind
    · rw [e 1]; grind
    · rw [e 2]; grind
    · rw [e 3]; grind
    · have := tD d hd; rw [e, e]; grind
    · rw [e 2] at hi; grind
    · rw [e 3] at hi; grind
    · rw [e 5]; grind
    · rw [e 4]; grind
  · -- e
    have c0 : n0 ≤ T 0 - 1 := by simpa [chk] using h0
    have c1 : n1 ≤ T 0 - 1 ∧ ¬ n1 = n0 := by simpa [chk] using h1 (by decide)
    have e : ∀ k, tel T 101 n0 n1 n2 n3 k = if k = 4 then T 4 + 1 else if k = 6 + n1 then ((if 6 + n1 = 6 + n0 then T (6 + n0) ||| 2 ^ n1 else T (6 + n1)) ||| 2 ^ n0) else if k = 6 + n0 then T (6 + n0) ||| 2 ^ n1 else T k := fun k => rfl
    have d0 := tD n0 (by omega)
    have d1 := tD n1 (by omega)
    have o1 := or4 d0.1 (b := n1) (by omega)
    have o2 := or4 d1.1 (b := n0) (by omega)
    refine ⟨⟨?_, ?_, ?_, ?_, fun d hd => ?_, fun i hi => ?_, fun i hi => ?_⟩, ?_, ?_⟩
    · rw [e 0]; grind
    · rw [e 1]; grind
    · rw [e 2]; grind
    · rw [e 3]; grind
    · have := tD d hd; rw [e, e, if_neg (show ¬ 6 + n1 = 6 + n0 by omega)]; grind
    · rw [e 2] at hi
      have hi2 : i < T 2 := by grind
      have := tC i hi2
      rw [e 0, e (14 + i), e (20 + i), e (26 + i), e (32 + i)]; grind
    · rw [e 3] at hi
      have hi2 : i < T 3 := by grind
      have := tN i hi2
      rw [e 0, e (38 + i), e (44 + i), e (50 + i)]; grind
    · rw [e 5]; grind
    · rw [e 4]; grind
  · -- n
    have c0 : n0 ≤ T 0 - 1 := by simpa [chk] using h0
    have c1 : n1 ≤ 7 := by simpa [chk] using h1 (by decide)
    have c2 : 1 ≤ n2 ∧ n2 ≤ 9 := by simpa [chk] using h2 (by decide)
    have g3 : T 3 < 6 := by simpa [may] using hm
    have e : ∀ k, tel T 110 n0 n1 n2 n3 k = if k = 4 then T 4 + 1 else if k = 3 then T 3 + 1 else if k = 50 + T 3 then n2 else if k = 44 + T 3 then n1 else if k = 38 + T 3 then n0 else T k := fun k => rfl
    refine ⟨⟨?_, ?_, ?_, ?_, fun d hd => ?_, fun i hi => ?_, fun i hi => ?_⟩, ?_, ?_⟩
    · rw [e 0]; grind
    · rw [e 1]; grind
    · rw [e 2]; grind
    · rw [e 3]; grind
    · have := tD d hd; rw [e, e]; grind
    · rw [e 2] at hi
      have hi2 : i < T 2 := by grind
      have := tC i hi2
      rw [e 0, e (14 + i), e (20 + i), e (26 + i), e (32 + i)]; grind
    · rw [e 3] at hi
      have hi2 : i < T 3 + 1 := by simpa using hi
      rw [e 0, e (38 + i), e (44 + i), e (50 + i)]
      by_cases q : i = T 3
      · subst q; grind
      · have := tN i (by omega); grind
    · rw [e 5]; grind
    · rw [e 4]; grind
  · -- q
    have c0 : n0 ≤ 6 := by simpa [chk] using h0
    have e : ∀ k, tel T 113 n0 n1 n2 n3 k = if k = 4 then T 4 + 1 else if k = 5 then 1 else if k = 1 then n0 else T k := fun k => rfl
    refine ⟨⟨?_, ?_, ?_, ?_, fun d hd => ?_, fun i hi => ?_, fun i hi => ?_⟩, ?_, ?_⟩
    · rw [e 0]; grind
    · rw [e 1]; grind
    · rw [e 2]; grind
    · rw [e 3]; grind
    · have := tD d hd; rw [e, e]; grind
    · rw [e 2] at hi
      have hi2 : i < T 2 := by grind
      have := tC i hi2
      rw [e 0, e (14 + i), e (20 + i), e (26 + i), e (32 + i)]; grind
    · rw [e 3] at hi
      have hi2 : i < T 3 := by grind
      have := tN i hi2
      rw [e 0, e (38 + i), e (44 + i), e (50 + i)]; grind
    · rw [e 5]; grind
    · rw [e 4]; grind
end M15
