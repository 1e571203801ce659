section M37
theorem rst_lt {T : Nat → Nat} {h i : Nat} (q : (rst T h).testBit i = true) : i < T 2 ∧ (T (26 + i)).testBit h = false ∧ wkP T (nsO T h) i (T 3) = false := by
  unfold rst at q
  rw [dif_bit] at q
  unfold idl wkA at q
  rw [mk_bit, mk_bit] at q
  by_cases a : i < T 2
  · simp [a] at q; exact ⟨a, q.1, q.2⟩
  · simp [a] at q
theorem rst_of {T : Nat → Nat} {h i : Nat} (a : i < T 2) (b : (T (26 + i)).testBit h = false) (c : wkP T (nsO T h) i (T 3) = false) : (rst T h).testBit i = true := by
  unfold rst
  rw [dif_bit]
  unfold idl wkA
  rw [mk_bit, mk_bit]
  simp [a, b, c]
theorem lt_of_bits {c N : Nat} (h : ∀ i, c.testBit i = true → i < N) : c < 2 ^ N := by
  by_cases q : c < 2 ^ N
  · exact q
  · obtain ⟨i, h1, h2⟩ := Nat.exists_ge_and_testBit_of_ge_two_pow (Nat.le_of_not_lt q)
    have := h i h2
    omega
theorem ex_cu {T S0 : Nat → Nat} (ht : okT T) (dl : Nat) : ∀ m h (tr : Nat → Nat) (S : Sg T), S.1 1 = (S0 1 + h) % 8 → (∀ i, i < T 2 → tr i = S.1 (3 + i)) → exF (T 1) (2 ^ T 2) (skW T dl) (skX ht.2.2.1 dl) m S = cuF T S0 m h tr := by
  intro m
  induction m with
  | zero => intro h tr S _ _; rfl
  | succ m ih =>
    intro h tr S e1 e2
    have t2 := ht.2.2.1
    have p64 : 2 ^ T 2 ≤ 64 := show 2 ^ T 2 ≤ 2 ^ 6 from Nat.pow_le_pow_right (by decide) t2
    rw [cuF_s]
    have hsplit : fst9 (cuG T S0 m h tr) 0 64 = fst9 (cuG T S0 m h tr) 0 (2 ^ T 2) := by
      have := fst9_more (f := cuG T S0 m h tr) (l := 64 - 2 ^ T 2) (2 ^ T 2) 0 (fun j a b => ?_)
      · rw [show 2 ^ T 2 + (64 - 2 ^ T 2) = 64 by omega] at this; exact this
      · unfold cuG
        rw [if_neg]
        intro q
        unfold cuO at q
        rw [Bool.and_eq_true, Bool.and_eq_true, decide_eq_true_iff] at q
        have := lt_of_bits (c := j) (N := T 2) (fun i hi => by
          have h2 := dif_sub q.1.1 i hi
          rw [Nat.testBit_and, Bool.and_eq_true] at h2
          exact (rst_lt h2.1).1)
        omega
    rw [hsplit]
    show fst9 _ 0 (2 ^ T 2) = _
    refine fst9_ext _ _ (fun c _ hc => ?_)
    have hcN : c < 2 ^ T 2 := by omega
    have hc64 : c < 64 := by omega
    have hbl : ∀ i, c.testBit i = true → i < T 2 := fun i hi => by
      by_cases q : i < T 2
      · exact q
      · rw [tb_small (Nat.lt_of_lt_of_le hcN (Nat.pow_le_pow_right (by decide) (by omega)))] at hi; cases hi
    have htr : ∀ i, i < T 2 → ((trS T tr).testBit i = true ↔ 0 < S.1 (3 + i)) := fun i hi => by
      unfold trS; rw [mk_bit, e2 i hi]; simp [hi]
    have hiff : (pop c = T 1 ∧ T 1 ≤ skW T dl S c) ↔ cuO T S0 h tr c = true := by
      unfold cuO skW
      rw [Bool.and_eq_true, Bool.and_eq_true, decide_eq_true_iff, decide_eq_true_iff, decide_eq_true_iff, ← e1]
      constructor
      · rintro ⟨g1, g2⟩
        have hs : sl T dl S.1 c = c := sub_eq (sl64 ht) hc64 (fun i hi => (sl_sub ht hi).2.2.2.1) (by omega)
        refine ⟨⟨?_, g1⟩, ?_⟩
        · apply Nat.eq_of_testBit_eq
          intro i
          rw [dif_bit, Nat.zero_testBit]
          cases e : c.testBit i with
          | false => rfl
          | true =>
            have hb := sl_sub (S := S.1) (dl := dl) (c := c) (i := i) ht (by rw [hs]; exact e)
            have a1 := rst_of (h := S.1 1) hb.1 hb.2.2.2.2.1 hb.2.2.1
            have a2 := (htr i hb.1).mpr hb.2.2.2.2.2
            rw [Nat.testBit_and, a1, a2]; rfl
        · rw [← g1]
          refine (bedN_all ht hbl hc64).mpr (fun e he => ?_)
          have := sl_bed (S := S.1) (dl := dl) (c := c) ht e (by have := ht.1.2; omega)
          rw [hs] at this
          exact this
      · rintro ⟨⟨g1, g2⟩, g3⟩
        refine ⟨g2, ?_⟩
        have hs : sl T dl S.1 c = c := by
          refine sl_all ht hcN (fun i hi => ?_) ((bedN_all ht hbl hc64).mp (by rw [g3, g2]))
          have h2 := dif_sub g1 i hi
          rw [Nat.testBit_and, Bool.and_eq_true] at h2
          exact ⟨h2.1, (htr i (hbl i hi)).mp h2.2⟩
        rw [hs, g2]
        exact Nat.le_refl _
    unfold cuG
    by_cases q : cuO T S0 h tr c = true
    · rw [if_pos q, if_pos (hiff.mpr q)]
      have g := hiff.mpr q
      have hs : sl T dl S.1 c = c := sub_eq (sl64 ht) hc64 (fun i hi => (sl_sub ht hi).2.2.2.1) (by have := g.2; unfold skW at this; omega)
      rw [ih (h + 1) (trN tr c) (skX t2 dl S c) ?_ ?_]
      · show (if S.1 1 + 1 < 8 then S.1 1 + 1 else 0) = (S0 1 + (h + 1)) % 8
        rw [e1]
        split <;> omega
      · intro i hi
        show tirN (c.testBit i) (tr i) = stepS T S.1 (sl T dl S.1 c) (3 + i)
        rw [step_3 hi (by omega), hs, e2 i hi]
    · rw [if_neg q, if_neg (fun g => q (hiff.mp g))]
theorem bedN_mono {T : Nat → Nat} {a b : Nat} (h : ∀ i, a.testBit i = true → b.testBit i = true) (k : Nat) : bedN T a k ≤ bedN T b k := by
  induction k with
  | zero => exact Nat.le_refl _
  | succ k ih =>
    have : pop (a &&& liv T k) ≤ pop (b &&& liv T k) := popn_mono (fun i hi => by rw [Nat.testBit_and, Bool.and_eq_true] at hi ⊢; exact ⟨h i hi.1, hi.2⟩) 8
    show bedN T a k + min (pop (a &&& liv T k)) (T (10 + k)) ≤ bedN T b k + min (pop (b &&& liv T k)) (T (10 + k))
    omega
theorem cu_en {T S : Nat → Nat} : ∀ m h (tr : Nat → Nat) L, cuF T S m h tr = some L → ∀ j, j < m → ∃ s, (∀ i, s.testBit i = true → (rst T ((S 1 + (h + j)) % 8)).testBit i = true ∧ (j = 0 → (trS T tr).testBit i = true)) ∧ bedN T s (T 0) = T 1 := by
  intro m
  induction m with
  | zero => intro h tr L _ j hj; exact absurd hj (by omega)
  | succ m ih =>
    intro h tr L hL j hj
    rw [cuF_s] at hL
    obtain ⟨c, _, _, hc, _⟩ := fst9_some _ _ hL
    unfold cuG at hc
    by_cases q : cuO T S h tr c = true
    · rw [if_pos q] at hc
      unfold cuO at q
      rw [Bool.and_eq_true, Bool.and_eq_true, decide_eq_true_iff, decide_eq_true_iff, decide_eq_true_iff] at q
      cases j with
      | zero =>
        refine ⟨c, fun i hi => ?_, q.2⟩
        have h2 := dif_sub q.1.1 i hi
        rw [Nat.testBit_and, Bool.and_eq_true] at h2
        exact ⟨h2.1, fun _ => h2.2⟩
      | succ j =>
        cases e : cuF T S m (h + 1) (trN tr c) with
        | none => rw [e] at hc; cases hc
        | some L2 =>
          obtain ⟨s, s1, s2⟩ := ih (h + 1) (trN tr c) L2 e j (by omega)
          refine ⟨s, fun i hi => ⟨?_, fun h0 => absurd h0 (by omega)⟩, s2⟩
          rw [show h + (j + 1) = h + 1 + j by omega]
          exact (s1 i hi).1
    · rw [if_neg q] at hc; cases hc
theorem fCU_eq {T S : Nat → Nat} (k : Nat) : fCU T S k = cuF T S k 0 (tr3 S) := by
  unfold fCU
  by_cases q : enF T S (tr3 S) k = true
  · rw [if_pos q]
  · rw [if_neg q]
    cases e : cuF T S k 0 (tr3 S) with
    | none => rfl
    | some L =>
      exfalso
      apply q
      unfold enF
      rw [allN_iff]
      intro j hj
      obtain ⟨s, s1, s2⟩ := cu_en k 0 (tr3 S) L e j hj
      have hb : T 1 ≤ bedN T (enA T S (tr3 S) j) (T 0) := by
        rw [← s2]
        refine bedN_mono (fun i hi => ?_) _
        have h := s1 i hi
        rw [Nat.zero_add] at h
        unfold enA
        by_cases j0 : j = 0
        · rw [if_pos j0, Nat.testBit_and, h.1, h.2 j0]; rfl
        · rw [if_neg j0]; exact h.1
      simp
      omega
/-- the reference's search and the class's agree -/
theorem sk_cu {T S : Nat → Nat} (ht : okT T) (dl : Nat) (hS : ∀ i, i < T 2 → S (3 + i) ≤ 20) (h1 : S 1 < 8) {k : Nat} (hk : 0 < k) : skN (T 1) (2 ^ T 2) (skW T dl) (skX ht.2.2.1 dl) k ⟨S, hS⟩ 0 [] none = (fCU T S k).map (fun L => (k * T 1, L)) := by
  rw [fCU_eq, ← ex_cu (S0 := S) ht dl k 0 (tr3 S) ⟨S, hS⟩ (by show S 1 = (S 1 + 0) % 8; omega) (fun i _ => rfl)]
  exact sk_all (fun S c _ => sl_pop ht) (fun m S hf => fe_ex ht dl m S S ⟨rfl, fun i _ => Nat.le_refl _⟩ hf) (fun m S L h => ex_fe m S L h) hk _
end M37
