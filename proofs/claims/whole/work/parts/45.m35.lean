section M35
abbrev sl (T : Nat → Nat) (dl : Nat) (S : Nat → Nat) (c : Nat) : Nat := mSl T S 63 (-9) (-9) (-9) dl c
theorem sl_bit {T S : Nat → Nat} {dl : Nat} (ht : okT T) (c i : Nat) : (sl T dl S c).testBit i = (decide (i < T 2) && (lyB T (mcd T S (-9) c) i && !wkP T (nsO T (S 1)) i (T 3))) := by
  obtain ⟨⟨t0, t0b⟩, t1, t2, t3, tD, tC, tN⟩ := ht
  unfold sl mSl
  rw [mk_bit]
  by_cases hc : i < T 2
  · have := tC i hc
    unfold slB
    rw [lou_wk, drB9 (by omega), and63 (ns64 t3 _)]
    simp [hc, ne9 (show i < 1000 by omega)]
  · simp [hc]
theorem sl64 {T S : Nat → Nat} {dl c : Nat} (ht : okT T) : sl T dl S c < 64 := mSl6 ht.2.2.1
theorem mcd_c {T S : Nat → Nat} {nv : Int32} {c i : Nat} (h : mcd T S nv c i = true) : c.testBit i = true ∧ (T (26 + i)).testBit (S 1) = false ∧ 0 < S (3 + i) := by
  unfold mcd at h
  simp at h
  exact ⟨h.1.1, h.2.1, h.2.2⟩
theorem sl_sub {T S : Nat → Nat} {dl c i : Nat} (ht : okT T) (h : (sl T dl S c).testBit i = true) : i < T 2 ∧ lyB T (mcd T S (-9) c) i = true ∧ wkP T (nsO T (S 1)) i (T 3) = false ∧ c.testBit i = true ∧ (T (26 + i)).testBit (S 1) = false ∧ 0 < S (3 + i) := by
  rw [sl_bit ht] at h
  simp at h
  have := mcd_c (lyB_cd h.2.1)
  exact ⟨h.1, h.2.1, h.2.2, this⟩
theorem sl_pop {T S : Nat → Nat} {dl c : Nat} (ht : okT T) : pop (sl T dl S c) ≤ pop c := popn_mono (fun i hi => (sl_sub ht hi).2.2.2.1) 8
theorem sub_eq {a b : Nat} (ha : a < 64) (hb : b < 64) (h : ∀ i, a.testBit i = true → b.testBit i = true) (hp : pop b ≤ pop a) : a = b := by
  have key : ∀ k, popn k b ≤ popn k a → ∀ i, i < k → a.testBit i = b.testBit i := by
    intro k
    induction k with
    | zero => intro _ i hi; exact absurd hi (by omega)
    | succ k ih =>
      intro hk i hi
      have hk2 : popn k b + bn (b.testBit k) ≤ popn k a + bn (a.testBit k) := hk
      have hm := popn_mono h k
      have hbit : bn (a.testBit k) ≤ bn (b.testBit k) := by
        cases e : a.testBit k with
        | false => exact Nat.zero_le _
        | true => rw [h k e]; exact Nat.le_refl _
      by_cases q : i = k
      · subst q
        cases e : a.testBit i with
        | true => rw [h i e]
        | false =>
          cases e2 : b.testBit i with
          | false => rfl
          | true => rw [e, e2] at hk2; simp [bn] at hk2; omega
      · exact ih (by omega) i (by omega)
  refine bit_ext (k := 6) ha hb (fun i hi => key 8 hp i (by omega))
/-- the called all sleep just when none of them is at work, woken or fresh and each has a bed -/
theorem sl_all {T S : Nat → Nat} {dl c : Nat} (ht : okT T) (hc : c < 2 ^ T 2) (h1 : ∀ i, c.testBit i = true → (rst T (S 1)).testBit i = true ∧ 0 < S (3 + i)) (h2 : ∀ e, e < T 0 → pop (c &&& liv T e) ≤ T (10 + e)) : sl T dl S c = c := by
  have t2 := ht.2.2.1
  have hlt : ∀ i, c.testBit i = true → i < T 2 := fun i hi => by
    by_cases q : i < T 2
    · exact q
    · rw [tb_small (Nat.lt_of_lt_of_le hc (Nat.pow_le_pow_right (by decide) (by omega)))] at hi; cases hi
  have hc64 : c < 64 := Nat.lt_of_lt_of_le hc (Nat.pow_le_pow_right (n := 2) (by decide) t2)
  refine bit_ext (k := 6) (sl64 ht) hc64 (fun i hi => ?_)
  cases e : c.testBit i with
  | false =>
    cases q : (sl T dl S c).testBit i with
    | false => rfl
    | true => have := (sl_sub ht q).2.2.2.1; rw [e] at this; cases this
  | true =>
    have hi2 := hlt i e
    have hr := (h1 i e).1
    have hr2 := hr
    unfold rst at hr
    rw [dif_bit] at hr
    unfold idl wkA at hr
    rw [mk_bit, mk_bit] at hr
    simp [hi2] at hr
    have hmc : mcd T S (-9) c i = true := mcd_t ⟨e, ne9 (by omega), hr.1, (h1 i e).2⟩
    rw [sl_bit ht]
    have hly : lyB T (mcd T S (-9) c) i = true := by
      unfold lyB
      rw [hmc]
      simp
      have hx := ht.2.2.2.2.2.1 i hi2
      -- those that lie before i, in its district, are called, and i is not one of them
      have hlt2 : pop (lieL T (mcd T S (-9) c) i &&& liv T (T (14 + i))) < pop (c &&& liv T (T (14 + i))) := by
        have a1 : (lieL T (mcd T S (-9) c) i &&& liv T (T (14 + i))).testBit i = false := by
          rw [Nat.testBit_and, lieL_mk, mk_bit]; simp
        have a2 : ∀ j, ((lieL T (mcd T S (-9) c) i &&& liv T (T (14 + i))) ||| 2 ^ i).testBit j = true → (c &&& liv T (T (14 + i))).testBit j = true := by
          intro j hj
          rw [Nat.testBit_or, Bool.or_eq_true] at hj
          rcases hj with hj | hj
          · rw [Nat.testBit_and, Bool.and_eq_true] at hj ⊢
            refine ⟨?_, hj.2⟩
            rw [lieL_mk, mk_bit] at hj
            simp at hj
            exact (mcd_c (lyB_cd hj.1.2)).1
          · rw [Nat.testBit_two_pow] at hj
            have : i = j := by simpa using hj
            subst this
            rw [Nat.testBit_and, e]
            unfold liv
            rw [mk_bit]
            simp [hi2]
        have a3 := popn_mono a2 8
        rw [popn_ins a1 8, if_pos (by omega)] at a3
        unfold pop
        omega
      have := h2 (T (14 + i)) hx.1
      omega
    rw [hly, hr.2]
    simp [hi2]
/-- what sleeps has beds -/
theorem sl_bed {T S : Nat → Nat} {dl c : Nat} (ht : okT T) (e : Nat) (he : e < 4) : pop (sl T dl S c &&& liv T e) ≤ T (10 + e) := by
  have t2 := ht.2.2.1
  have key : ∀ k, k ≤ T 2 → pop (lieL T (mcd T S (-9) c) k &&& liv T e) ≤ T (10 + e) := by
    intro k
    induction k with
    | zero => intro _; show pop (0 &&& _) ≤ _; rw [Nat.zero_and]; exact Nat.zero_le _
    | succ k ih =>
      intro hk
      rw [usd_pop _ t2 e hk, usd_s, ← usd_pop _ t2 e (by omega)]
      have h1 := ih (by omega)
      cases q : lyB T (mcd T S (-9) c) k && T (14 + k) == e with
      | false => simpa [bn] using h1
      | true =>
        simp at q
        have hly := q.1
        unfold lyB at hly
        simp at hly
        rw [q.2] at hly
        simp [bn]
        omega
  refine Nat.le_trans (popn_mono (fun i hi => ?_) 8) (key (T 2) (Nat.le_refl _))
  rw [Nat.testBit_and, Bool.and_eq_true] at hi ⊢
  refine ⟨?_, hi.2⟩
  have h := sl_sub ht hi.1
  rw [lieL_mk, mk_bit]
  simp [h.1, h.2.1]
/-- some of a set, as many as one likes -/
theorem some_of {a : Nat} (ha : a < 64) : ∀ q, q ≤ pop a → ∃ b, b < 64 ∧ (∀ i, b.testBit i = true → a.testBit i = true) ∧ pop b = q := by
  have key : ∀ k, k ≤ 6 → ∀ q, q ≤ popn k a → ∃ b, b < 2 ^ k ∧ (∀ i, b.testBit i = true → a.testBit i = true) ∧ popn k b = q := by
    intro k
    induction k with
    | zero => intro _ q hq; exact ⟨0, by decide, fun i hi => by simp at hi, by have : q ≤ 0 := hq; show 0 = q; omega⟩
    | succ k ih =>
      intro hk q hq
      have hq2 : q ≤ popn k a + bn (a.testBit k) := hq
      by_cases c : q ≤ popn k a
      · obtain ⟨b, b1, b2, b3⟩ := ih (by omega) q c
        refine ⟨b, Nat.lt_of_lt_of_le b1 (Nat.pow_le_pow_right (by decide) (by omega)), b2, ?_⟩
        show popn k b + bn (b.testBit k) = q
        rw [tb_small b1, b3]; rfl
      · have hak : a.testBit k = true := by
          cases e : a.testBit k with
          | true => rfl
          | false => rw [e] at hq2; simp [bn] at hq2; omega
        rw [hak] at hq2
        have hq3 : q = popn k a + 1 := by simp [bn] at hq2; omega
        obtain ⟨b, b1, b2, b3⟩ := ih (by omega) (popn k a) (Nat.le_refl _)
        have hbk : b.testBit k = false := tb_small b1
        refine ⟨b ||| 2 ^ k, Nat.or_lt_two_pow (Nat.lt_of_lt_of_le b1 (Nat.pow_le_pow_right (by decide) (by omega))) (Nat.pow_lt_pow_right (by decide) (by omega)), fun i hi => ?_, ?_⟩
        · rw [Nat.testBit_or, Bool.or_eq_true] at hi
          rcases hi with hi | hi
          · exact b2 i hi
          · rw [Nat.testBit_two_pow] at hi
            have : k = i := by simpa using hi
            rw [← this]; exact hak
        · rw [popn_ins hbk, if_pos (by omega)]
          show popn k b + bn (b.testBit k) + 1 = q
          rw [hbk, b3, hq3]; rfl
  intro q hq
  obtain ⟨b, b1, b2, b3⟩ := key 6 (by decide) q (by rw [← pop_6 ha]; exact hq)
  exact ⟨b, b1, b2, by rw [pop_6 b1]; exact b3⟩
end M35
