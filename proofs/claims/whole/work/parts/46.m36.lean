section M36
abbrev Sg (T : Nat → Nat) : Type := { S : Nat → Nat // ∀ i, i < T 2 → S (3 + i) ≤ 20 }
theorem sg_nx {T : Nat → Nat} (t2 : T 2 ≤ 6) (S : Sg T) (w : Nat) : ∀ i, i < T 2 → stepS T S.1 w (3 + i) ≤ 20 := by
  intro i hi
  rw [step_3 hi (by omega)]
  exact tirN_le _ _ (S.2 i hi)
def skW (T : Nat → Nat) (dl : Nat) (S : Sg T) (c : Nat) : Nat := pop (sl T dl S.1 c)
def skX {T : Nat → Nat} (t2 : T 2 ≤ 6) (dl : Nat) (S : Sg T) (c : Nat) : Sg T := ⟨stepS T S.1 (sl T dl S.1 c), sg_nx t2 S _⟩
def geT (T : Nat → Nat) (S S' : Nat → Nat) : Prop := S 1 = S' 1 ∧ ∀ i, i < T 2 → S (3 + i) ≤ S' (3 + i)
theorem tirN_ge {a b : Bool} {x y : Nat} (hab : b = true → a = true) (hxy : x ≤ y) (hx : x ≤ 20) : tirN a x ≤ tirN b y := by
  unfold tirN
  cases a <;> cases b <;> simp at hab ⊢ <;> omega
theorem fe_ex {T : Nat → Nat} (ht : okT T) (dl : Nat) : ∀ m (S S' : Sg T), geT T S.1 S'.1 → feas (T 1) (2 ^ T 2) (skW T dl) (skX ht.2.2.1 dl) m S → exF (T 1) (2 ^ T 2) (skW T dl) (skX ht.2.2.1 dl) m S' ≠ none := by
  intro m
  induction m with
  | zero => intro S S' _ _ h; cases h
  | succ m ih =>
    intro S S' hg hf
    obtain ⟨c, hc, hq, hf2⟩ := hf
    have t2 := ht.2.2.1
    obtain ⟨b, b1, b2, b3⟩ := some_of (sl64 (S := S.1) (dl := dl) (c := c) ht) (T 1) hq
    have hbl : ∀ i, b.testBit i = true → i < T 2 := fun i hi => (sl_sub ht (b2 i hi)).1
    have hbN : b < 2 ^ T 2 := by
      have : b = mk (fun i => b.testBit i) (T 2) := by
        refine bit_ext (k := 6) b1 (mk6 _ t2) (fun i hi => ?_)
        rw [mk_bit]
        cases e : b.testBit i with
        | false => simp
        | true => simp [hbl i e]
      rw [this]; exact mk_lt _ _
    have hall : sl T dl S'.1 b = b := by
      refine sl_all ht hbN (fun i hi => ?_) (fun e he => ?_)
      · have h := sl_sub ht (b2 i hi)
        refine ⟨?_, by have := hg.2 i h.1; omega⟩
        unfold rst
        rw [dif_bit]
        unfold idl wkA
        rw [mk_bit, mk_bit, ← hg.1]
        simp [h.1, h.2.2.1, h.2.2.2.2.1]
      · refine Nat.le_trans (popn_mono (fun i hi => ?_) 8) (sl_bed (S := S.1) (dl := dl) (c := c) ht e (by have := ht.1.2; omega))
        rw [Nat.testBit_and, Bool.and_eq_true] at hi ⊢
        exact ⟨b2 i hi.1, hi.2⟩
    have hnext : geT T (skX t2 dl S c).1 (skX t2 dl S' b).1 := by
      refine ⟨?_, fun i hi => ?_⟩
      · show (if S.1 1 + 1 < 8 then S.1 1 + 1 else 0) = (if S'.1 1 + 1 < 8 then S'.1 1 + 1 else 0)
        rw [hg.1]
      · show stepS T S.1 _ (3 + i) ≤ stepS T S'.1 _ (3 + i)
        rw [step_3 hi (by omega), step_3 hi (by omega), hall]
        exact tirN_ge (fun h => b2 i h) (hg.2 i hi) (S.2 i hi)
    have hrec := ih _ _ hnext hf2
    intro hnone
    have h9 := (fst9_none _ _).mp hnone b (by omega) (by omega)
    rw [if_pos ⟨b3, by show T 1 ≤ pop (sl T dl S'.1 b); rw [hall, b3]; exact Nat.le_refl _⟩] at h9
    cases e : exF (T 1) (2 ^ T 2) (skW T dl) (skX ht.2.2.1 dl) m (skX ht.2.2.1 dl S' b) with
    | none => exact hrec e
    | some L => rw [e] at h9; cases h9
theorem ex_fe {σ : Type} {Q N : Nat} {wk : σ → Nat → Nat} {nx : σ → Nat → σ} : ∀ m (S : σ) L, exF Q N wk nx m S = some L → feas Q N wk nx m S := by
  intro m
  induction m with
  | zero => intro S L _; trivial
  | succ m ih =>
    intro S L h
    obtain ⟨c, _, hc, hL, _⟩ := fst9_some _ _ h
    by_cases q : pop c = Q ∧ Q ≤ wk S c
    · rw [if_pos q] at hL
      cases e : exF Q N wk nx m (nx S c) with
      | none => rw [e] at hL; cases hL
      | some L2 => exact ⟨c, by omega, q.2, ih _ _ e⟩
    · rw [if_neg q] at hL; cases hL
theorem fst9_ext {f g : Nat → Option (List Nat)} : ∀ k i, (∀ j, i ≤ j → j < i + k → f j = g j) → fst9 f i k = fst9 g i k := by
  intro k
  induction k with
  | zero => intro i _; rfl
  | succ k ih =>
    intro i h
    simp only [fst9]
    rw [h i (by omega) (by omega), ih (i + 1) (fun j a b => h j (by omega) (by omega))]
theorem fst9_more {f : Nat → Option (List Nat)} {l : Nat} : ∀ k i, (∀ j, i + k ≤ j → j < i + k + l → f j = none) → fst9 f i (k + l) = fst9 f i k := by
  intro k
  induction k with
  | zero => intro i h; rw [Nat.zero_add]; exact (fst9_none _ _).mpr (fun j a b => h j (by omega) (by omega))
  | succ k ih =>
    intro i h
    rw [show k + 1 + l = (k + l) + 1 by omega]
    simp only [fst9]
    rw [ih (i + 1) (fun j a b => h j (by omega) (by omega))]
theorem bedN_pop {T : Nat → Nat} (ht : okT T) {s : Nat} (hs : ∀ i, s.testBit i = true → i < T 2) (hs64 : s < 64) : ∀ k, bedN T s k ≤ cntN (fun i => s.testBit i && decide (T (14 + i) < k)) (T 2) ∧ (bedN T s k = cntN (fun i => s.testBit i && decide (T (14 + i) < k)) (T 2) ↔ ∀ e, e < k → pop (s &&& liv T e) ≤ T (10 + e)) := by
  have t2 := ht.2.2.1
  have hp : ∀ e, pop (s &&& liv T e) = cntN (fun i => s.testBit i && T (14 + i) == e) (T 2) := by
    intro e
    rw [← pop_mk _ (by omega)]
    congr 1
    refine bit_ext (k := 6) (and6 (mk6 _ t2)) (mk6 _ t2) (fun i hi => ?_)
    unfold liv
    rw [Nat.testBit_and, mk_bit, mk_bit]
    cases s.testBit i <;> cases decide (i < T 2) <;> simp
  intro k
  induction k with
  | zero =>
    have z : cntN (fun i => s.testBit i && decide (T (14 + i) < 0)) (T 2) = 0 := by
      have : (fun i => s.testBit i && decide (T (14 + i) < 0)) = fun _ => false := by funext i; simp
      rw [this]
      generalize T 2 = N
      induction N with
      | zero => rfl
      | succ N ih => show cntN _ N + bn false = 0; rw [ih]; rfl
    rw [z]
    exact ⟨Nat.le_refl _, fun _ e he => absurd he (by omega), fun _ => rfl⟩
  | succ k ih =>
    have hsplit : cntN (fun i => s.testBit i && decide (T (14 + i) < k + 1)) (T 2) = cntN (fun i => s.testBit i && decide (T (14 + i) < k)) (T 2) + pop (s &&& liv T k) := by
      rw [hp]
      refine cnt_addE (fun i => ?_) _
      by_cases a : T (14 + i) < k
      · cases s.testBit i <;> simp [a, show T (14 + i) < k + 1 by omega, show ¬ T (14 + i) = k by omega, bn]
      · by_cases b : T (14 + i) = k
        · cases s.testBit i <;> simp [b, bn]
        · cases s.testBit i <;> simp [a, b, show ¬ T (14 + i) < k + 1 by omega, bn]
    rw [hsplit]
    show bedN T s k + min (pop (s &&& liv T k)) (T (10 + k)) ≤ _ ∧ (bedN T s k + min (pop (s &&& liv T k)) (T (10 + k)) = _ ↔ _)
    refine ⟨by have := ih.1; omega, ?_⟩
    constructor
    · intro h e he
      have h1 := ih.1
      by_cases q : e = k
      · subst q; omega
      · exact ih.2.mp (by omega) e (by omega)
    · intro h
      have h1 := ih.2.mpr (fun e he => h e (by omega))
      have h2 := h k (by omega)
      omega
theorem bedN_all {T : Nat → Nat} (ht : okT T) {s : Nat} (hs : ∀ i, s.testBit i = true → i < T 2) (hs64 : s < 64) : bedN T s (T 0) = pop s ↔ ∀ e, e < T 0 → pop (s &&& liv T e) ≤ T (10 + e) := by
  have t2 := ht.2.2.1
  rw [← (bedN_pop ht hs hs64 (T 0)).2]
  have : cntN (fun i => s.testBit i && decide (T (14 + i) < T 0)) (T 2) = pop s := by
    rw [← pop_mk _ (by omega)]
    congr 1
    refine bit_ext (k := 6) (mk6 _ t2) hs64 (fun i hi => ?_)
    rw [mk_bit]
    cases e : s.testBit i with
    | false => simp
    | true => simp [hs i e, (ht.2.2.2.2.2.1 i (hs i e)).1]
  rw [this]
end M36
