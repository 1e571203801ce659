section M34
/-- a search hour by hour, as the reference makes it: pc how many are called, wk how many sleep, nx how it goes on -/
def fld {α : Type} (f : Nat → α → α) : Nat → Nat → α → α
  | _, 0, s => s
  | i, k + 1, s => fld f (i + 1) k (f i s)
abbrev SkT := Option (Nat × List Nat)
def okst (st : SkT) (x : Nat) : Bool := match st with
  | none => true
  | some (f, _) => decide (x < f)
def skN {σ : Type} (Q N : Nat) (wk : σ → Nat → Nat) (nx : σ → Nat → σ) : Nat → σ → Nat → List Nat → SkT → SkT
  | 0, _, _, _, st => st
  | m + 1, S, base, pre, st => fld (fun c st => if Q ≤ wk S c ∧ okst st (base + pop c) = true then (if m = 0 then some (base + pop c, pre ++ [c]) else skN Q N wk nx m (nx S c) (base + pop c) (pre ++ [c]) st) else st) 0 N st
def feas {σ : Type} (Q N : Nat) (wk : σ → Nat → Nat) (nx : σ → Nat → σ) : Nat → σ → Prop
  | 0, _ => True
  | m + 1, S => ∃ c, c < N ∧ Q ≤ wk S c ∧ feas Q N wk nx m (nx S c)
def exF {σ : Type} (Q N : Nat) (wk : σ → Nat → Nat) (nx : σ → Nat → σ) : Nat → σ → Option (List Nat)
  | 0, _ => some []
  | m + 1, S => fst9 (fun c => if pop c = Q ∧ Q ≤ wk S c then (exF Q N wk nx m (nx S c)).map (c :: ·) else none) 0 N
theorem fld_inv {α : Type} {f : Nat → α → α} (P : Nat → α → Prop) : ∀ k i s, P i s → (∀ j t, i ≤ j → j < i + k → P j t → P (j + 1) (f j t)) → P (i + k) (fld f i k s) := by
  intro k
  induction k with
  | zero => intro i s h _; exact h
  | succ k ih =>
    intro i s h hs
    show P (i + (k + 1)) (fld f (i + 1) k (f i s))
    rw [show i + (k + 1) = i + 1 + k by omega]
    exact ih (i + 1) (f i s) (hs i s (by omega) (by omega) h) (fun j t h1 h2 h3 => hs j t (by omega) (by omega) h3)
theorem fst9_none {f : Nat → Option (List Nat)} : ∀ k i, fst9 f i k = none ↔ ∀ j, i ≤ j → j < i + k → f j = none := by
  intro k
  induction k with
  | zero => intro i; exact ⟨fun _ j h1 h2 => absurd h2 (by omega), fun _ => rfl⟩
  | succ k ih =>
    intro i
    simp only [fst9]
    cases e : f i with
    | some L => exact ⟨fun h => (by cases h), fun h => by have := h i (by omega) (by omega); rw [e] at this; cases this⟩
    | none =>
      dsimp only
      rw [ih]
      constructor
      · intro h j h1 h2
        by_cases q : j = i
        · subst q; exact e
        · exact h j (by omega) (by omega)
      · intro h j h1 h2; exact h j (by omega) (by omega)
theorem fst9_some {f : Nat → Option (List Nat)} {L : List Nat} : ∀ k i, fst9 f i k = some L → ∃ j, i ≤ j ∧ j < i + k ∧ f j = some L ∧ ∀ j', i ≤ j' → j' < j → f j' = none := by
  intro k
  induction k with
  | zero => intro i h; cases h
  | succ k ih =>
    intro i h
    simp only [fst9] at h
    cases e : f i with
    | some L2 =>
      rw [e] at h; cases h
      exact ⟨i, by omega, by omega, e, fun j' a b => absurd b (by omega)⟩
    | none =>
      rw [e] at h
      obtain ⟨j, a, b, c, g⟩ := ih (i + 1) h
      refine ⟨j, by omega, by omega, c, fun j' h1 h2 => ?_⟩
      by_cases q : j' = i
      · subst q; exact e
      · exact g j' (by omega) h2
section
variable {σ : Type} {Q N : Nat} {wk : σ → Nat → Nat} {nx : σ → Nat → σ}
/-- what is there is no better than can be had: nothing changes -/
theorem sk_keep (hw : ∀ S c, c < N → wk S c ≤ pop c) : ∀ m S base pre f L, f ≤ base + m * Q → skN Q N wk nx m S base pre (some (f, L)) = some (f, L) := by
  intro m
  induction m with
  | zero => intro S base pre f L _; rfl
  | succ m ih =>
    intro S base pre f L hf
    show fld _ 0 N _ = _
    refine (fld_inv (fun _ t => t = some (f, L)) N 0 _ rfl (fun j t _ h2 ht => ?_))
    subst ht
    split
    · rename_i q
      have h1 := hw S j (by omega)
      have h3 : base + pop j < f := by have := q.2; simpa [okst] using this
      rw [Nat.succ_mul] at hf
      split
      · rename_i m0; subst m0; omega
      · exact ih _ _ _ _ _ (by omega)
    · rfl
/-- where nothing can be had nothing changes -/
theorem sk_none : ∀ m S base pre st, ¬ feas Q N wk nx m S → skN Q N wk nx m S base pre st = st := by
  intro m
  induction m with
  | zero => intro S base pre st h; exact absurd trivial h
  | succ m ih =>
    intro S base pre st h
    show fld _ 0 N _ = _
    refine (fld_inv (fun _ t => t = st) N 0 _ rfl (fun j t _ h2 ht => ?_))
    subst ht
    split
    · rename_i q
      have hn : ¬ feas Q N wk nx m (nx S j) := fun g => h ⟨j, by omega, q.1, g⟩
      split
      · rename_i m0; subst m0; exact absurd trivial hn
      · exact ih _ _ _ _ hn
    · rfl
def bad (B : Nat) (st : SkT) : Prop := match st with
  | none => True
  | some (f, _) => B < f
/-- whatever is found is no less than it must be -/
theorem sk_ge (hw : ∀ S c, c < N → wk S c ≤ pop c) : ∀ m S base pre st B, B < base + m * Q → 0 < m → bad B st → bad B (skN Q N wk nx m S base pre st) := by
  intro m
  induction m with
  | zero => intro S base pre st B _ h; exact absurd h (by decide)
  | succ m ih =>
    intro S base pre st B hB _ hst
    show bad B (fld _ 0 N _)
    refine (fld_inv (fun _ t => bad B t) N 0 _ hst (fun j t _ h2 ht => ?_))
    split
    · rename_i q
      have h1 := hw S j (by omega)
      have h3 := q.1
      rw [Nat.succ_mul] at hB
      split
      · rename_i m0; subst m0
        show B < base + pop j
        omega
      · exact ih _ _ _ _ _ (by omega) (by omega) ht
    · exact ht
/-- the first of the least is found -/
theorem sk_some (hw : ∀ S c, c < N → wk S c ≤ pop c) (hfe : ∀ m S, feas Q N wk nx m S → exF Q N wk nx m S ≠ none) : ∀ m S base pre st L, 0 < m → bad (base + m * Q) st → exF Q N wk nx m S = some L → skN Q N wk nx m S base pre st = some (base + m * Q, pre ++ L) := by
  intro m
  induction m with
  | zero => intro S base pre st L h; exact absurd h (by decide)
  | succ m ih =>
    intro S base pre st L _ hst he
    obtain ⟨c0, _, hc0, hL, hlow⟩ := fst9_some _ _ he
    have hc0N : c0 < N := by omega
    have hq0 : pop c0 = Q ∧ Q ≤ wk S c0 := by
      by_cases q : pop c0 = Q ∧ Q ≤ wk S c0
      · exact q
      · rw [if_neg q] at hL; cases hL
    rw [if_pos hq0] at hL
    obtain ⟨L', hL', rfl⟩ : ∃ L', exF Q N wk nx m (nx S c0) = some L' ∧ c0 :: L' = L := by
      cases e : exF Q N wk nx m (nx S c0) with
      | none => rw [e] at hL; cases hL
      | some L' => rw [e] at hL; cases hL; exact ⟨L', rfl, rfl⟩
    show fld _ 0 N _ = _
    have key := fld_inv (f := fun c st => if Q ≤ wk S c ∧ okst st (base + pop c) = true then (if m = 0 then some (base + pop c, pre ++ [c]) else skN Q N wk nx m (nx S c) (base + pop c) (pre ++ [c]) st) else st) (fun j t => (j ≤ c0 → bad (base + (m + 1) * Q) t) ∧ (c0 < j → t = some (base + (m + 1) * Q, pre ++ c0 :: L'))) N 0 st ⟨fun _ => hst, fun h => absurd h (by omega)⟩ (fun j t _ h2 ht => ?_)
    · exact key.2 (by omega)
    · rw [Nat.succ_mul] at *
      have hj := hw S j (by omega)
      rcases Nat.lt_trichotomy j c0 with h | h | h
      · refine ⟨fun _ => ?_, fun q => absurd q (by omega)⟩
        have hb := ht.1 (by omega)
        have hno := hlow j (by omega) h
        split
        · rename_i q
          by_cases e : pop j = Q
          · rw [if_pos ⟨e, q.1⟩] at hno
            have hnone : exF Q N wk nx m (nx S j) = none := by
              cases e2 : exF Q N wk nx m (nx S j) with
              | none => rfl
              | some L2 => rw [e2] at hno; cases hno
            have hnf : ¬ feas Q N wk nx m (nx S j) := fun g => hfe _ _ g hnone
            split
            · rename_i m0; subst m0; exact absurd trivial hnf
            · rw [sk_none _ _ _ _ _ hnf]; exact hb
          · have hgt : Q < pop j := by have := q.1; omega
            split
            · rename_i m0; subst m0
              show base + (0 * Q + Q) < base + pop j
              omega
            · exact sk_ge hw _ _ _ _ _ _ (by omega) (by omega) hb
        · exact hb
      · subst h
        refine ⟨fun q => absurd q (by omega), fun _ => ?_⟩
        have hb := ht.1 (by omega)
        have hok : okst t (base + pop j) = true := by
          cases t with
          | none => rfl
          | some v =>
            obtain ⟨f, l⟩ := v
            have hb2 : base + (m * Q + Q) < f := hb
            simp [okst]
            omega
        rw [if_pos ⟨hq0.2, hok⟩]
        by_cases m0 : m = 0
        · subst m0
          rw [if_pos rfl, hq0.1]
          have : L' = [] := by simp only [exF] at hL'; cases hL'; rfl
          subst this
          rw [Nat.zero_mul, Nat.zero_add]
        · rw [if_neg m0, ih (nx S j) (base + pop j) (pre ++ [j]) t L' (by omega) (by rw [hq0.1]; cases t with | none => trivial | some v => exact (show base + Q + m * Q < v.1 from by have hb2 : base + (m * Q + Q) < v.1 := hb; omega)) hL']
          rw [hq0.1, List.append_assoc, show base + Q + m * Q = base + (m * Q + Q) by omega]
          rfl
      · refine ⟨fun q => absurd q (by omega), fun _ => ?_⟩
        have hb := ht.2 h
        rw [hb]
        split
        · rename_i q
          have h3 : base + pop j < base + (m * Q + Q) := by have := q.2; simpa [okst] using this
          split
          · rename_i m0; subst m0
            have := q.1
            omega
          · exact sk_keep hw _ _ _ _ _ _ (by have := q.1; omega)
        · rfl
theorem sk_all (hw : ∀ S c, c < N → wk S c ≤ pop c) (hfe : ∀ m S, feas Q N wk nx m S → exF Q N wk nx m S ≠ none) (hef : ∀ m S L, exF Q N wk nx m S = some L → feas Q N wk nx m S) {m : Nat} (hm : 0 < m) (S : σ) : skN Q N wk nx m S 0 [] none = (exF Q N wk nx m S).map (fun L => (m * Q, L)) := by
  cases e : exF Q N wk nx m S with
  | none => exact sk_none _ _ _ _ _ (fun g => hfe _ _ g e)
  | some L =>
    rw [sk_some hw hfe m S 0 [] none L hm trivial e, Nat.zero_add]
    rfl
end
end M34
