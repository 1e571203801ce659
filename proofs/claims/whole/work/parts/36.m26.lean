section M26
variable {Λ : PL} {d n : Nat} {M : HM} {Rf : HR} {Lg : HL}

def moL (T : Nat → Nat) (so th : Nat) : Nat → Nat
  | 0 => th
  | k + 1 => moL T so th k ||| (if th.testBit k = true then T (6 + k) &&& so else 0)
def mor (T : Nat → Nat) (so th : Nat) : Nat := moL T so th (T 0)
def itr (T : Nat → Nat) (so : Nat) : Nat → Nat → Nat
  | 0, th => th
  | r + 1, th => itr T so r (mor T so th)
theorem itr_s (T : Nat → Nat) (so : Nat) : ∀ r th, itr T so (r + 1) th = mor T so (itr T so r th) := by
  intro r
  induction r with
  | zero => intro th; rfl
  | succ r ih => intro th; show itr T so (r + 1) (mor T so th) = _; rw [ih]; rfl
theorem moL_bit (T : Nat → Nat) (so th j : Nat) (k : Nat) : (moL T so th k).testBit j = true ↔ th.testBit j = true ∨ ∃ e, e < k ∧ th.testBit e = true ∧ (T (6 + e)).testBit j = true ∧ so.testBit j = true := by
  induction k with
  | zero => exact ⟨Or.inl, fun h => by rcases h with h | ⟨e, h, _⟩; exact h; exact absurd h (by omega)⟩
  | succ k ih =>
    show (moL T so th k ||| _).testBit j = true ↔ _
    rw [Nat.testBit_or, Bool.or_eq_true, ih]
    constructor
    · rintro ((h | ⟨e, h, r⟩) | h)
      · exact Or.inl h
      · exact Or.inr ⟨e, by omega, r⟩
      · by_cases q : th.testBit k = true
        · rw [if_pos q, Nat.testBit_and, Bool.and_eq_true] at h
          exact Or.inr ⟨k, by omega, q, h.1, h.2⟩
        · rw [if_neg q] at h; simp at h
    · rintro (h | ⟨e, h, r1, r2, r3⟩)
      · exact Or.inl (Or.inl h)
      · by_cases ek : e = k
        · subst ek; right; rw [if_pos r1, Nat.testBit_and, r2, r3]; rfl
        · exact Or.inl (Or.inr ⟨e, by omega, r1, r2, r3⟩)
theorem mor_ge (T : Nat → Nat) (so th : Nat) (k : Nat) : th ≤ moL T so th k := by
  induction k with
  | zero => exact Nat.le_refl _
  | succ k ih => exact Nat.le_trans ih Nat.left_le_or
theorem moL_lt {T : Nat → Nat} {so th : Nat} (hs : so < 16) (ht : th < 16) (k : Nat) : moL T so th k < 16 := by
  induction k with
  | zero => exact ht
  | succ k ih =>
    show moL T so th k ||| _ < 2 ^ 4
    refine Nat.or_lt_two_pow ih ?_
    split
    · exact Nat.and_lt_two_pow _ hs
    · decide
def farN (T : Nat → Nat) (so to : Nat) : Nat → Nat → Option Nat
  | 0, _ => none
  | f + 1, th => if th.testBit to = true then some 0 else if mor T so th = th then none else (farN T so to f (mor T so th)).map (· + 1)
theorem far_some {T : Nat → Nat} {so to : Nat} : ∀ f th r, farN T so to f th = some r → (itr T so r th).testBit to = true := by
  intro f
  induction f with
  | zero => intro th r h; cases h
  | succ f ih =>
    intro th r h
    simp only [farN] at h
    split at h
    · cases h; assumption
    · split at h
      · cases h
      · cases e : farN T so to f (mor T so th) with
        | none => rw [e] at h; cases h
        | some r0 =>
          rw [e] at h; cases h
          show (itr T so r0 (mor T so th)).testBit to = true
          exact ih _ _ e
theorem far_min {T : Nat → Nat} {so to : Nat} : ∀ f th r, farN T so to f th = some r → ∀ r', (itr T so r' th).testBit to = true → r ≤ r' := by
  intro f
  induction f with
  | zero => intro th r h; cases h
  | succ f ih =>
    intro th r h r' hr
    simp only [farN] at h
    split at h
    · cases h; omega
    · rename_i q
      split at h
      · cases h
      · cases e : farN T so to f (mor T so th) with
        | none => rw [e] at h; cases h
        | some r0 =>
          rw [e] at h; cases h
          cases r' with
          | zero => exact absurd hr q
          | succ r' => have := ih _ _ e r' hr; show r0 + 1 ≤ r' + 1; omega
theorem far_none {T : Nat → Nat} {so to : Nat} (hs : so < 16) : ∀ f th, th < 16 → 16 ≤ th + f → farN T so to f th = none → ∀ r, ¬ (itr T so r th).testBit to = true := by
  intro f
  induction f with
  | zero => intro th h1 h2; omega
  | succ f ih =>
    intro th h1 h2 h r
    simp only [farN] at h
    split at h
    · cases h
    · rename_i q
      split at h
      · rename_i g
        have : itr T so r th = th := by
          induction r with
          | zero => rfl
          | succ r ihr => show itr T so r (mor T so th) = th; rw [g]; exact ihr
        rw [this]; exact q
      · rename_i g
        cases e : farN T so to f (mor T so th) with
        | some r0 => rw [e] at h; cases h
        | none =>
          have hge : th ≤ mor T so th := mor_ge T so th (T 0)
          have := ih (mor T so th) (moL_lt hs h1 _) (by omega) e
          cases r with
          | zero => exact q
          | succ r => exact this r
theorem itr_mono {T : Nat → Nat} {so so' : Nat} (h : ∀ i, so.testBit i = true → so'.testBit i = true) (th : Nat) : ∀ r i, (itr T so r th).testBit i = true → (itr T so' r th).testBit i = true := by
  intro r
  induction r with
  | zero => intro i q; exact q
  | succ r ih =>
    intro i q
    rw [itr_s] at q ⊢
    rcases (moL_bit _ _ _ _ _).mp q with q | ⟨e, e1, e2, e3, e4⟩
    · exact (moL_bit _ _ _ _ _).mpr (Or.inl (ih i q))
    · exact (moL_bit _ _ _ _ _).mpr (Or.inr ⟨e, e1, ih e e2, e3, h i e4⟩)
/-- whom the cart wakes that comes through these districts -/
def wkS (T : Nat → Nat) (w v X : Nat) : Nat := cntN (fun i => w.testBit i && (X.testBit (T (14 + i)) && decide (T (32 + i) < v))) (T 2)
theorem cnt_add {p q r : Nat → Bool} (h : ∀ i, bn (p i) ≤ bn (q i) + bn (r i)) (k : Nat) : cntN p k ≤ cntN q k + cntN r k := by
  induction k with
  | zero => exact Nat.le_refl _
  | succ k ih => have := h k; show cntN p k + bn (p k) ≤ cntN q k + bn (q k) + (cntN r k + bn (r k)); omega
theorem cnt_addE {p q r : Nat → Bool} (h : ∀ i, bn (p i) = bn (q i) + bn (r i)) (k : Nat) : cntN p k = cntN q k + cntN r k := by
  induction k with
  | zero => rfl
  | succ k ih => have := h k; show cntN p k + bn (p k) = cntN q k + bn (q k) + (cntN r k + bn (r k)); omega
theorem cnt_mono {p q : Nat → Bool} (h : ∀ i, p i = true → q i = true) (k : Nat) : cntN p k ≤ cntN q k := by
  induction k with
  | zero => exact Nat.le_refl _
  | succ k ih =>
    show cntN p k + bn (p k) ≤ cntN q k + bn (q k)
    cases e : p k with
    | false => have : bn false = 0 := rfl; omega
    | true => rw [h k e]; omega
theorem wkS_sub (T : Nat → Nat) (w v X k : Nat) : wkS T w v (X ||| 2 ^ k) ≤ wkS T w v X + wkS T w v (2 ^ k) := by
  refine cnt_add (fun i => ?_) _
  rw [Nat.testBit_or]
  cases w.testBit i <;> cases X.testBit (T (14 + i)) <;> cases (2 ^ k).testBit (T (14 + i)) <;> cases decide (T (32 + i) < v) <;> decide
theorem wkS_add {T : Nat → Nat} {w v X k : Nat} (h : X.testBit k = false) : wkS T w v (X ||| 2 ^ k) = wkS T w v X + wkS T w v (2 ^ k) := by
  refine cnt_addE (fun i => ?_) _
  rw [Nat.testBit_or]
  by_cases e : k = T (14 + i)
  · rw [← e, h]
    cases w.testBit i <;> cases (2 ^ k).testBit k <;> cases decide (T (32 + i) < v) <;> decide
  · rw [Nat.testBit_two_pow_of_ne e]
    cases w.testBit i <;> cases X.testBit (T (14 + i)) <;> cases decide (T (32 + i) < v) <;> decide
theorem wkS_mono {T : Nat → Nat} {w v X Y : Nat} (h : ∀ i, X.testBit i = true → Y.testBit i = true) : wkS T w v X ≤ wkS T w v Y := by
  refine cnt_mono (fun i q => ?_) _
  rw [Bool.and_eq_true, Bool.and_eq_true] at q ⊢
  exact ⟨q.1, h _ q.2.1, q.2.2⟩
theorem wcN_eq {T : Nat → Nat} (t2 : T 2 ≤ 6) (w v k : Nat) : wcN T w v k = 8 * wkS T w v (2 ^ k) := by
  unfold wcN wkB wkS
  rw [Nat.mul_comm]
  congr 1
  rw [← pop_mk _ (by omega)]
  congr 1
  refine bit_ext (k := 6) (and6 (mk6 _ t2)) (mk6 _ t2) (fun i hi => ?_)
  rw [Nat.testBit_and, mk_bit, mk_bit, Nat.testBit_two_pow]
  by_cases e : k = T (14 + i)
  · cases w.testBit i <;> cases decide (i < T 2) <;> simp [e]
  · have e2 : ¬ T (14 + i) = k := fun h => e h.symm
    cases w.testBit i <;> cases decide (i < T 2) <;> simp [e, e2]
def SP (T : Nat → Nat) (fr : Nat) : Nat → Nat → Nat → Prop
  | X, 0, e => X = 2 ^ fr ∧ e = fr
  | X, l + 1, k => ∃ X0 e, SP T fr X0 l e ∧ X = X0 ||| 2 ^ k ∧ X0.testBit k = false ∧ k < T 0 ∧ e < T 0 ∧ (T (6 + e)).testBit k = true
theorem SP_base {T : Nat → Nat} {fr : Nat} : SP T fr (2 ^ fr) 0 fr := ⟨rfl, rfl⟩
theorem SP_step {T : Nat → Nat} {fr X l e k : Nat} (h1 : SP T fr X l e) (h2 : X.testBit k = false) (h3 : k < T 0) (h4 : e < T 0) (h5 : (T (6 + e)).testBit k = true) : SP T fr (X ||| 2 ^ k) (l + 1) k := ⟨X, e, h1, rfl, h2, h3, h4, h5⟩
theorem SP_pre {T : Nat → Nat} {fr : Nat} : ∀ l X e, SP T fr X l e → ∀ k, X.testBit k = true → ∃ X' l', SP T fr X' l' k ∧ l' ≤ l ∧ ∀ i, X'.testBit i = true → X.testBit i = true := by
  intro l
  induction l with
  | zero =>
    intro X e h k hk
    obtain ⟨rfl, rfl⟩ := h
    rw [Nat.testBit_two_pow] at hk
    have : e = k := by simpa using hk
    subst this
    exact ⟨_, _, SP_base, by omega, fun i h => h⟩
  | succ l ih =>
    intro X k h j hj
    obtain ⟨X0, e, h1, rfl, h2, h3, h4, h5⟩ := h
    by_cases q : j = k
    · subst q
      exact ⟨_, _, SP_step h1 h2 h3 h4 h5, by omega, fun i h => h⟩
    · rw [Nat.testBit_or, Nat.testBit_two_pow_of_ne (fun h => q h.symm), Bool.or_false] at hj
      obtain ⟨X', l', a, b, c⟩ := ih X0 e h1 j hj
      exact ⟨X', l', a, by omega, fun i hi => by rw [Nat.testBit_or, c i hi]; rfl⟩
theorem popn_ins {X k : Nat} (h : X.testBit k = false) (n : Nat) : popn n (X ||| 2 ^ k) = popn n X + (if k < n then 1 else 0) := by
  induction n with
  | zero => rfl
  | succ n ih =>
    show popn n (X ||| 2 ^ k) + bn ((X ||| 2 ^ k).testBit n) = popn n X + bn (X.testBit n) + _
    rw [ih, Nat.testBit_or, Nat.testBit_two_pow]
    by_cases e : k = n
    · subst e; rw [h]; simp [bn]
    · by_cases l : k < n
      · simp [l, e, show k < n + 1 by omega]; omega
      · simp [l, e, show ¬ k < n + 1 by omega]
theorem popn_one {k n : Nat} (h : k < n) : popn n (2 ^ k) = 1 := by
  have := popn_ins (X := 0) (k := k) (Nat.zero_testBit k) n
  rw [Nat.zero_or, if_pos h] at this
  rw [this]
  have : popn n 0 = 0 := by
    clear h this
    induction n with
    | zero => rfl
    | succ n ih => show popn n 0 + bn (Nat.testBit 0 n) = 0; rw [ih, Nat.zero_testBit]; rfl
  omega
theorem SP_size {T : Nat → Nat} {fr : Nat} (hf : fr < T 0) : ∀ l X e, SP T fr X l e → popn (T 0) X = l + 1 ∧ e < T 0 := by
  intro l
  induction l with
  | zero => intro X e h; obtain ⟨rfl, rfl⟩ := h; exact ⟨popn_one hf, hf⟩
  | succ l ih =>
    intro X k h
    obtain ⟨X0, e, h1, rfl, h2, h3, h4, h5⟩ := h
    rw [popn_ins h2, if_pos h3, (ih X0 e h1).1]
    exact ⟨rfl, h3⟩
theorem SP_of {T : Nat → Nat} {fr so : Nat} (hso : so < 2 ^ T 0) (hfr : so.testBit fr = true) : ∀ r e, (itr T so r (2 ^ fr)).testBit e = true → ∃ X l, SP T fr X l e ∧ l ≤ r ∧ ∀ i, X.testBit i = true → so.testBit i = true := by
  have hlt : ∀ i, so.testBit i = true → i < T 0 := fun i hi => by
    by_cases q : i < T 0
    · exact q
    · rw [tb_small (Nat.lt_of_lt_of_le hso (Nat.pow_le_pow_right (by decide) (by omega)))] at hi; cases hi
  have hb : ∀ i, (2 ^ fr).testBit i = true → so.testBit i = true := fun i hi => by
    rw [Nat.testBit_two_pow] at hi
    have : fr = i := by simpa using hi
    rw [← this]; exact hfr
  intro r
  induction r with
  | zero =>
    intro e he
    have he2 : (2 ^ fr).testBit e = true := he
    rw [Nat.testBit_two_pow] at he2
    have : fr = e := by simpa using he2
    subst this
    exact ⟨_, _, SP_base, by omega, hb⟩
  | succ r ih =>
    intro e he
    rw [itr_s] at he
    rcases (moL_bit _ _ _ _ _).mp he with q | ⟨e', e1, e2, e3, e4⟩
    · obtain ⟨X, l, a, b, c⟩ := ih e q
      exact ⟨X, l, a, by omega, c⟩
    · obtain ⟨X, l, a, b, c⟩ := ih e' e2
      cases q : X.testBit e with
      | true =>
        obtain ⟨X', l', a', b', c'⟩ := SP_pre _ _ _ a e q
        exact ⟨X', l', a', by omega, fun i hi => c i (c' i hi)⟩
      | false =>
        refine ⟨_, _, SP_step a q (hlt e e4) e1 e3, by omega, fun i hi => ?_⟩
        rw [Nat.testBit_or, Bool.or_eq_true] at hi
        rcases hi with hi | hi
        · exact c i hi
        · rw [Nat.testBit_two_pow] at hi
          have : e = i := by simpa using hi
          rw [← this]; exact e4
/-! the class's rounds -/
theorem drvL_mono (T : Nat → Nat) (w v dd : Nat) (g : Nat → Nat) (k : Nat) : ∀ j, drvL T w v dd g k j ≤ g j := by
  induction k with
  | zero => intro j; exact Nat.le_refl _
  | succ k ih =>
    intro j
    simp only [drvL]
    split
    · unfold upN
      split
      · rename_i e; subst e; have := ih j; omega
      · exact ih j
    · exact ih j
theorem drvL_dec (T : Nat → Nat) (w v dd : Nat) (g : Nat → Nat) (k : Nat) (j : Nat) : drvL T w v dd g (k + 1) j ≤ drvL T w v dd g k j := by
  rw [drvL]
  split
  · unfold upN
    split
    · rename_i e; subst e; omega
    · exact Nat.le_refl _
  · exact Nat.le_refl _
theorem drvL_edge {T : Nat → Nat} {w v dd : Nat} {g : Nat → Nat} {k : Nat} (h : (T (6 + dd)).testBit k = true) : ∀ m, k < m → drvL T w v dd g m k ≤ g dd + 1 + wcN T w v k := by
  intro m
  induction m with
  | zero => intro h; exact absurd h (by omega)
  | succ m ih =>
    intro hm
    by_cases e : k = m
    · subst e
      have : drvL T w v dd g (k + 1) = upN (drvL T w v dd g k) k (min (drvL T w v dd g k k) (drvL T w v dd g k dd + 1 + wcN T w v k)) := by show (if _ then _ else _) = _; rw [if_pos h]
      rw [this, upN_s]
      have := drvL_mono T w v dd g k dd
      omega
    · exact Nat.le_trans (drvL_dec T w v dd g m k) (ih (by omega))
theorem drv_mono (T : Nat → Nat) (w v dd : Nat) (g : Nat → Nat) (j : Nat) : drv T w v dd g j ≤ g j := by
  unfold drv; split
  · exact drvL_mono _ _ _ _ _ _ _
  · exact Nat.le_refl _
theorem drv_edge {T : Nat → Nat} {w v dd : Nat} {g : Nat → Nat} (hg : ∀ j, g j ≤ 1000) {k : Nat} (hk : k < T 0) (h : (T (6 + dd)).testBit k = true) : drv T w v dd g k ≤ g dd + 1 + wcN T w v k := by
  unfold drv; split
  · exact drvL_edge h _ hk
  · have := hg k; omega
theorem rndL_mono (T : Nat → Nat) (w v : Nat) (g : Nat → Nat) (m j : Nat) : rndL T w v g m j ≤ g j := by
  induction m with
  | zero => exact Nat.le_refl _
  | succ m ih => exact Nat.le_trans (drv_mono _ _ _ _ _ _) ih
theorem rndL_edge {T : Nat → Nat} {w v : Nat} {g : Nat → Nat} (hg : ∀ j, g j ≤ 1000) {e k : Nat} (hk : k < T 0) (h : (T (6 + e)).testBit k = true) : ∀ m, e < m → rndL T w v g m k ≤ g e + 1 + wcN T w v k := by
  intro m
  induction m with
  | zero => intro h; exact absurd h (by omega)
  | succ m ih =>
    intro hm
    by_cases q : e = m
    · subst q
      have h1 := drv_edge (w := w) (v := v) (rndL_le (T := T) (w := w) (v := v) hg e) hk h
      have h2 := rndL_mono T w v g e e
      show drv T w v e (rndL T w v g e) k ≤ _
      omega
    · exact Nat.le_trans (drv_mono _ _ _ _ _ _) (ih (by omega))
theorem rnds_mono (T : Nat → Nat) (w v : Nat) (g : Nat → Nat) (r j : Nat) : rnds T w v g (r + 1) j ≤ rnds T w v g r j := rndL_mono _ _ _ _ _ _
theorem rnds_anti (T : Nat → Nat) (w v : Nat) (g : Nat → Nat) (j : Nat) : ∀ r s, s ≤ r → rnds T w v g r j ≤ rnds T w v g s j := by
  intro r
  induction r with
  | zero => intro s h; rw [show s = 0 by omega]; exact Nat.le_refl _
  | succ r ih =>
    intro s h
    by_cases e : s = r + 1
    · subst e; exact Nat.le_refl _
    · exact Nat.le_trans (rnds_mono _ _ _ _ _ _) (ih s (by omega))
theorem SP_cost {T : Nat → Nat} {w v fr : Nat} (t2 : T 2 ≤ 6) : ∀ l X e, SP T fr X l e → rnds T w v (crt0 T w v fr) l e ≤ 8 * wkS T w v X + l := by
  intro l
  induction l with
  | zero =>
    intro X e h
    obtain ⟨rfl, rfl⟩ := h
    show crt0 T w v e e ≤ _
    unfold crt0
    rw [upN_s, wcN_eq t2]
    omega
  | succ l ih =>
    intro X k h
    obtain ⟨X0, e, h1, rfl, h2, h3, h4, h5⟩ := h
    have a := rndL_edge (w := w) (v := v) (rnds_le (T := T) (w := w) (v := v) (crt0_le T w v fr) l) h3 h5 (T 0) h4
    have i1 := ih X0 e h1
    rw [wcN_eq t2] at a
    rw [wkS_add h2]
    show rndL T w v (rnds T w v (crt0 T w v fr) l) (T 0) k ≤ _
    omega
theorem cart_le {T : Nat → Nat} {w v fr so r to : Nat} (t2 : T 2 ≤ 6) (hf : fr < T 0) (hso : so < 2 ^ T 0) (hfr : so.testBit fr = true) (h : (itr T so r (2 ^ fr)).testBit to = true) : crtG T w v fr to ≤ 8 * wkS T w v so + r := by
  obtain ⟨X, l, a, b, c⟩ := SP_of hso hfr r to h
  have h1 := SP_cost (w := w) (v := v) t2 _ _ _ a
  have h2 := (SP_size hf _ _ _ a).1
  have h3 := popn_le (T 0) X
  have h4 := rnds_anti T w v (crt0 T w v fr) to (T 0 - 1) l (by omega)
  have h5 := wkS_mono (T := T) (w := w) (v := v) c
  unfold crtG
  omega
def cI (T : Nat → Nat) (w v fr : Nat) (g : Nat → Nat) : Prop := ∀ e, e < T 0 → g e < 1000 → ∃ so r, so < 2 ^ T 0 ∧ so.testBit fr = true ∧ so.testBit e = true ∧ (itr T so r (2 ^ fr)).testBit e = true ∧ 8 * wkS T w v so + r ≤ g e
theorem cI_rel {T : Nat → Nat} {w v fr : Nat} {g : Nat → Nat} (t2 : T 2 ≤ 6) (h : cI T w v fr g) {e k : Nat} (he : e < T 0) (hk : k < T 0) (hed : (T (6 + e)).testBit k = true) : cI T w v fr (upN g k (min (g k) (g e + 1 + wcN T w v k))) := by
  intro j hj hlt
  by_cases q : j = k
  · subst q
    rw [upN_s] at hlt ⊢
    by_cases c : g j ≤ g e + 1 + wcN T w v j
    · rw [Nat.min_eq_left c] at hlt ⊢
      exact h j hj hlt
    · rw [Nat.min_eq_right (by omega)] at hlt ⊢
      obtain ⟨so, r, a1, a2, a3, a4, a5⟩ := h e he (by omega)
      have hsub : ∀ i, so.testBit i = true → (so ||| 2 ^ j).testBit i = true := fun i hi => by rw [Nat.testBit_or, hi]; rfl
      have hjj : (so ||| 2 ^ j).testBit j = true := by rw [Nat.testBit_or, Nat.testBit_two_pow_self]; simp
      refine ⟨so ||| 2 ^ j, r + 1, Nat.or_lt_two_pow a1 (Nat.pow_lt_pow_right (by decide) hj), hsub _ a2, hjj, ?_, ?_⟩
      · rw [itr_s]
        exact (moL_bit _ _ _ _ _).mpr (Or.inr ⟨e, he, itr_mono hsub _ _ _ a4, hed, hjj⟩)
      · have := wkS_sub T w v so j
        rw [wcN_eq t2]
        omega
  · rw [upN_n _ _ q] at hlt ⊢
    exact h j hj hlt
theorem cI_drv {T : Nat → Nat} {w v fr : Nat} {g : Nat → Nat} (t2 : T 2 ≤ 6) (h : cI T w v fr g) {e : Nat} (he : e < T 0) : cI T w v fr (drv T w v e g) := by
  unfold drv
  split
  · have key : ∀ m, m ≤ T 0 → cI T w v fr (drvL T w v e g m) := by
      intro m
      induction m with
      | zero => intro _; exact h
      | succ m ih =>
        intro hm
        show cI T w v fr (if _ then _ else _)
        split
        · rename_i q; exact cI_rel t2 (ih (by omega)) he (by omega) q
        · exact ih (by omega)
    exact key _ (Nat.le_refl _)
  · exact h
theorem cI_rnds {T : Nat → Nat} {w v fr : Nat} (t2 : T 2 ≤ 6) (hf : fr < T 0) (r : Nat) : cI T w v fr (rnds T w v (crt0 T w v fr) r) := by
  induction r with
  | zero =>
    intro e he hlt
    have hlt2 : crt0 T w v fr e < 1000 := hlt
    show ∃ so r, _ ∧ _ ∧ _ ∧ _ ∧ _ ≤ crt0 T w v fr e
    by_cases q : e = fr
    · subst q
      refine ⟨2 ^ e, 0, Nat.pow_lt_pow_right (by decide) he, Nat.testBit_two_pow_self, Nat.testBit_two_pow_self, Nat.testBit_two_pow_self, ?_⟩
      unfold crt0
      rw [upN_s, wcN_eq t2]
      omega
    · unfold crt0 at hlt2
      rw [upN_n _ _ q] at hlt2
      omega
  | succ r ih =>
    have key : ∀ m, m ≤ T 0 → cI T w v fr (rndL T w v (rnds T w v (crt0 T w v fr) r) m) := by
      intro m
      induction m with
      | zero => intro _; exact ih
      | succ m ihm => intro hm; exact cI_drv t2 (ihm (by omega)) (by omega)
    exact key _ (Nat.le_refl _)
/-- the reference's least -/
def crM (T : Nat → Nat) (w v fr to : Nat) : Nat → Option Nat
  | 0 => none
  | c + 1 => if c.testBit fr = true ∧ c.testBit to = true then
      match farN T c to 17 (2 ^ fr) with
      | none => crM T w v fr to c
      | some r => match crM T w v fr to c with
        | none => some (8 * wkS T w v c + r)
        | some f => if 8 * wkS T w v c + r < f then some (8 * wkS T w v c + r) else some f
    else crM T w v fr to c
theorem crM_le {T : Nat → Nat} {w v fr to : Nat} : ∀ N c r, c < N → c.testBit fr = true → c.testBit to = true → farN T c to 17 (2 ^ fr) = some r → ∃ m, crM T w v fr to N = some m ∧ m ≤ 8 * wkS T w v c + r := by
  intro N
  induction N with
  | zero => intro c r h; exact absurd h (by omega)
  | succ N ih =>
    intro c r h h1 h2 h3
    by_cases e : c = N
    · subst e
      simp only [crM]
      rw [if_pos ⟨h1, h2⟩, h3]
      dsimp only
      cases q : crM T w v fr to c with
      | none => exact ⟨_, rfl, by omega⟩
      | some f =>
        dsimp only
        split
        · exact ⟨_, rfl, by omega⟩
        · exact ⟨_, rfl, by omega⟩
    · obtain ⟨m, a, b⟩ := ih c r (by omega) h1 h2 h3
      simp only [crM]
      rw [a]
      split
      · cases farN T N to 17 (2 ^ fr) with
        | none => exact ⟨m, rfl, b⟩
        | some r2 =>
          dsimp only
          split
          · exact ⟨_, rfl, by omega⟩
          · exact ⟨m, rfl, b⟩
      · exact ⟨m, rfl, b⟩
theorem crM_mem {T : Nat → Nat} {w v fr to : Nat} : ∀ N m, crM T w v fr to N = some m → ∃ c r, c < N ∧ c.testBit fr = true ∧ c.testBit to = true ∧ farN T c to 17 (2 ^ fr) = some r ∧ m = 8 * wkS T w v c + r := by
  intro N
  induction N with
  | zero => intro m h; cases h
  | succ N ih =>
    intro m h
    have up : crM T w v fr to N = some m → ∃ c r, c < N + 1 ∧ c.testBit fr = true ∧ c.testBit to = true ∧ farN T c to 17 (2 ^ fr) = some r ∧ m = 8 * wkS T w v c + r := fun q => by
      obtain ⟨c, r, a, b⟩ := ih m q
      exact ⟨c, r, by omega, b⟩
    simp only [crM] at h
    split at h
    · rename_i g
      cases q : farN T N to 17 (2 ^ fr) with
      | none => rw [q] at h; exact up h
      | some r =>
        rw [q] at h
        dsimp only at h
        cases q2 : crM T w v fr to N with
        | none => rw [q2] at h; cases h; exact ⟨N, r, by omega, g.1, g.2, q, rfl⟩
        | some f =>
          rw [q2] at h
          dsimp only at h
          split at h
          · cases h; exact ⟨N, r, by omega, g.1, g.2, q, rfl⟩
          · cases h; exact up q2
    · exact up h
theorem wkS_le (T : Nat → Nat) (w v X : Nat) : wkS T w v X ≤ T 2 := cntN_le _ _
theorem cart_eq {T : Nat → Nat} {w v fr to : Nat} (ht : okT T) (hf : fr < T 0) (hto : to < T 0) : (match crM T w v fr to (2 ^ T 0) with | none => ¬ crtG T w v fr to < 1000 | some m => m = crtG T w v fr to ∧ m < 1000) := by
  obtain ⟨⟨t0, t0b⟩, t1, t2, t3, tD, tC, tN⟩ := ht
  have p16 : 2 ^ T 0 ≤ 2 ^ 4 := Nat.pow_le_pow_right (by decide) t0b
  have f16 : 2 ^ fr < 2 ^ 4 := Nat.pow_lt_pow_right (by decide) (by omega)
  have f1 : 1 ≤ 2 ^ fr := Nat.pow_pos (by decide)
  -- the class's own is among the reference's
  have hB : crtG T w v fr to < 1000 → ∃ m, crM T w v fr to (2 ^ T 0) = some m ∧ m ≤ crtG T w v fr to := by
    intro hlt
    obtain ⟨so, r, a1, a2, a3, a4, a5⟩ := cI_rnds (w := w) (v := v) t2 hf (T 0 - 1) to hto hlt
    cases q : farN T so to 17 (2 ^ fr) with
    | none => exact absurd a4 (far_none (by omega) 17 (2 ^ fr) f16 (by omega) q r)
    | some r0 =>
      have := far_min _ _ _ q r a4
      obtain ⟨m, b1, b2⟩ := crM_le (w := w) (v := v) (2 ^ T 0) so r0 a1 a2 a3 q
      refine ⟨m, b1, ?_⟩
      have a5' : 8 * wkS T w v so + r ≤ crtG T w v fr to := a5
      omega
  cases q : crM T w v fr to (2 ^ T 0) with
  | none =>
    intro hlt
    obtain ⟨m, b, _⟩ := hB hlt
    rw [q] at b; cases b
  | some m =>
    obtain ⟨c, r, a1, a2, a3, a4, a5⟩ := crM_mem _ _ q
    have h1 := cart_le (w := w) (v := v) t2 hf a1 a2 (far_some _ _ _ a4)
    have h2 := wkS_le T w v c
    -- how far: less than four
    obtain ⟨X, l, sp, sl, sx⟩ := SP_of a1 a2 r to (far_some _ _ _ a4)
    have hsz := (SP_size hf _ _ _ sp).1
    have hpl := popn_le (T 0) X
    have hr4 : r ≤ l := by
      refine far_min _ _ _ a4 l ?_
      clear hsz hpl sl
      -- a way is a walk
      have key : ∀ l X e, SP T fr X l e → (∀ i, X.testBit i = true → c.testBit i = true) → (itr T c l (2 ^ fr)).testBit e = true := by
        intro l
        induction l with
        | zero => intro X e h _; obtain ⟨rfl, rfl⟩ := h; exact Nat.testBit_two_pow_self
        | succ l ih =>
          intro X k h hs
          obtain ⟨X0, e, g1, rfl, g2, g3, g4, g5⟩ := h
          rw [itr_s]
          refine (moL_bit _ _ _ _ _).mpr (Or.inr ⟨e, g4, ih X0 e g1 (fun i hi => hs i (by rw [Nat.testBit_or, hi]; rfl)), g5, hs k (by rw [Nat.testBit_or, Nat.testBit_two_pow_self]; simp)⟩)
      exact key _ _ _ sp sx
    have hlt : crtG T w v fr to < 1000 := by omega
    obtain ⟨m', b1, b2⟩ := hB hlt
    rw [q] at b1; cases b1
    exact ⟨by omega, by omega⟩

end M26
