section M21
variable {Λ : PL} {d n : Nat} {M : HM} {Rf : HR} {Lg : HL}

theorem lou_iff (T S : Nat → Nat) (hd b0 dd v : Nat) (k : Nat) : lou T S hd b0 dd k ≤ v ↔ b0 ≤ v ∧ ∀ i, i < k → ¬ ((hd.testBit i = true ∧ T (38 + i) = dd ∧ T (44 + i) = S 1) ∧ v < T (50 + i)) := by
  induction k with
  | zero => exact ⟨fun h => ⟨h, fun i hi => absurd hi (by omega)⟩, fun h => h.1⟩
  | succ k ih =>
    show (if _ then _ else _) ≤ v ↔ _
    by_cases g : (hd.testBit k = true ∧ T (38 + k) = dd ∧ T (44 + k) = S 1) ∧ lou T S hd b0 dd k < T (50 + k)
    · rw [if_pos g]
      constructor
      · intro h
        have h2 := ih.mp (by omega)
        refine ⟨h2.1, fun i hi q => ?_⟩
        by_cases e : i = k
        · subst e; omega
        · exact h2.2 i (by omega) q
      · intro h
        have := h.2 k (by omega)
        have h3 : ¬ v < T (50 + k) := fun q => this ⟨g.1, q⟩
        omega
    · rw [if_neg g, ih]
      constructor
      · intro h
        refine ⟨h.1, fun i hi q => ?_⟩
        by_cases e : i = k
        · subst e
          have h4 : lou T S hd b0 dd i ≤ v := ih.mpr h
          exact g ⟨q.1, by omega⟩
        · exact h.2 i (by omega) q
      · intro h
        exact ⟨h.1, fun i hi => h.2 i (by omega)⟩
theorem wkP_iff (T : Nat → Nat) (hd i : Nat) (k : Nat) : wkP T hd i k = true ↔ ∃ j, j < k ∧ hd.testBit j = true ∧ T (14 + i) = T (38 + j) ∧ T (32 + i) < T (50 + j) := by
  induction k with
  | zero => exact ⟨fun h => absurd h (by simp [wkP]), fun ⟨j, h, _⟩ => absurd h (by omega)⟩
  | succ k ih =>
    show (wkP T hd i k || (hd.testBit k && (T (14 + i) == T (38 + k) && decide (T (32 + i) < T (50 + k))))) = true ↔ _
    rw [Bool.or_eq_true, ih]
    constructor
    · rintro (⟨j, h, r⟩ | h)
      · exact ⟨j, by omega, r⟩
      · simp at h
        exact ⟨k, by omega, h.1, h.2.1, h.2.2⟩
    · rintro ⟨j, h, r1, r2, r3⟩
      by_cases e : j = k
      · subst e; right; simp [r1, r2, r3]
      · left; exact ⟨j, by omega, r1, r2, r3⟩
theorem lieL_congr {T : Nat → Nat} {cd cd' : Nat → Bool} : ∀ k, (∀ i, i < k → cd i = cd' i) → lieL T cd k = lieL T cd' k := by
  intro k
  induction k with
  | zero => intro _; rfl
  | succ k ih =>
    intro h
    show lieL T cd k ||| (if (cd k && _) = true then 2 ^ k else 0) = lieL T cd' k ||| (if (cd' k && _) = true then 2 ^ k else 0)
    rw [ih (fun i hi => h i (by omega)), h k (by omega)]
theorem lyB_congr {T : Nat → Nat} {cd cd' : Nat → Bool} {N : Nat} (h : ∀ i, i < N → cd i = cd' i) {c : Nat} (hc : c < N) : lyB T cd c = lyB T cd' c := by
  unfold lyB
  rw [h c hc, lieL_congr c (fun i hi => h i (by omega))]
theorem lyB_cd {T : Nat → Nat} {cd : Nat → Bool} {c : Nat} (h : lyB T cd c = true) : cd c = true := by
  unfold lyB at h; simp at h; exact h.1
theorem mcd_eq {T S : Nat → Nat} {nv ab : Int32} (h : ∀ i, i < T 2 → (nI i = nv ↔ nI i = ab)) {i : Nat} (hi : i < T 2) : mcd T S nv (calN T S) i = cdA T S ab i := by
  unfold mcd cdA cou calN
  rw [mk_bit, decide_eq_decide.mpr (h i hi)]
  simp [hi]
  cases (S (9 + i)).testBit (S 1) <;> cases (T (26 + i)).testBit (S 1) <;> cases decide (nI i = ab) <;> cases decide (0 < S (3 + i)) <;> rfl
theorem lou_wk {T S : Nat → Nat} {hd b0 c : Nat} : decide (lou T S hd b0 (T (14 + c)) (T 3) ≤ T (32 + c)) = (decide (b0 ≤ T (32 + c)) && !wkP T (hd &&& nsO T (S 1)) c (T 3)) := by
  rw [Bool.eq_iff_iff]
  rw [decide_eq_true_iff, lou_iff, Bool.and_eq_true, decide_eq_true_iff, Bool.not_eq_true', ← Bool.not_eq_true, wkP_iff]
  constructor
  · intro h
    refine ⟨h.1, fun ⟨j, hj, r1, r2, r3⟩ => ?_⟩
    rw [Nat.testBit_and] at r1
    unfold nsO at r1
    rw [mk_bit] at r1
    simp at r1
    exact h.2 j hj ⟨⟨r1.1, r2.symm, r1.2.2⟩, r3⟩
  · intro h
    refine ⟨h.1, fun j hj q => h.2 ⟨j, hj, ?_, q.1.2.1.symm, q.2⟩⟩
    rw [Nat.testBit_and]
    unfold nsO
    rw [mk_bit]
    simp [hj, q.1.1, q.1.2.2]
theorem mSl_bit {T S : Nat → Nat} {hd dl : Nat} {nv sh di ab : Int32} (h : ∀ i, i < T 2 → (nI i = nv ↔ nI i = ab)) (c : Nat) : (mSl T S hd nv sh di dl (calN T S)).testBit c = (decide (c < T 2) && (lyB T (cdA T S ab) c && (!decide (nI c = sh) && (decide (drB di dl (T (14 + c)) ≤ T (32 + c)) && !wkP T (hd &&& nsO T (S 1)) c (T 3))))) := by
  unfold mSl
  rw [mk_bit]
  by_cases hc : c < T 2
  · unfold slB
    rw [lou_wk, lyB_congr (cd' := cdA T S ab) (fun i hi => mcd_eq h hi) hc]
  · simp [hc]
theorem wA_bit {T S : Nat → Nat} {ab : Int32} (c : Nat) : (wA T S ab).testBit c = (decide (c < T 2) && (lyB T (cdA T S ab) c && !wkP T (nsO T (S 1)) c (T 3))) := by
  unfold wA slp lie rst idl wkA
  rw [Nat.testBit_and, dif_bit, lieL_mk, mk_bit, mk_bit, mk_bit]
  by_cases hc : c < T 2
  · simp only [hc, decide_true, Bool.true_and]
    cases e : lyB T (cdA T S ab) c with
    | false => rfl
    | true =>
      have h := lyB_cd e
      unfold cdA cou at h
      simp at h
      simp [h.1.1.2]
  · simp [hc]
theorem ns64 {T : Nat → Nat} (h : T 3 ≤ 6) (k : Nat) : nsO T k < 64 := mk6 _ h
theorem and63 {a : Nat} (h : a < 64) : 63 &&& a = a := by
  rw [Nat.and_comm, show 63 = 2 ^ 6 - 1 from rfl, Nat.and_two_pow_sub_one_eq_mod]
  exact Nat.mod_eq_of_lt h
theorem ne9 {c : Nat} (h : c < 1000) : ¬ nI c = -9 := by
  have := opI_ne h
  exact this
theorem drB9 {dl c : Nat} (h : c < 1000) : drB (-9) dl c = 0 := if_neg (fun q => ne9 h q.symm)
theorem mSl_wA {T S : Nat → Nat} {dl : Nat} {nv ab : Int32} (ht : okT T) (h : ∀ i, i < T 2 → (nI i = nv ↔ nI i = ab)) : mSl T S 63 nv (-9) (-9) dl (calN T S) = wA T S ab := by
  obtain ⟨⟨t0, t0b⟩, t1, t2, t3, tD, tC, tN⟩ := ht
  refine bit_ext (k := 6) (mSl6 t2) (wA6 t2) (fun c hc => ?_)
  rw [mSl_bit h, wA_bit, and63 (ns64 t3 _)]
  by_cases hc2 : c < T 2
  · have := tC c hc2
    rw [drB9 (by omega)]
    simp [hc2, ne9 (show c < 1000 by omega)]
  · simp [hc2]
theorem mSl_1 {T S : Nat → Nat} {dl : Nat} (ht : okT T) : mSl T S 63 (-9) (-9) (-9) dl (calN T S) = wA T S (-1) := mSl_wA ht (fun i hi => by
  have t2 := ht.2.2.1
  constructor
  · intro h; exact absurd h (ne9 (by omega))
  · intro h
    have h2 : (nI i).toInt = (-1 : Int32).toInt := congrArg Int32.toInt h
    rw [nI_toInt (by omega)] at h2
    have : (-1 : Int32).toInt = -1 := by decide
    omega)
theorem n1i {T : Nat → Nat} (ht : okT T) : ∀ i, i < T 2 → (nI i = (-9 : Int32) ↔ nI i = (-1 : Int32)) := by
  intro i hi
  have t2 := ht.2.2.1
  constructor
  · intro h; exact absurd h (ne9 (by omega))
  · intro h
    have h2 : (nI i).toInt = (-1 : Int32).toInt := congrArg Int32.toInt h
    rw [nI_toInt (by omega)] at h2
    have : (-1 : Int32).toInt = -1 := by decide
    omega
/-- a drum -/
theorem mSl_dr {T S : Nat → Nat} {dd l : Nat} (ht : okT T) (hd : dd < T 0) (hl : l < 1000) : mSl T S 63 (-9) (-9) (nI dd) l (calN T S) = dif (wA T S (-1)) (wkB T dd l) := by
  have hn := n1i ht
  obtain ⟨⟨t0, t0b⟩, t1, t2, t3, tD, tC, tN⟩ := ht
  refine bit_ext (k := 6) (mSl6 t2) (dif6 (wA6 t2)) (fun c hc => ?_)
  rw [mSl_bit hn, dif_bit, wA_bit, and63 (ns64 t3 _)]
  unfold wkB
  rw [mk_bit]
  by_cases hc2 : c < T 2
  · have := tC c hc2
    have e : decide (drB (nI dd) l (T (14 + c)) ≤ T (32 + c)) = !(T (14 + c) == dd && decide (T (32 + c) < l)) := by
      unfold drB
      by_cases q : T (14 + c) = dd
      · rw [if_pos (by rw [q])]
        simp [q, ← decide_not]
      · rw [if_neg (fun h => q ((nI_eq (by omega) (by omega)).mp h).symm)]
        simp [q]
    rw [e]
    simp [hc2, ne9 (show c < 1000 by omega), Bool.and_comm, Bool.and_assoc, Bool.and_left_comm]
  · simp [hc2]
/-- a sham -/
theorem mSl_sh {T S : Nat → Nat} {dl x : Nat} (ht : okT T) (hx : x < 6) : mSl T S 63 (-9) (nI x) (-9) dl (calN T S) = dif (wA T S (-1)) (2 ^ x) := by
  have hn := n1i ht
  obtain ⟨⟨t0, t0b⟩, t1, t2, t3, tD, tC, tN⟩ := ht
  refine bit_ext (k := 6) (mSl6 t2) (dif6 (wA6 t2)) (fun c hc => ?_)
  rw [mSl_bit hn, dif_bit, wA_bit, and63 (ns64 t3 _), Nat.testBit_two_pow]
  by_cases hc2 : c < T 2
  · have := tC c hc2
    rw [drB9 (by omega)]
    have e : decide (nI c = nI x) = decide (x = c) := decide_eq_decide.mpr ⟨fun h => ((nI_eq (by omega) (by omega)).mp h).symm, fun h => by rw [h]⟩
    rw [e]
    simp [hc2, Bool.and_comm, Bool.and_assoc, Bool.and_left_comm]
  · simp [hc2]
/-- some of the noises -/
theorem mSl_od {T S : Nat → Nat} {dl k : Nat} (ht : okT T) (hk : dif k (nsO T (S 1)) = 0) : mSl T S k (-9) (-9) (-9) dl (calN T S) = dif (lie T (cdA T S (-1))) (wkA T k) := by
  have hn := n1i ht
  obtain ⟨⟨t0, t0b⟩, t1, t2, t3, tD, tC, tN⟩ := ht
  refine bit_ext (k := 6) (mSl6 t2) (dif6 (lieL6 T _ t2)) (fun c hc => ?_)
  have e : k &&& nsO T (S 1) = k := by
    apply Nat.eq_of_testBit_eq
    intro i
    rw [Nat.testBit_and]
    cases q : k.testBit i with
    | false => rfl
    | true => rw [dif_sub hk i q]; rfl
  rw [mSl_bit hn, dif_bit, e]
  unfold lie wkA
  rw [lieL_mk, mk_bit, mk_bit]
  by_cases hc2 : c < T 2
  · have := tC c hc2
    rw [drB9 (by omega)]
    simp [hc2, ne9 (show c < 1000 by omega)]
  · simp [hc2]

end M21
