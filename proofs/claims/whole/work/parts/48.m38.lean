section M38
variable {Λ : PL} {d n : Nat} {M : HM} {Rf : HR} {Lg : HL}

/-- nothing but the search's own has changed -/
def frS (M M' : HM) : Prop := (∀ z, z ≠ 96 → z ≠ 100 → z ≠ 106 → z ≠ 107 → z ≠ 108 → M' z = M z) ∧ ∀ j, j ≠ 25 → M' 96 j = M 96 j
theorem frS.refl (M : HM) : frS M M := ⟨fun _ _ _ _ _ _ => rfl, fun _ _ => rfl⟩
theorem frS.trans {A B C : HM} (h : frS A B) (g : frS B C) : frS A C := ⟨fun z a b c e f => (g.1 z a b c e f).trans (h.1 z a b c e f), fun j a => (g.2 j a).trans (h.2 j a)⟩
theorem frS.st {M : HM} {z k : Nat} (v : Int32) (h : z = 100 ∨ z = 106 ∨ z = 107 ∨ z = 108) : frS M (st2 M z k v) := ⟨fun y _ b c e f => st2_ne _ _ _ (by omega), fun j _ => by rw [st2_ne _ _ _ (by omega)]⟩
theorem frS.st25 {M : HM} (v : Int32) : frS M (st2 M 96 25 v) := ⟨fun y a _ _ _ _ => st2_ne _ _ _ a, fun j a => by rw [st2_ne2 _ _ (by omega)]⟩
theorem frS.row {M : HM} {z N : Nat} {f : Nat → Int32} (h : z = 100 ∨ z = 106 ∨ z = 107 ∨ z = 108) : frS M (rowM M z N f) := ⟨fun y _ b c e g => by funext j; exact rowM_ne _ _ _ (by omega) j, fun j _ => rowM_ne _ _ _ (by omega) j⟩
theorem frS.blk {M : HM} {z o N : Nat} {f : Nat → Int32} (h : z = 100 ∨ z = 106 ∨ z = 107 ∨ z = 108) : frS M (blkM M z o N f) := ⟨fun y _ b c e g => by funext j; exact blkM_ne _ _ _ _ (by omega) j, fun j _ => blkM_ne _ _ _ _ (by omega) j⟩
/-- fewest and best -/
def FB (M : HM) (nn : Nat) (st : SkT) : Prop := match st with
  | none => M 96 25 = -9
  | some (f, L) => M 96 25 = nI f ∧ f < 1000 ∧ ∀ i, i < nn → M 108 i = nI (L.getD i 0)
theorem FB.kept {M M' : HM} {nn : Nat} {st : SkT} (h : FB M nn st) (e1 : M' 96 25 = M 96 25) (e2 : M' 108 = M 108) : FB M' nn st := by
  cases st with
  | none => exact e1.trans h
  | some v => exact ⟨e1.trans h.1, h.2.1, fun i hi => by rw [e2]; exact h.2.2 i hi⟩
/-- the rows of the search below depth e -/
def TA (M : HM) (e : Nat) (pre : List Nat) (Ss : Nat → Nat → Nat) : Prop := (∀ i, i < e → M 107 i = nI (pre.getD i 0)) ∧ ∀ i, i ≤ e → ∀ j, j < 21 → M 106 (21 * i + j) = nI (Ss i j)
def SI (M0 M : HM) (T : Nat → Nat) (e nn : Nat) (pre : List Nat) (Ss : Nat → Nat → Nat) (st : SkT) : Prop := frS M0 M ∧ mR M 100 21 (Ss e) ∧ FB M nn st ∧ TA M e pre Ss
theorem lm_add1 (c : Nat) : lm c + 1 = nI c := by
  unfold lm
  rw [Int32.sub_add_cancel]
theorem lm_lt {c : Nat} (h : c < 1000) : lm c < 0 ↔ c = 0 := by
  have h0 : (0 : Int32).toInt = 0 := by decide
  rw [Int32.lt_iff_toInt_lt, lm_int c h, h0]
  omega

end M38
