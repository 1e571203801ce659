section M44
variable {M M' : HM} {Rf : HR} {t b : Nat} {T S : Nat → Nat} {lat pk : Nat} {P I : Nat → Nat → Nat} {ik : Nat → Bool} {cn tl : Nat} {ch cm tx : Nat → Nat}
theorem okS.up {C b' : Nat} (h : okS S C b) (hb : b ≤ b') : okS S C b' := ⟨Nat.le_trans h.1 hb, h.2.1, Nat.le_trans h.2.2.1 hb, fun i hi => ⟨(h.2.2.2 i hi).1, (h.2.2.2 i hi).2.1, Nat.le_trans (h.2.2.2 i hi).2.2 hb⟩⟩
/-! what the class holds, what the reference holds, by one state: the city T, the hours S, the past P (newest first, pk of them), the images I, the counts, the text -/
def pasC (M : HM) (C b lat pk : Nat) (P : Nat → Nat → Nat) : Prop := lat < 10 ∧ pk ≤ 10 ∧ M 0 6 = nI lat ∧ M 0 7 = nI pk ∧ ∀ i, i < pk → nwS M (48 + 4 * ((lat + 10 - i) % 10)) (P i) C ∧ okS (P i) C b
def imgC (M : HM) (C b : Nat) (I : Nat → Nat → Nat) (ik : Nat → Bool) : Prop := (∀ i, i < 2 → M 38 i = nI (bn (ik i))) ∧ ∀ i, i < 2 → ik i = true → nwS M (88 + 4 * i) (I i) C ∧ okS (I i) C b
def ctrC (M : HM) (cn : Nat) (ch cm : Nat → Nat) : Prop := M 0 12 = nI cn ∧ cn ≤ 6 ∧ ∀ i, i < cn → M 39 i = nI (ch i) ∧ ch i ≤ 20 ∧ M 40 i = nI (cm i) ∧ cm i ≤ 6
def IC (M : HM) (Rf : HR) (t b : Nat) (T S : Nat → Nat) (lat pk : Nat) (P I : Nat → Nat → Nat) (ik : Nat → Bool) (cn : Nat) (ch cm : Nat → Nat) (tl : Nat) (tx : Nat → Nat) : Prop := XB M Rf 109 t T S b ∧ Rf 0 2 = some (20 - t) ∧ pasC M (T 2) b lat pk P ∧ imgC M (T 2) b I ik ∧ ctrC M cn ch cm ∧ txM M tl tx
def pasN (M : HM) (pk : Nat) (P : Nat → Nat → Nat) : Prop := M 96 7 = nI pk ∧ ∀ i, i < pk → ∀ k, k < 21 → M 101 (21 * (pk - 1 - i) + k) = nI (P i k)
def imgN (M : HM) (I : Nat → Nat → Nat) (ik : Nat → Bool) : Prop := (∀ i, i < 2 → M 103 i = nI (bn (ik i))) ∧ ∀ i, i < 2 → ik i = true → ∀ k, k < 21 → M 102 (21 * i + k) = nI (I i k)
def ctrN (M : HM) (cn : Nat) (ch cm : Nat → Nat) : Prop := M 96 11 = nI cn ∧ ∀ i, i < cn → M 104 i = nI (8 * ch i + cm i)
def MFX (M : HM) : Prop := ∃ dl, MF M 63 (-9) (-9) (-9) dl
def IM (M : HM) (Rf : HR) (b : Nat) (T S : Nat → Nat) (pk : Nat) (P I : Nat → Nat → Nat) (ik : Nat → Bool) (cn : Nat) (ch cm : Nat → Nat) (tl : Nat) (tx : Nat → Nat) : Prop := MB M Rf 109 T S b ∧ MFX M ∧ pasN M pk P ∧ imgN M I ik ∧ ctrN M cn ch cm ∧ txN M tl tx
theorem IC.up {b' : Nat} (h : IC M Rf t b T S lat pk P I ik cn ch cm tl tx) (hb : b ≤ b') (hb2 : b' ≤ 1000) : IC M Rf t b' T S lat pk P I ik cn ch cm tl tx := by
  obtain ⟨⟨a1, a2, a3, a4, a5, a6, a7, a8, a9⟩, h2, ⟨p1, p2, p3, p4, p5⟩, ⟨i1, i2⟩, h5, h6⟩ := h
  exact ⟨⟨a1, a2, a3, a4, a5, a6, a7, a8.up hb, hb2⟩, h2, ⟨p1, p2, p3, p4, fun i hi => ⟨(p5 i hi).1, (p5 i hi).2.up hb⟩⟩, ⟨i1, fun i hi hk => ⟨(i2 i hi hk).1, (i2 i hi hk).2.up hb⟩⟩, h5, h6⟩
theorem IM.up {b' : Nat} (h : IM M Rf b T S pk P I ik cn ch cm tl tx) (hb : b ≤ b') (hb2 : b' ≤ 1000) : IM M Rf b' T S pk P I ik cn ch cm tl tx := by
  obtain ⟨⟨a1, a2, a3, a4, a5, a6, a7⟩, h2⟩ := h
  exact ⟨⟨a1, a2, a3, a4, a5, a6.up hb, by omega⟩, h2⟩
theorem pasC.kept {C : Nat} (h : pasC M C b lat pk P) (e0 : ∀ j, j = 6 ∨ j = 7 → M' 0 j = M 0 j) (e : ∀ z, 48 ≤ z → z < 88 → M' z = M z) : pasC M' C b lat pk P := by
  obtain ⟨p1, p2, p3, p4, p5⟩ := h
  exact ⟨p1, p2, by rw [e0 6 (by omega)]; exact p3, by rw [e0 7 (by omega)]; exact p4, fun i hi => ⟨(p5 i hi).1.kept (fun z g1 g2 => e z (by omega) (by omega)), (p5 i hi).2⟩⟩
theorem imgC.kept {C : Nat} (h : imgC M C b I ik) (e0 : M' 38 = M 38) (e : ∀ z, 88 ≤ z → z < 96 → M' z = M z) : imgC M' C b I ik := by
  obtain ⟨i1, i2⟩ := h
  exact ⟨fun i hi => by rw [e0]; exact i1 i hi, fun i hi hk => ⟨(i2 i hi hk).1.kept (fun z g1 g2 => e z (by omega) (by omega)), (i2 i hi hk).2⟩⟩
theorem ctrC.kept (h : ctrC M cn ch cm) (e0 : M' 0 12 = M 0 12) (e1 : M' 39 = M 39) (e2 : M' 40 = M 40) : ctrC M' cn ch cm := by
  obtain ⟨c1, c2, c3⟩ := h
  exact ⟨by rw [e0]; exact c1, c2, fun i hi => by rw [e1, e2]; exact c3 i hi⟩
theorem txM_kept (h : txM M tl tx) (e1 : M' 1 1 = M 1 1) (e2 : M' 2 = M 2) : txM M' tl tx := ⟨h.1, by rw [e1]; exact h.2.1, fun i hi => by rw [e2]; exact h.2.2 i hi⟩
theorem txN_kept (h : txN M tl tx) (e1 : M' 96 2 = M 96 2) (e2 : M' 97 = M 97) : txN M' tl tx := ⟨h.1, by rw [e1]; exact h.2.1, fun i hi => by rw [e2]; exact h.2.2 i hi⟩
theorem pasN.kept (h : pasN M pk P) (e0 : M' 96 7 = M 96 7) (e : M' 101 = M 101) : pasN M' pk P := ⟨by rw [e0]; exact h.1, fun i hi k hk => by rw [e]; exact h.2 i hi k hk⟩
theorem imgN.kept (h : imgN M I ik) (e0 : M' 102 = M 102) (e : M' 103 = M 103) : imgN M' I ik := ⟨fun i hi => by rw [e]; exact h.1 i hi, fun i hi hk k hk2 => by rw [e0]; exact h.2 i hi hk k hk2⟩
theorem ctrN.kept (h : ctrN M cn ch cm) (e0 : M' 96 11 = M 96 11) (e : M' 104 = M 104) : ctrN M' cn ch cm := ⟨by rw [e0]; exact h.1, fun i hi => by rw [e]; exact h.2 i hi⟩
theorem MFX.kept (h : MFX M) (e : ∀ j, 16 ≤ j → j ≤ 20 → M' 96 j = M 96 j) : MFX M' := h.imp fun _ q => q.kept e
theorem IC.kept (h : IC M Rf t b T S lat pk P I ik cn ch cm tl tx) (e : ∀ z, z < 96 → (z < 32 ∨ 37 < z) → (z < 41 ∨ 47 < z) → M' z = M z) : IC M' Rf t b T S lat pk P I ik cn ch cm tl tx := by
  obtain ⟨h1, h2, h3, h4, h5, h6⟩ := h
  exact ⟨h1.kept (fun z g1 g2 => e z (by omega) (by omega) (by omega)), h2, h3.kept (fun j _ => by rw [e 0 (by omega) (by omega) (by omega)]) (fun z g1 g2 => e z (by omega) (by omega) (by omega)), h4.kept (e 38 (by omega) (by omega) (by omega)) (fun z g1 g2 => e z (by omega) (by omega) (by omega)), h5.kept (by rw [e 0 (by omega) (by omega) (by omega)]) (e 39 (by omega) (by omega) (by omega)) (e 40 (by omega) (by omega) (by omega)), txM_kept h6 (by rw [e 1 (by omega) (by omega) (by omega)]) (e 2 (by omega) (by omega) (by omega))⟩
theorem IC.over (h : IC M Rf t b T S lat pk P I ik cn ch cm tl tx) (e : ∀ z, z < 96 → M' z = M z) : IC M' Rf t b T S lat pk P I ik cn ch cm tl tx := h.kept (fun z g _ _ => e z g)
theorem IM.keep2 (h : IM M Rf b T S pk P I ik cn ch cm tl tx) (mf : MFX M') (e : ∀ z, 97 ≤ z → z ≠ 99 → z < 105 → M' z = M z) (e1 : ∀ j, j = 2 ∨ j = 7 ∨ j = 11 → M' 96 j = M 96 j) : IM M' Rf b T S pk P I ik cn ch cm tl tx := by
  obtain ⟨h1, h2, h3, h4, h5, h6⟩ := h
  exact ⟨h1.kept (e 98 (by omega) (by omega) (by omega)) (e 100 (by omega) (by omega) (by omega)), mf, h3.kept (e1 7 (by omega)) (e 101 (by omega) (by omega) (by omega)), h4.kept (e 102 (by omega) (by omega) (by omega)) (e 103 (by omega) (by omega) (by omega)), h5.kept (e1 11 (by omega)) (e 104 (by omega) (by omega) (by omega)), txN_kept h6 (e1 2 (by omega)) (e 97 (by omega) (by omega) (by omega))⟩
theorem IM.over (h : IM M Rf b T S pk P I ik cn ch cm tl tx) (e : ∀ z, 96 ≤ z → M' z = M z) : IM M' Rf b T S pk P I ik cn ch cm tl tx := h.keep2 (h.2.1.kept (fun j _ _ => by rw [e 96 (by omega)])) (fun z g _ _ => e z (by omega)) (fun j _ => by rw [e 96 (by omega)])
/-! the text -/
def ntl (tl : Nat) (v : Int32) : Nat := if inn v 256 ∧ tl < 200 then tl + 1 else tl
def ntx (tl : Nat) (tx : Nat → Nat) (v : Int32) : Nat → Nat := fun i => if i = tl then v.toNatClampNeg else tx i
theorem mType_ne (tl : Nat) (v : Int32) {z : Nat} (h1 : z ≠ 1) (h2 : z ≠ 2) : mType M tl v z = M z := by
  unfold mType; split
  · rw [st2_ne _ _ _ h1, st2_ne _ _ _ h2]
  · rfl
theorem nType_ne (tl : Nat) (v : Int32) {z : Nat} (h1 : z ≠ 96) (h2 : z ≠ 97) : nType M tl v z = M z := by
  unfold nType; split
  · rw [st2_ne _ _ _ h1, st2_ne _ _ _ h2]
  · rfl
theorem nType_96 (tl : Nat) (v : Int32) {j : Nat} (h : j ≠ 2) : nType M tl v 96 j = M 96 j := by
  unfold nType; split
  · rw [st2_ne2 _ _ (by omega), st2_ne _ _ _ (by decide)]
  · rfl
theorem inn_clamp {v : Int32} {N : Nat} (h : inn v N) (hN : N < 2147483648) : v = nI v.toNatClampNeg ∧ v.toNatClampNeg < N := by
  obtain ⟨j, hj, rfl⟩ := inn_of h hN
  rw [nI_clamp (by omega)]
  exact ⟨rfl, hj⟩
theorem IC.type (h : IC M Rf t b T S lat pk P I ik cn ch cm tl tx) (v : Int32) : IC (mType M tl v) Rf t b T S lat pk P I ik cn ch cm (ntl tl v) (ntx tl tx v) := by
  obtain ⟨h1, h2, h3, h4, h5, h6⟩ := h
  refine ⟨h1.kept (fun z g1 g2 => mType_ne _ _ (by omega) (by omega)), h2, h3.kept (fun j _ => by rw [mType_ne _ _ (by decide) (by decide)]) (fun z g1 g2 => mType_ne _ _ (by omega) (by omega)), h4.kept (mType_ne _ _ (by decide) (by decide)) (fun z g1 g2 => mType_ne _ _ (by omega) (by omega)), h5.kept (by rw [mType_ne _ _ (by decide) (by decide)]) (mType_ne _ _ (by decide) (by decide)) (mType_ne _ _ (by decide) (by decide)), ?_⟩
  obtain ⟨x1, x2, x3⟩ := h6
  unfold mType ntl
  by_cases c : inn v 256 ∧ tl < 200
  · rw [if_pos c, if_pos c]
    obtain ⟨k1, k2⟩ := inn_clamp c.1 (by decide)
    refine ⟨by omega, by rw [st2_row, if_pos rfl], fun i hi => ?_⟩
    unfold ntx
    rw [st2_ne _ _ _ (by decide), st2_row]
    by_cases e : i = tl
    · rw [if_pos e, if_pos e]; exact ⟨k1, k2⟩
    · rw [if_neg e, if_neg e]; exact x3 i (by omega)
  · rw [if_neg c, if_neg c]
    refine ⟨x1, x2, fun i hi => ?_⟩
    unfold ntx
    rw [if_neg (by omega)]; exact x3 i hi
theorem IM.type (h : IM M Rf b T S pk P I ik cn ch cm tl tx) (v : Int32) : IM (nType M tl v) Rf b T S pk P I ik cn ch cm (ntl tl v) (ntx tl tx v) := by
  obtain ⟨h1, h2, h3, h4, h5, h6⟩ := h
  refine ⟨h1.kept (nType_ne _ _ (by decide) (by decide)) (nType_ne _ _ (by decide) (by decide)), h2.kept (fun j g1 _ => nType_96 _ _ (by omega)), h3.kept (nType_96 _ _ (by decide)) (nType_ne _ _ (by decide) (by decide)), h4.kept (nType_ne _ _ (by decide) (by decide)) (nType_ne _ _ (by decide) (by decide)), h5.kept (nType_96 _ _ (by decide)) (nType_ne _ _ (by decide) (by decide)), ?_⟩
  obtain ⟨x1, x2, x3⟩ := h6
  unfold nType ntl
  by_cases c : inn v 256 ∧ tl < 200
  · rw [if_pos c, if_pos c]
    obtain ⟨k1, k2⟩ := inn_clamp c.1 (by decide)
    refine ⟨by omega, by rw [st2_row, if_pos rfl], fun i hi => ?_⟩
    unfold ntx
    rw [st2_ne _ _ _ (by decide), st2_row]
    by_cases e : i = tl
    · rw [if_pos e, if_pos e]; exact ⟨k1, k2⟩
    · rw [if_neg e, if_neg e]; exact x3 i (by omega)
  · rw [if_neg c, if_neg c]
    refine ⟨x1, x2, fun i hi => ?_⟩
    unfold ntx
    rw [if_neg (by omega)]; exact x3 i hi
theorem IC.clear (h : IC M Rf t b T S lat pk P I ik cn ch cm tl tx) : IC (st2 M 1 1 0) Rf t b T S lat pk P I ik cn ch cm 0 tx := by
  obtain ⟨h1, h2, h3, h4, h5, h6⟩ := h
  exact ⟨h1.kept (fun z g1 g2 => st2_ne _ _ _ (by omega)), h2, h3.kept (fun j _ => by rw [st2_ne _ _ _ (by decide)]) (fun z g1 g2 => st2_ne _ _ _ (by omega)), h4.kept (st2_ne _ _ _ (by decide)) (fun z g1 g2 => st2_ne _ _ _ (by omega)), h5.kept (by rw [st2_ne _ _ _ (by decide)]) (st2_ne _ _ _ (by decide)) (st2_ne _ _ _ (by decide)), ⟨by omega, by rw [st2_row, if_pos rfl]; rfl, fun i hi => by omega⟩⟩
theorem IM.clear (h : IM M Rf b T S pk P I ik cn ch cm tl tx) : IM (st2 M 96 2 0) Rf b T S pk P I ik cn ch cm 0 tx := by
  obtain ⟨h1, h2, h3, h4, h5, h6⟩ := h
  exact ⟨h1.kept (st2_ne _ _ _ (by decide)) (st2_ne _ _ _ (by decide)), h2.kept (fun j g1 _ => st2_ne2 _ _ (by omega)), h3.kept (st2_ne2 _ _ (by omega)) (st2_ne _ _ _ (by decide)), h4.kept (st2_ne _ _ _ (by decide)) (st2_ne _ _ _ (by decide)), h5.kept (st2_ne2 _ _ (by omega)) (st2_ne _ _ _ (by decide)), ⟨by omega, by rw [st2_row, if_pos rfl]; rfl, fun i hi => by omega⟩⟩
/-! the counts -/
def ncn (cn : Nat) (v w : Int32) : Nat := if (inn v 21 ∧ inn w 7) ∧ cn < 6 then cn + 1 else cn
def nch (cn : Nat) (ch : Nat → Nat) (v : Int32) : Nat → Nat := fun i => if i = cn then v.toNatClampNeg else ch i
theorem mCo_ne (cn : Nat) (v w : Int32) {z : Nat} (h0 : z ≠ 0) (h1 : z ≠ 39) (h2 : z ≠ 40) : mCounted M cn v w z = M z := by
  unfold mCounted; split
  · rw [st2_ne _ _ _ h0, st2_ne _ _ _ h2, st2_ne _ _ _ h1]
  · rfl
theorem mCo_0 (cn : Nat) (v w : Int32) {j : Nat} (h : j ≠ 12) : mCounted M cn v w 0 j = M 0 j := by
  unfold mCounted; split
  · rw [st2_ne2 _ _ (by omega), st2_ne _ _ _ (by decide), st2_ne _ _ _ (by decide)]
  · rfl
theorem nCo_ne (cn : Nat) (v w : Int32) {z : Nat} (h0 : z ≠ 96) (h1 : z ≠ 104) : nCounted M cn v w z = M z := by
  unfold nCounted; split
  · rw [st2_ne _ _ _ h0, st2_ne _ _ _ h1]
  · rfl
theorem nCo_96 (cn : Nat) (v w : Int32) {j : Nat} (h : j ≠ 11) : nCounted M cn v w 96 j = M 96 j := by
  unfold nCounted; split
  · rw [st2_ne2 _ _ (by omega), st2_ne _ _ _ (by decide)]
  · rfl
theorem IC.counted (h : IC M Rf t b T S lat pk P I ik cn ch cm tl tx) (v w : Int32) : IC (mCounted M cn v w) Rf t b T S lat pk P I ik (ncn cn v w) (nch cn ch v) (nch cn cm w) tl tx := by
  obtain ⟨h1, h2, h3, h4, h5, h6⟩ := h
  refine ⟨h1.kept (fun z g1 g2 => mCo_ne _ _ _ (by omega) (by omega) (by omega)), h2, h3.kept (fun j _ => mCo_0 _ _ _ (by omega)) (fun z g1 g2 => mCo_ne _ _ _ (by omega) (by omega) (by omega)), h4.kept (mCo_ne _ _ _ (by decide) (by decide) (by decide)) (fun z g1 g2 => mCo_ne _ _ _ (by omega) (by omega) (by omega)), ?_, txM_kept h6 (by rw [mCo_ne _ _ _ (by decide) (by decide) (by decide)]) (mCo_ne _ _ _ (by decide) (by decide) (by decide))⟩
  obtain ⟨x1, x2, x3⟩ := h5
  unfold mCounted ncn
  by_cases c : (inn v 21 ∧ inn w 7) ∧ cn < 6
  · rw [if_pos c, if_pos c]
    obtain ⟨k1, k2⟩ := inn_clamp c.1.1 (by decide)
    obtain ⟨k3, k4⟩ := inn_clamp c.1.2 (by decide)
    refine ⟨by rw [st2_row, if_pos rfl], by omega, fun i hi => ?_⟩
    unfold nch
    rw [st2_ne _ _ _ (by decide), st2_ne _ _ _ (by decide), st2_row, st2_ne _ _ _ (by decide), st2_row]
    by_cases e : i = cn
    · rw [if_pos e, if_pos e, if_pos e, if_pos e]; exact ⟨k1, by omega, k3, by omega⟩
    · rw [if_neg e, if_neg e, if_neg e, if_neg e, st2_ne _ _ _ (by decide)]; exact x3 i (by omega)
  · rw [if_neg c, if_neg c]
    refine ⟨x1, x2, fun i hi => ?_⟩
    unfold nch
    rw [if_neg (by omega), if_neg (by omega)]; exact x3 i hi
theorem IM.counted (h : IM M Rf b T S pk P I ik cn ch cm tl tx) (v w : Int32) : IM (nCounted M cn v w) Rf b T S pk P I ik (ncn cn v w) (nch cn ch v) (nch cn cm w) tl tx := by
  obtain ⟨h1, h2, h3, h4, h5, h6⟩ := h
  refine ⟨h1.kept (nCo_ne _ _ _ (by decide) (by decide)) (nCo_ne _ _ _ (by decide) (by decide)), h2.kept (fun j g1 _ => nCo_96 _ _ _ (by omega)), h3.kept (nCo_96 _ _ _ (by decide)) (nCo_ne _ _ _ (by decide) (by decide)), h4.kept (nCo_ne _ _ _ (by decide) (by decide)) (nCo_ne _ _ _ (by decide) (by decide)), ?_, txN_kept h6 (nCo_96 _ _ _ (by decide)) (nCo_ne _ _ _ (by decide) (by decide))⟩
  obtain ⟨x1, x3⟩ := h5
  unfold nCounted ncn
  by_cases c : (inn v 21 ∧ inn w 7) ∧ cn < 6
  · rw [if_pos c, if_pos c]
    obtain ⟨k1, k2⟩ := inn_clamp c.1.1 (by decide)
    obtain ⟨k3, k4⟩ := inn_clamp c.1.2 (by decide)
    refine ⟨by rw [st2_row, if_pos rfl], fun i hi => ?_⟩
    unfold nch
    rw [st2_ne _ _ _ (by decide), st2_row]
    by_cases e : i = cn
    · rw [if_pos e, if_pos e, if_pos e]
      exact nI_addE (nI_mulE rfl k1) k3
    · rw [if_neg e, if_neg e, if_neg e]; exact x3 i (by omega)
  · rw [if_neg c, if_neg c]
    refine ⟨x1, fun i hi => ?_⟩
    unfold nch
    rw [if_neg (by omega), if_neg (by omega)]; exact x3 i hi
theorem IC.forget (h : IC M Rf t b T S lat pk P I ik cn ch cm tl tx) : IC (st2 M 0 12 0) Rf t b T S lat pk P I ik 0 ch cm tl tx := by
  obtain ⟨h1, h2, h3, h4, h5, h6⟩ := h
  exact ⟨h1.kept (fun z g1 g2 => st2_ne _ _ _ (by omega)), h2, h3.kept (fun j _ => st2_ne2 _ _ (by omega)) (fun z g1 g2 => st2_ne _ _ _ (by omega)), h4.kept (st2_ne _ _ _ (by decide)) (fun z g1 g2 => st2_ne _ _ _ (by omega)), ⟨by rw [st2_row, if_pos rfl]; rfl, by omega, fun i hi => by omega⟩, txM_kept h6 (by rw [st2_ne _ _ _ (by decide)]) (st2_ne _ _ _ (by decide))⟩
theorem IM.forget (h : IM M Rf b T S pk P I ik cn ch cm tl tx) : IM (st2 M 96 11 0) Rf b T S pk P I ik 0 ch cm tl tx := by
  obtain ⟨h1, h2, h3, h4, h5, h6⟩ := h
  exact ⟨h1.kept (st2_ne _ _ _ (by decide)) (st2_ne _ _ _ (by decide)), h2.kept (fun j g1 _ => st2_ne2 _ _ (by omega)), h3.kept (st2_ne2 _ _ (by omega)) (st2_ne _ _ _ (by decide)), h4.kept (st2_ne _ _ _ (by decide)) (st2_ne _ _ _ (by decide)), ⟨by rw [st2_row, if_pos rfl]; rfl, fun i hi => by omega⟩, txN_kept h6 (st2_ne2 _ _ (by omega)) (st2_ne _ _ _ (by decide))⟩
end M44
