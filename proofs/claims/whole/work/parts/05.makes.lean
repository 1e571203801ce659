section RULES3
variable {K : KT} {cc : ByteArray} {own : String} {nL d RC RS : Nat} {pc : Nat} {ls : List (Option Value)} {st : List Value} {h : HP} {n : Nat} {M : HM} {Rf : HR} {Lg : HL} {x y : Nat}
theorem g_objInit (o : Ok K cc own nL (d + 1) RC RS) {idx a : Nat} (lk : Cond.methodLink own idx Lib.objectInit ∈ gtbl) (hls : ls.length = nL) (hst : Nat.ble (st.map fun v => v.category).sum 8 = true) (hd : decode cc pc = .ok (.invokespecial idx, 3)) (k : G K (pc + 3) ls st h x y) (w1 : Cond.instanceMethod Lib.objectInit ∈ gtbl) (w2 : Cond.code Lib.objectInit ⟨#[0xb1]⟩ 1 none ∈ gtbl) : G K pc ls (.ref a :: st) h x y := by
  obtain ⟨⟨l, B, D, cA⟩, p, e, R, s, m, args, below, meth, c, Q⟩ := K
  intro H locs la hP hS hl
  obtain ⟨o1, o2, o3, o4, o5, o6, o7, o8, o9, o10, o11⟩ := o
  have h8 := room_st (B := B) (m := m) (pc := pc) (la := la) (st0 := (Value.ref a :: st).map (rvB B)) hst
  exact W.objInit (a := B + a) (rest := st.map (rvB B)) o1 o2 o4 (o5 _ lk) (o5 _ w1) (o5 _ w2) rfl (by rw [o3]; exact hl.1.trans hls) rfl hd (by omega) (by omega) (k H locs la hP hS hl)
theorem t_zero {t : Nat} (ht : t < 5) {B a : Nat} (hM : M a = fun _ => 0) (hR : Rf a = fun _ => none) (hL : Lg a = fun _ => 0) (j : Nat) (hj : j < cln t) : defaultValue (cty t j) = fvl B M Rf Lg t a j := by
  have key : ∀ j, j < cln t → cty t j = .int ∨ cty t j = .boolean ∨ cty t j = .long ∨ (∃ q, cty t j = .object q) ∨ ∃ q, cty t j = .array q := by
    have hall : ∀ t, t < 5 → (List.range (cln t)).all (fun j => match cty t j with | .int => true | .boolean => true | .long => true | .object _ => true | .array _ => true | _ => false) = true := by decide
    intro j hj
    have := List.all_eq_true.mp (hall t ht) j (List.mem_range.mpr hj)
    cases e : cty t j <;> rw [e] at this <;> simp at this <;> simp
  rcases key j hj with e | e | e | ⟨q, e⟩ | ⟨q, e⟩
  · rw [fvl_i (Or.inl e), e, hM]; rfl
  · rw [fvl_i (Or.inr e), e, hM]; rfl
  · rw [fvl_j e, e, hL]; rfl
  · rw [fvl_r (Or.inl ⟨q, e⟩), e, hR]; rfl
  · rw [fvl_r (Or.inr ⟨q, e⟩), e, hR]; rfl
theorem S_grow {A : Nat → Prop} {H0 H H1 : Heap} {locs : List Loc} (hS : va_S A H0 H locs) (z : H1.size = H.size + 1) (oq : ∀ q : Nat, q < H.size → H1[q]? = H[q]?) : va_S A H0 H1 locs :=
  ⟨Nat.le_trans hS.1 (by omega), fun q h1 h2 => (oq q (Nat.lt_of_lt_of_le h1 hS.1)).trans (hS.2.1 q h1 h2), hS.2.2⟩
theorem g_new (o : Ok K cc own nL d RC RS) {idx t : Nat} (ht : t < 5) (lk : Cond.classLink own idx (cnm t) ∈ gtbl) (w1 : Cond.instantiable (cnm t) (cln t) ∈ gtbl) (w2 : Cond.initialized (cnm t) ∈ gtbl) (hs : shp n = (t, cln t)) (hM : M n = fun _ => 0) (hR : Rf n = fun _ => none) (hL : Lg n = fun _ => 0) (hxy : x + 1 ≤ RC ∧ y + cln t ≤ RS) (hd : decode cc pc = .ok (.new idx, 3)) (k : G K (pc + 3) ls (.ref n :: st) (n + 1, M, Rf, Lg) (x + 1) (y + cln t)) : G K pc ls st (n, M, Rf, Lg) x y := by
  obtain ⟨⟨l, B, D, cA⟩, p, e, R, s, m, args, below, meth, c, Q⟩ := K
  intro H locs la hP hS hl
  obtain ⟨o1, o2, o3, o4, o5, o6, o7, o8, o9, o10, o11⟩ := o
  have hKn := o6.1 t ht
  have hsz : H.size = B + n := hP.1
  refine W.newcK (cC := D.1 t) o1 o2 o4 (o5 _ lk) (o5 _ w1) (o5 _ w2) rfl hd (by rw [o10]; exact hxy.1) (by rw [o11]; exact hxy.2) hKn.2.1 hsz fun H1 kC hkC e1 z1 o12 => ?_
  rw [← hsz] at z1 o12
  exact k H1 locs la (hP.grow z1 o12 ((wE_obj hs ht).mpr ((u_born (cty t) o5 (in_all t ht) hKn hkC e1 (ty_all t ht)).to (fun j hj => t_zero ht hM hR hL j hj)))) (S_grow hS z1 o12) hl
theorem g_newa (o : Ok K cc own nL d RC RS) {at' : ArrayType} {t N : Nat} {i : Int32} (ht : newarray.typeOf at' = aty t) (h5 : 5 ≤ t) (h8 : t < 8) (w1 : Cond.arrayClass (aty t) ∈ gtbl) (hs : shp n = (t, N)) (hi : i = nI N) (hM : M n = fun _ => 0) (hxy : x + 1 ≤ RC ∧ y + N ≤ RS) (hd : decode cc pc = .ok (.newarray at', 2)) (k : G K (pc + 2) ls (.ref n :: st) (n + 1, M, Rf, Lg) (x + 1) (y + N)) : G K pc ls (.int i :: st) (n, M, Rf, Lg) x y := by
  obtain ⟨⟨l, B, D, cA⟩, p, e, R, s, m, args, below, meth, c, Q⟩ := K
  intro H locs la hP hS hl
  obtain ⟨o1, o2, o3, o4, o5, o6, o7, o8, o9, o10, o11⟩ := o
  have hN : N < 1000 := by have := shp_small n; rw [hs] at this; exact this
  have hsz : H.size = B + n := hP.1
  have ht3 : t = 5 ∨ t = 6 ∨ t = 7 := by omega
  have hcb : componentBytes (aty t) ≤ 4 := by rcases ht3 with rfl | rfl | rfl <;> decide
  have hdv : defaultValue (aty t) = .int 0 := by rcases ht3 with rfl | rfl | rfl <;> rfl
  have hra := (o6.2.1 t h5 (by omega)).2
  have hfc : s.vm.findClass ("[" ++ (aty t).toString) = some (cA t) := by rcases ht3 with rfl | rfl | rfl <;> exact hra
  have hcl : i.toNatClampNeg = N := by rw [hi]; exact nI_clamp (by omega)
  have hneg : ¬ i < 0 := by rw [hi]; exact nI_pos (by omega)
  have hbb : N * componentBytes (newarray.typeOf at') ≤ 536870912 := by rw [ht]; exact Nat.le_trans (Nat.mul_le_mul (Nat.le_of_lt hN) hcb) (by decide)
  refine va_newaK (N := N) o1 o2 (by rw [ht]; exact o5 _ w1) rfl hd rfl hneg hcl hbb (by rw [o10]; exact hxy.1) (by rw [o11]; exact hxy.2) hsz fun H1 cA2 e1 z1 o12 hAr hNm => ?_
  rw [ht] at e1 hNm
  have hc : cA2 = cA t := Option.some.inj (hNm.symm.trans hfc)
  subst hc
  rw [hdv] at e1
  rw [← hsz] at z1 o12
  exact k H1 locs la (hP.grow z1 o12 ((wE_int hs h5 h8).mpr (by rw [e1, hM]))) (S_grow hS z1 o12) hl
theorem g_anew (o : Ok K cc own nL d RC RS) {idx N : Nat} {i : Int32} (lk : Cond.classLink own idx RX1 ∈ gtbl) (hs : shp n = (8, N)) (hi : i = nI N) (hR : Rf n = fun _ => none) (hxy : x + 1 ≤ RC ∧ y + N ≤ RS) (hd : decode cc pc = .ok (.anewarray idx, 3)) (k : G K (pc + 3) ls (.ref n :: st) (n + 1, M, Rf, Lg) (x + 1) (y + N)) : G K pc ls (.int i :: st) (n, M, Rf, Lg) x y := by
  obtain ⟨⟨l, B, D, cA⟩, p, e, R, s, m, args, below, meth, c, Q⟩ := K
  intro H locs la hP hS hl
  obtain ⟨o1, o2, o3, o4, o5, o6, o7, o8, o9, o10, o11⟩ := o
  have hN : N < 1000 := by have := shp_small n; rw [hs] at this; exact this
  have hsz : H.size = B + n := hP.1
  have hcl : i.toNatClampNeg = N := by rw [hi]; exact nI_clamp (by omega)
  obtain ⟨kA0, comp0, r1, r2, r3, r4⟩ := (o6.2.1 8 (by decide) (by decide)).2
  refine W.anew o1 o2 o4 (o5 _ lk) (va_AO.use o6.2.2.2.1) rfl hd rfl (by rw [hi]; exact nI_pos (by omega)) (by rw [hcl]; omega) (by rw [o10]; exact hxy.1) (by rw [o11, hcl]; exact hxy.2) fun cA2 kA comp f1 f2 f3 f4 => ?_
  have hc : cA2 = cA 8 := Option.some.inj (f1.symm.trans r4)
  subst hc
  rw [hcl]
  generalize hH1 : H.push ({ cls := cA 8, slots := Array.replicate N .null, vm := .none } : Cell) = H1
  have z1 : H1.size = H.size + 1 := by rw [← hH1, Array.size_push]
  have e1 : H1[H.size]? = some (arrV (cA 8) N (fun _ => .null)) := by rw [← hH1, Array.getElem?_push_size, ← arrV_new]
  have o12 : ∀ q : Nat, q < H.size → H1[q]? = H[q]? := fun q hq => by rw [← hH1, Array.getElem?_push, if_neg (Nat.ne_of_lt hq)]
  have := k H1 locs la (hP.grow z1 o12 ((wE_ref hs (by decide)).mpr (by rw [← hsz, e1, hR]; rfl))) (S_grow hS z1 o12) hl
  rw [hsz]
  exact this
theorem g_copy (o : Ok K cc own nL (d + 2) RC RS) {idx a b N1 N2 : Nat} (lk : Cond.methodLink own idx arraycopyName ∈ gtbl) (w1 : Cond.native arraycopyName ∈ gtbl) (w2 : Cond.static arraycopyName ∈ gtbl) (w3 : Cond.initialized "java/lang/System" ∈ gtbl) (ha : shp a = (6, N1)) (hb : shp b = (6, N2)) (han : a < n) (hbn : b < n) {i : Int32} (k : Nat) (hi : i = nI k) (h1 : k ≤ N1) (h2 : k ≤ N2) (hls : ls.length = nL) (hst : Nat.ble (st.map fun v => v.category).sum 8 = true) (hd : decode cc pc = .ok (.invokestatic idx, 3)) (kk : G K (pc + 3) ls st (n, fun z j => if z = b ∧ j < k then M a j else M z j, Rf, Lg) x y) : G K pc ls (.int i :: .int 0 :: .ref b :: .int 0 :: .ref a :: st) (n, M, Rf, Lg) x y := by
  obtain ⟨⟨l, B, D, cA⟩, p, e, R, s, m, args, below, meth, c, Q⟩ := K
  intro H locs la hP hS hl
  obtain ⟨o1, o2, o3, o4, o5, o6, o7, o8, o9, o10, o11⟩ := o
  have hN1 : N1 < 1000 := by have := shp_small a; rw [ha] at this; exact this
  have hcl : i.toNatClampNeg = k := by rw [hi]; exact nI_clamp (by omega)
  have hpos : ¬ i < 0 := by rw [hi]; exact nI_pos (by omega)
  have hti : i.toInt = (k : Int) := by rw [hi]; exact nI_toInt (by omega)
  have hc0 : H[B + a]? = some (arrV (cA 6) N1 (fun j => .int (M a j))) := (wE_int ha (by decide) (by decide)).mp (hP.2 a han)
  have hc1 : H[B + b]? = some (arrV (cA 6) N2 (fun j => .int (M b j))) := (wE_int hb (by decide) (by decide)).mp (hP.2 b hbn)
  obtain ⟨-, k0, hk0, cm0, hkk0⟩ := (o6.2.1 6 (by decide) (by decide)).1 N1 (fun j => .int (M a j))
  obtain ⟨-, k1, hk1, cm1, hkk1⟩ := (o6.2.1 6 (by decide) (by decide)).1 N2 (fun j => .int (M b j))
  have hs8 := Nat.le_of_ble_eq_true hst
  have hnw : nativeFrameWords "java/lang/System" "arraycopy" 5 + 11 ≤ 60 := by decide
  intro T hT X
  obtain ⟨vm', X', step⟩ := X.arraycopy o1 o4 (o5 _ lk) (o5 _ w1) (o5 _ w2) (o5 _ w3) (src := B + a) (dst := B + b) (cs := arrV (cA 6) N1 (fun j => .int (M a j))) (cd := arrV (cA 6) N2 (fun j => .int (M b j))) (srcPos := 0) (destPos := 0) (n := i) (by rw [hT]; exact hc0) (by rw [hT]; exact hc1)
    (fun _ h => by cases h) (fun _ h => by cases h) (fun h => by cases h) (fun h => by cases h) hk0 hk1 hkk0 hkk1 (by decide) (by decide) (by decide) hpos
    (by rw [hti, arrV_size]; show ¬ (0 : Int) + _ > _; omega)
    (by rw [hti, arrV_size]; show ¬ (0 : Int) + _ > _; omega)
    (fun vm₁ _ q hq => by
      rw [hcl] at hq
      have e : (arrV (cA 6) N1 (fun j => .int (M a j))).slots.getD ((0 : Int32).toNatClampNeg + q) .null = .int (M a q) := by
        rw [Array.getD_eq_getD_getElem?, show (0 : Int32).toNatClampNeg + q = q from Nat.zero_add q, arrV_read _ _ (by omega)]
        rfl
      refine ⟨?_, ?_⟩
      · rw [e]; rfl
      · rw [e]; exact trivial)
    (g := F0 m pc la (.int i :: .int 0 :: .ref (B + b) :: .int 0 :: .ref (B + a) :: st.map (rvB B))) rfl (by rw [o3]; exact hl.1.trans hls) (rest := st.map (rvB B)) rfl (by rw [o2]; exact hd) (by omega) (by rw [cat_sum]; show 2 * 0 + _ + _ ≤ _; exact Nat.le_trans (Nat.add_le_add (Nat.add_le_add_left hs8 _) hnw) (by omega))
  have e1 : copied (vp_cell (cA 6) (N1, .inl (M a))) (vp_cell (cA 6) (N2, .inl (M b))) 0 0 i = vp_cell (cA 6) (N2, .inl (va_cpy (M a) (M b) (0 : Int32).toNatClampNeg (0 : Int32).toNatClampNeg i.toNatClampNeg)) := va_copied (fun z => .int z) (cA 6) (cA 6) (M a) (M b) (by rw [hcl]; show 0 + k ≤ N1; omega)
  rw [vp_cell_i, vp_cell_i, vp_cell_i] at e1
  rw [e1] at X' step
  have hl9 : B + b < H.size := (Array.getElem?_eq_some_iff.mp hc1).1
  have hheap : ((T.setVm vm').setCell (B + b) (arrV (cA 6) N2 (fun j => .int (va_cpy (M a) (M b) (0 : Int32).toNatClampNeg (0 : Int32).toNatClampNeg i.toNatClampNeg j)))).heap = H.setIfInBounds (B + b) (arrV (cA 6) N2 (fun j => .int (va_cpy (M a) (M b) (0 : Int32).toNatClampNeg (0 : Int32).toNatClampNeg i.toNatClampNeg j))) := by rw [← hT]; rfl
  have oq : ∀ q : Nat, q ≠ B + b → (H.setIfInBounds (B + b) (arrV (cA 6) N2 (fun j => .int (va_cpy (M a) (M b) (0 : Int32).toNatClampNeg (0 : Int32).toNatClampNeg i.toNatClampNeg j))))[q]? = H[q]? := fun q hq => by simp [Array.getElem?_setIfInBounds, Ne.symm hq]
  obtain ⟨t, a1, b1⟩ := kk _ _ la (hP.upd (k := b) (by simp) oq (fun z hz => by funext j; simp [hz]) (fun _ _ => rfl) (fun _ _ => rfl) ((wE_int hb (by decide) (by decide)).mpr (by
      simp only [Array.getElem?_setIfInBounds, hl9, if_true]
      refine congrArg some (congrArg (arrV _ N2) (funext fun j => ?_))
      rw [hcl]
      simp only [va_cpy, true_and]
      by_cases hj : j < k
      · rw [if_pos hj, if_pos ⟨Nat.zero_le _, by show j < 0 + k; omega⟩]
        show Value.int (M a (0 + (j - 0))) = _
        simp
      · rw [if_neg hj, if_neg (fun q => hj (by have : j < 0 + k := q.2; omega))]))) ⟨by simp; exact hS.1, fun q g1 g2 => by
      rw [oq q (fun e => g2 (by rw [e]; exact Nat.le_add_right B b))]
      exact hS.2.1 q g1 g2, fun q hq => by
      rcases List.mem_append.mp hq with h | h
      · exact hS.2.2 q h
      · obtain ⟨z, -, hz⟩ := List.mem_map.mp h
        rw [← hz]
        exact Nat.le_add_right B b⟩ hl _ hheap X'
  exact ⟨t, step t a1, b1⟩
/-! the law's own script -/
theorem g_sld (o : Ok K cc own nL d RC RS) {b L : Nat} {xs : Nat → Int32} (hX : va_X b L xs K.2.2.2.2.1 K.2.2.2.2.1.heap) (hbl : b < K.2.2.2.2.1.heap.size) (hbA : b < K.1.2.1) {i : Int32} (j : Nat) (hi : i = nI j) (hj : j < L) (hL : L < 1000) (hd : decode cc pc = .ok (.iaload, 1)) (k : G K (pc + 1) ls (.int (xs j) :: st) h x y) : G K pc ls (.int i :: .retAddr b :: st) h x y := by
  obtain ⟨⟨l, B, D, cA⟩, p, e, R, s, m, args, below, meth, c, Q⟩ := K
  intro H locs la hP hS hl
  have hcl : i.toNatClampNeg = j := by rw [hi]; exact nI_clamp (by omega)
  refine va_sld o.1 o.2.1 hX hbl (Nat.not_le.mpr hbA) hS (by rw [hi]; exact vp_in_nI hj (by omega)) hd ?_
  rw [hcl]
  exact k H locs la hP hS hl
theorem g_slen (o : Ok K cc own nL d RC RS) {b L : Nat} {xs : Nat → Int32} (hX : va_X b L xs K.2.2.2.2.1 K.2.2.2.2.1.heap) (hbl : b < K.2.2.2.2.1.heap.size) (hbA : b < K.1.2.1) (hd : decode cc pc = .ok (.arraylength, 1)) (k : G K (pc + 1) ls (.int (nI L) :: st) h x y) : G K pc ls (.retAddr b :: st) h x y := by
  obtain ⟨⟨l, B, D, cA⟩, p, e, R, s, m, args, below, meth, c, Q⟩ := K
  intro H locs la hP hS hl
  exact va_slen o.1 o.2.1 hX hbl (Nat.not_le.mpr hbA) hS hd (k H locs la hP hS hl)
end RULES3
