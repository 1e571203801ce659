abbrev PL : Type := Launch × Nat × va_G × (Nat → ClassId)
abbrev KR : Type := Program × Env × Room × State × MethodId × Array Value × List Frame × Method × Code × (State → Prop)
abbrev KT : Type := PL × KR
/-- from this frame over this pure heap the machine comes to the end that K names -/
def G (K : KT) (pc : Nat) (ls : List (Option Value)) (st : List Value) (h : HP) (x y : Nat) : Prop := match K with
  | ((l, B, D, cA), (p, e, R, s, m, args, below, meth, c, Q)) => ∀ (H : Heap) (locs : List Loc) (la : Array Slot), PW B D cA h H → va_S (fun q => B ≤ q) s.heap H locs → lsH B la ls → W p l e R s m args below meth c H locs x y Q (F0 m pc la (st.map (rvB B)))
/-- what holds all through a method -/
def Ok (K : KT) (cc : ByteArray) (own : String) (nL d RC RS : Nat) : Prop := match K with
  | ((_, B, D, cA), (p, _, R, s, m, args, _, _, c, _)) => p.tables.exec = Jvm.exec ∧ c.code = cc ∧ c.maxLocals = nL ∧ s.vm.findClass own = some m.cls ∧ (∀ w ∈ gtbl, w.before args s = true) ∧ KnAll s D cA ∧ B ≤ s.heap.size ∧ d ≤ R.frames ∧ 40 * d ≤ R.locals ∧ R.cells = RC ∧ R.slots = RS
def RQ (B : Nat) (D : va_G) (cA : Nat → ClassId) (v : Option Value) (h : HP) : Array Value → State → Outcome → State → Prop := fun _ st oc t => oc = .returned (v.map (rvB B)) ∧ PW B D cA h t.heap ∧ va_F (fun q => B ≤ q) st t
/-- what the end of a method is: this answer, this heap -/
def Fin1 (K : KT) (ret : Option FieldType) (v : Option Value) (h : HP) (mc ms : Nat) : Prop := match K with
  | ((_, B, D, cA), (_, _, _, s, _, args, below, meth, _, Q)) => Q = MQ below (RQ B D cA v h) args s mc ms (fun q => B ≤ q) ∧ meth.sig.returnType = ret ∧ meth.locks = false
abbrev MT : Type := MethodName × ByteArray × Nat × Option FieldType
/-- a method's contract: with these arguments, over this heap, it returns v and leaves h'; mc cells of ms slots are new -/
def Ret (Λ : PL) (d : Nat) (μ : MT) (As : List Value) (h : HP) (v : Option Value) (h' : HP) (mc ms : Nat) : Prop :=
  Met Λ.1 μ.1 (.code μ.1 μ.2.1 μ.2.2.1 μ.2.2.2 :: gtbl) { frames := d, cells := mc, slots := ms, locals := 40 * d } (va_Pc (As.map (rvB Λ.2.1)) (fun U => PW Λ.2.1 Λ.2.2.1 Λ.2.2.2 h U.heap ∧ KnAll U Λ.2.2.1 Λ.2.2.2)) (RQ Λ.2.1 Λ.2.2.1 Λ.2.2.2 v h') mc ms (fun q => Λ.2.1 ≤ q)
section RULES
variable {K : KT} {cc : ByteArray} {own : String} {nL d RC RS : Nat} {pc : Nat} {ls : List (Option Value)} {st : List Value} {h : HP} {n : Nat} {M : HM} {Rf : HR} {Lg : HL} {x y : Nat}
theorem g_iconst (o : Ok K cc own nL d RC RS) {i : Int} {v : Int32} (hd : decode cc pc = .ok (.iconst i, 1)) (hv : Int32.ofInt i = v) (k : G K (pc + 1) ls (.int v :: st) h x y) : G K pc ls st h x y := by
  obtain ⟨⟨l, B, D, cA⟩, p, e, R, s, m, args, below, meth, c, Q⟩ := K
  intro H locs la hP hS hl
  exact lv_iconst o.1 o.2.1 hd hv (k H locs la hP hS hl)
theorem g_bipush (o : Ok K cc own nL d RC RS) {i : Int} {v : Int32} (hd : decode cc pc = .ok (.bipush i, 2)) (hv : (Int8.ofInt i).toInt32 = v) (k : G K (pc + 2) ls (.int v :: st) h x y) : G K pc ls st h x y := by
  obtain ⟨⟨l, B, D, cA⟩, p, e, R, s, m, args, below, meth, c, Q⟩ := K
  intro H locs la hP hS hl
  exact lv_bipush o.1 o.2.1 hd hv (k H locs la hP hS hl)
theorem g_sipush (o : Ok K cc own nL d RC RS) {i : Int} {v : Int32} (hd : decode cc pc = .ok (.sipush i, 3)) (hv : (Int16.ofInt i).toInt32 = v) (k : G K (pc + 3) ls (.int v :: st) h x y) : G K pc ls st h x y := by
  obtain ⟨⟨l, B, D, cA⟩, p, e, R, s, m, args, below, meth, c, Q⟩ := K
  intro H locs la hP hS hl
  exact lv_sipush o.1 o.2.1 hd hv (k H locs la hP hS hl)
theorem g_lconst (o : Ok K cc own nL d RC RS) {i : Fin 2} {v : Int64} (hd : decode cc pc = .ok (.lconst i, 1)) (hv : Int64.ofNat (i : Nat) = v) (k : G K (pc + 1) ls (.long v :: st) h x y) : G K pc ls st h x y := by
  obtain ⟨⟨l, B, D, cA⟩, p, e, R, s, m, args, below, meth, c, Q⟩ := K
  intro H locs la hP hS hl
  exact lv_lconst o.1 o.2.1 hd hv (k H locs la hP hS hl)
theorem g_ldc (o : Ok K cc own nL d RC RS) {i : Nat} {v : Int32} (hw : Cond.constant own i v ∈ gtbl) (hd : decode cc pc = .ok (.ldc i, 2)) (k : G K (pc + 2) ls (.int v :: st) h x y) : G K pc ls st h x y := by
  obtain ⟨⟨l, B, D, cA⟩, p, e, R, s, m, args, below, meth, c, Q⟩ := K
  intro H locs la hP hS hl
  exact lv_ldc o.1 o.2.1 o.2.2.2.1 (o.2.2.2.2.1 _ hw) hd (k H locs la hP hS hl)
theorem g_ldcw (o : Ok K cc own nL d RC RS) {i : Nat} {v : Int32} (hw : Cond.constant own i v ∈ gtbl) (hd : decode cc pc = .ok (.ldc_w i, 3)) (k : G K (pc + 3) ls (.int v :: st) h x y) : G K pc ls st h x y := by
  obtain ⟨⟨l, B, D, cA⟩, p, e, R, s, m, args, below, meth, c, Q⟩ := K
  intro H locs la hP hS hl
  exact lv_ldcw o.1 o.2.1 o.2.2.2.1 (o.2.2.2.2.1 _ hw) hd (k H locs la hP hS hl)
theorem g_ldc2 (o : Ok K cc own nL d RC RS) {i : Nat} {v : Int64} (hw : Cond.constantLong own i v ∈ gtbl) (hd : decode cc pc = .ok (.ldc2_w i, 3)) (k : G K (pc + 3) ls (.long v :: st) h x y) : G K pc ls st h x y := by
  obtain ⟨⟨l, B, D, cA⟩, p, e, R, s, m, args, below, meth, c, Q⟩ := K
  intro H locs la hP hS hl
  exact lv_ldc2 o.1 o.2.1 o.2.2.2.1 (o.2.2.2.2.1 _ hw) hd (k H locs la hP hS hl)
theorem g_iload_n (o : Ok K cc own nL d RC RS) {i : Fin 4} (j : Nat) {v : Int32} (hd : decode cc pc = .ok (.iload_n i, 1)) (hj : (i : Nat) = j) (hv : lget ls j = some (.int v)) (k : G K (pc + 1) ls (.int v :: st) h x y) : G K pc ls st h x y := by
  obtain ⟨⟨l, B, D, cA⟩, p, e, R, s, m, args, below, meth, c, Q⟩ := K
  intro H locs la hP hS hl
  exact lv_iload_n o.1 o.2.1 hd hj (hl.at hv) (k H locs la hP hS hl)
theorem g_iload (o : Ok K cc own nL d RC RS) {j : Nat} {v : Int32} (hd : decode cc pc = .ok (.iload j, 2)) (hv : lget ls j = some (.int v)) (k : G K (pc + 2) ls (.int v :: st) h x y) : G K pc ls st h x y := by
  obtain ⟨⟨l, B, D, cA⟩, p, e, R, s, m, args, below, meth, c, Q⟩ := K
  intro H locs la hP hS hl
  exact lv_iload o.1 o.2.1 hd (hl.at hv) (k H locs la hP hS hl)
theorem g_aload_n (o : Ok K cc own nL d RC RS) {i : Fin 4} (j : Nat) {v : Nat} (hd : decode cc pc = .ok (.aload_n i, 1)) (hj : (i : Nat) = j) (hv : lget ls j = some (.ref v)) (k : G K (pc + 1) ls (.ref v :: st) h x y) : G K pc ls st h x y := by
  obtain ⟨⟨l, B, D, cA⟩, p, e, R, s, m, args, below, meth, c, Q⟩ := K
  intro H locs la hP hS hl
  exact lv_aload_n o.1 o.2.1 hd hj (hl.at hv) (k H locs la hP hS hl)
theorem g_aload_nX (o : Ok K cc own nL d RC RS) {i : Fin 4} (j : Nat) {v : Nat} (hd : decode cc pc = .ok (.aload_n i, 1)) (hj : (i : Nat) = j) (hv : lget ls j = some (.retAddr v)) (k : G K (pc + 1) ls (.retAddr v :: st) h x y) : G K pc ls st h x y := by
  obtain ⟨⟨l, B, D, cA⟩, p, e, R, s, m, args, below, meth, c, Q⟩ := K
  intro H locs la hP hS hl
  exact lv_aload_n o.1 o.2.1 hd hj (hl.at hv) (k H locs la hP hS hl)
theorem g_istore_n (o : Ok K cc own nL d RC RS) {i : Fin 4} (j : Nat) {v : Int32} (hd : decode cc pc = .ok (.istore_n i, 1)) (hj : (i : Nat) = j) (hn : Nat.blt j ls.length = true) (k : G K (pc + 1) (ls.set j (some (.int v))) st h x y) : G K pc ls (.int v :: st) h x y := by
  obtain ⟨⟨l, B, D, cA⟩, p, e, R, s, m, args, below, meth, c, Q⟩ := K
  intro H locs la hP hS hl
  have hj2 : j < ls.length := by simpa using hn
  exact lv_istore_n o.1 o.2.1 hd hj hl.has hj2 rfl (fun la2 h2 => k H locs la2 hP hS (hl.of (v := .int v) hj2 rfl h2))
theorem g_istore (o : Ok K cc own nL d RC RS) {j : Nat} {v : Int32} (hd : decode cc pc = .ok (.istore j, 2)) (hn : Nat.blt j ls.length = true) (k : G K (pc + 2) (ls.set j (some (.int v))) st h x y) : G K pc ls (.int v :: st) h x y := by
  obtain ⟨⟨l, B, D, cA⟩, p, e, R, s, m, args, below, meth, c, Q⟩ := K
  intro H locs la hP hS hl
  have hj2 : j < ls.length := by simpa using hn
  exact lv_istore o.1 o.2.1 hd hl.has hj2 rfl (fun la2 h2 => k H locs la2 hP hS (hl.of (v := .int v) hj2 rfl h2))
theorem g_astore_n (o : Ok K cc own nL d RC RS) {i : Fin 4} (j : Nat) {v : Nat} (hd : decode cc pc = .ok (.astore_n i, 1)) (hj : (i : Nat) = j) (hn : Nat.blt j ls.length = true) (k : G K (pc + 1) (ls.set j (some (.ref v))) st h x y) : G K pc ls (.ref v :: st) h x y := by
  obtain ⟨⟨l, B, D, cA⟩, p, e, R, s, m, args, below, meth, c, Q⟩ := K
  intro H locs la hP hS hl
  have hj2 : j < ls.length := by simpa using hn
  exact lv_astore_n o.1 o.2.1 hd hj hl.has hj2 rfl (fun la2 h2 => k H locs la2 hP hS (hl.of (v := .ref v) hj2 rfl h2))
theorem g_iinc (o : Ok K cc own nL d RC RS) {j : Nat} {i : Int} {v : Int32} (hd : decode cc pc = .ok (.iinc j i, 3)) (hv : lget ls j = some (.int v)) (k : G K (pc + 3) (ls.set j (some (.int (v + Int32.ofInt i)))) st h x y) : G K pc ls st h x y := by
  obtain ⟨⟨l, B, D, cA⟩, p, e, R, s, m, args, below, meth, c, Q⟩ := K
  intro H locs la hP hS hl
  have h1 := lget_eq ls j _ hv
  have hj2 : j < ls.length := (List.getElem?_eq_some_iff.mp h1).1
  obtain ⟨kk, hkk⟩ := List.getElem?_of_mem (lvl_mem (B := B) (q := (j, .int v)).mpr ⟨_, h1, rfl⟩)
  exact lv_iinc o.1 o.2.1 hd hl.has hkk rfl hj2 rfl (fun la2 h2 => k H locs la2 hP hS (hl.of (v := .int (v + Int32.ofInt i)) hj2 rfl h2))
theorem g_iadd (o : Ok K cc own nL d RC RS) {a b : Int32} (hd : decode cc pc = .ok (.iadd, 1)) (k : G K (pc + 1) ls (.int (a + b) :: st) h x y) : G K pc ls (.int b :: .int a :: st) h x y := by
  obtain ⟨⟨l, B, D, cA⟩, p, e, R, s, m, args, below, meth, c, Q⟩ := K
  intro H locs la hP hS hl
  exact lv_iadd o.1 o.2.1 hd (k H locs la hP hS hl)
theorem g_isub (o : Ok K cc own nL d RC RS) {a b : Int32} (hd : decode cc pc = .ok (.isub, 1)) (k : G K (pc + 1) ls (.int (a - b) :: st) h x y) : G K pc ls (.int b :: .int a :: st) h x y := by
  obtain ⟨⟨l, B, D, cA⟩, p, e, R, s, m, args, below, meth, c, Q⟩ := K
  intro H locs la hP hS hl
  exact lv_isub o.1 o.2.1 hd (k H locs la hP hS hl)
theorem g_imul (o : Ok K cc own nL d RC RS) {a b : Int32} (hd : decode cc pc = .ok (.imul, 1)) (k : G K (pc + 1) ls (.int (a * b) :: st) h x y) : G K pc ls (.int b :: .int a :: st) h x y := by
  obtain ⟨⟨l, B, D, cA⟩, p, e, R, s, m, args, below, meth, c, Q⟩ := K
  intro H locs la hP hS hl
  exact lv_imul o.1 o.2.1 hd (k H locs la hP hS hl)
theorem g_iand (o : Ok K cc own nL d RC RS) {a b : Int32} (hd : decode cc pc = .ok (.iand, 1)) (k : G K (pc + 1) ls (.int (a &&& b) :: st) h x y) : G K pc ls (.int b :: .int a :: st) h x y := by
  obtain ⟨⟨l, B, D, cA⟩, p, e, R, s, m, args, below, meth, c, Q⟩ := K
  intro H locs la hP hS hl
  exact lv_iand o.1 o.2.1 hd (k H locs la hP hS hl)
theorem g_ior (o : Ok K cc own nL d RC RS) {a b : Int32} (hd : decode cc pc = .ok (.ior, 1)) (k : G K (pc + 1) ls (.int (a ||| b) :: st) h x y) : G K pc ls (.int b :: .int a :: st) h x y := by
  obtain ⟨⟨l, B, D, cA⟩, p, e, R, s, m, args, below, meth, c, Q⟩ := K
  intro H locs la hP hS hl
  exact lv_ior o.1 o.2.1 hd (k H locs la hP hS hl)
theorem g_ixor (o : Ok K cc own nL d RC RS) {a b : Int32} (hd : decode cc pc = .ok (.ixor, 1)) (k : G K (pc + 1) ls (.int (a ^^^ b) :: st) h x y) : G K pc ls (.int b :: .int a :: st) h x y := by
  obtain ⟨⟨l, B, D, cA⟩, p, e, R, s, m, args, below, meth, c, Q⟩ := K
  intro H locs la hP hS hl
  exact lv_ixor o.1 o.2.1 hd (k H locs la hP hS hl)
theorem g_ishl (o : Ok K cc own nL d RC RS) {a b : Int32} (hd : decode cc pc = .ok (.ishl, 1)) (k : G K (pc + 1) ls (.int (a <<< (b &&& 31)) :: st) h x y) : G K pc ls (.int b :: .int a :: st) h x y := by
  obtain ⟨⟨l, B, D, cA⟩, p, e, R, s, m, args, below, meth, c, Q⟩ := K
  intro H locs la hP hS hl
  exact lv_ishl o.1 o.2.1 hd (k H locs la hP hS hl)
theorem g_ishr (o : Ok K cc own nL d RC RS) {a b : Int32} (hd : decode cc pc = .ok (.ishr, 1)) (k : G K (pc + 1) ls (.int (a >>> (b &&& 31)) :: st) h x y) : G K pc ls (.int b :: .int a :: st) h x y := by
  obtain ⟨⟨l, B, D, cA⟩, p, e, R, s, m, args, below, meth, c, Q⟩ := K
  intro H locs la hP hS hl
  exact lv_ishr o.1 o.2.1 hd (k H locs la hP hS hl)
theorem g_iushr (o : Ok K cc own nL d RC RS) {a b : Int32} (hd : decode cc pc = .ok (.iushr, 1)) (k : G K (pc + 1) ls (.int (a.toUInt32 >>> (b.toUInt32 &&& Int32.toUInt32 31)).toInt32 :: st) h x y) : G K pc ls (.int b :: .int a :: st) h x y := by
  obtain ⟨⟨l, B, D, cA⟩, p, e, R, s, m, args, below, meth, c, Q⟩ := K
  intro H locs la hP hS hl
  exact lv_iushr o.1 o.2.1 hd rfl (k H locs la hP hS hl)
theorem g_idiv (o : Ok K cc own nL d RC RS) {a b : Int32} (hd : decode cc pc = .ok (.idiv, 1)) (hb : ¬ b = 0) (k : G K (pc + 1) ls (.int (a / b) :: st) h x y) : G K pc ls (.int b :: .int a :: st) h x y := by
  obtain ⟨⟨l, B, D, cA⟩, p, e, R, s, m, args, below, meth, c, Q⟩ := K
  intro H locs la hP hS hl
  exact lv_idiv o.1 o.2.1 hd hb (k H locs la hP hS hl)
theorem g_irem (o : Ok K cc own nL d RC RS) {a b : Int32} (hd : decode cc pc = .ok (.irem, 1)) (hb : ¬ b = 0) (k : G K (pc + 1) ls (.int (a - a / b * b) :: st) h x y) : G K pc ls (.int b :: .int a :: st) h x y := by
  obtain ⟨⟨l, B, D, cA⟩, p, e, R, s, m, args, below, meth, c, Q⟩ := K
  intro H locs la hP hS hl
  exact lv_irem o.1 o.2.1 hd hb (k H locs la hP hS hl)
theorem g_ladd (o : Ok K cc own nL d RC RS) {a b : Int64} (hd : decode cc pc = .ok (.ladd, 1)) (k : G K (pc + 1) ls (.long (a + b) :: st) h x y) : G K pc ls (.long b :: .long a :: st) h x y := by
  obtain ⟨⟨l, B, D, cA⟩, p, e, R, s, m, args, below, meth, c, Q⟩ := K
  intro H locs la hP hS hl
  exact lv_ladd o.1 o.2.1 hd (k H locs la hP hS hl)
theorem g_lcmp (o : Ok K cc own nL d RC RS) {a b : Int64} (hd : decode cc pc = .ok (.lcmp, 1)) (k : G K (pc + 1) ls (.int (lg_cmp a b) :: st) h x y) : G K pc ls (.long b :: .long a :: st) h x y := by
  obtain ⟨⟨l, B, D, cA⟩, p, e, R, s, m, args, below, meth, c, Q⟩ := K
  intro H locs la hP hS hl
  exact W.lcmp o.1 o.2.1 hd (k H locs la hP hS hl)
theorem g_i2c (o : Ok K cc own nL d RC RS) {a : Int32} (hd : decode cc pc = .ok (.i2c, 1)) (k : G K (pc + 1) ls (.int (a.toUInt32 % 65536).toInt32 :: st) h x y) : G K pc ls (.int a :: st) h x y := by
  obtain ⟨⟨l, B, D, cA⟩, p, e, R, s, m, args, below, meth, c, Q⟩ := K
  intro H locs la hP hS hl
  exact lv_i2c o.1 o.2.1 hd rfl (k H locs la hP hS hl)
theorem g_dup (o : Ok K cc own nL d RC RS) {v : Value} (hd : decode cc pc = .ok (.dup, 1)) (hv : v.category = 1) (k : G K (pc + 1) ls (v :: v :: st) h x y) : G K pc ls (v :: st) h x y := by
  obtain ⟨⟨l, B, D, cA⟩, p, e, R, s, m, args, below, meth, c, Q⟩ := K
  intro H locs la hP hS hl
  exact lv_dup o.1 o.2.1 hd (by rw [rvB_cat]; exact hv) (k H locs la hP hS hl)
theorem g_dup2 (o : Ok K cc own nL d RC RS) {v w : Value} (hd : decode cc pc = .ok (.dup2, 1)) (hv : v.category = 1) (hw : w.category = 1) (k : G K (pc + 1) ls (v :: w :: v :: w :: st) h x y) : G K pc ls (v :: w :: st) h x y := by
  obtain ⟨⟨l, B, D, cA⟩, p, e, R, s, m, args, below, meth, c, Q⟩ := K
  intro H locs la hP hS hl
  exact lv_dup2_11 o.1 o.2.1 hd (by rw [rvB_cat]; exact hv) (by rw [rvB_cat]; exact hw) (k H locs la hP hS hl)
theorem g_pop (o : Ok K cc own nL d RC RS) {v : Value} (hd : decode cc pc = .ok (.pop, 1)) (hv : v.category = 1) (k : G K (pc + 1) ls st h x y) : G K pc ls (v :: st) h x y := by
  obtain ⟨⟨l, B, D, cA⟩, p, e, R, s, m, args, below, meth, c, Q⟩ := K
  intro H locs la hP hS hl
  exact lv_pop o.1 o.2.1 hd (by rw [rvB_cat]; exact hv) (k H locs la hP hS hl)
theorem g_if_eq (o : Ok K cc own nL d RC RS) {a : Int32} {off : Int} (tgt : Nat) (hd : decode cc pc = .ok (.ifCond .eq off, 3)) (ht : (pc : Int) + off = (tgt : Int)) (kt : a = 0 → G K tgt ls st h x y) (kf : ¬ a = 0 → G K (pc + 3) ls st h x y) : G K pc ls (.int a :: st) h x y := by
  obtain ⟨⟨l, B, D, cA⟩, p, e, R, s, m, args, below, meth, c, Q⟩ := K
  intro H locs la hP hS hl
  exact lv_if_eq o.1 o.2.1 hd ht (fun q => kt q H locs la hP hS hl) (fun q => kf q H locs la hP hS hl)
theorem g_icmp_eq (o : Ok K cc own nL d RC RS) {a b : Int32} {off : Int} (tgt : Nat) (hd : decode cc pc = .ok (.if_icmp .eq off, 3)) (ht : (pc : Int) + off = (tgt : Int)) (kt : a = b → G K tgt ls st h x y) (kf : ¬ a = b → G K (pc + 3) ls st h x y) : G K pc ls (.int b :: .int a :: st) h x y := by
  obtain ⟨⟨l, B, D, cA⟩, p, e, R, s, m, args, below, meth, c, Q⟩ := K
  intro H locs la hP hS hl
  exact lv_icmp_eq o.1 o.2.1 hd ht (fun q => kt q H locs la hP hS hl) (fun q => kf q H locs la hP hS hl)
theorem g_if_ne (o : Ok K cc own nL d RC RS) {a : Int32} {off : Int} (tgt : Nat) (hd : decode cc pc = .ok (.ifCond .ne off, 3)) (ht : (pc : Int) + off = (tgt : Int)) (kt : ¬ a = 0 → G K tgt ls st h x y) (kf : a = 0 → G K (pc + 3) ls st h x y) : G K pc ls (.int a :: st) h x y := by
  obtain ⟨⟨l, B, D, cA⟩, p, e, R, s, m, args, below, meth, c, Q⟩ := K
  intro H locs la hP hS hl
  exact lv_if_ne o.1 o.2.1 hd ht (fun q => kt q H locs la hP hS hl) (fun q => kf q H locs la hP hS hl)
theorem g_icmp_ne (o : Ok K cc own nL d RC RS) {a b : Int32} {off : Int} (tgt : Nat) (hd : decode cc pc = .ok (.if_icmp .ne off, 3)) (ht : (pc : Int) + off = (tgt : Int)) (kt : ¬ a = b → G K tgt ls st h x y) (kf : a = b → G K (pc + 3) ls st h x y) : G K pc ls (.int b :: .int a :: st) h x y := by
  obtain ⟨⟨l, B, D, cA⟩, p, e, R, s, m, args, below, meth, c, Q⟩ := K
  intro H locs la hP hS hl
  exact lv_icmp_ne o.1 o.2.1 hd ht (fun q => kt q H locs la hP hS hl) (fun q => kf q H locs la hP hS hl)
theorem g_if_lt (o : Ok K cc own nL d RC RS) {a : Int32} {off : Int} (tgt : Nat) (hd : decode cc pc = .ok (.ifCond .lt off, 3)) (ht : (pc : Int) + off = (tgt : Int)) (kt : a < 0 → G K tgt ls st h x y) (kf : ¬ a < 0 → G K (pc + 3) ls st h x y) : G K pc ls (.int a :: st) h x y := by
  obtain ⟨⟨l, B, D, cA⟩, p, e, R, s, m, args, below, meth, c, Q⟩ := K
  intro H locs la hP hS hl
  exact lv_if_lt o.1 o.2.1 hd ht (fun q => kt q H locs la hP hS hl) (fun q => kf q H locs la hP hS hl)
theorem g_icmp_lt (o : Ok K cc own nL d RC RS) {a b : Int32} {off : Int} (tgt : Nat) (hd : decode cc pc = .ok (.if_icmp .lt off, 3)) (ht : (pc : Int) + off = (tgt : Int)) (kt : a < b → G K tgt ls st h x y) (kf : ¬ a < b → G K (pc + 3) ls st h x y) : G K pc ls (.int b :: .int a :: st) h x y := by
  obtain ⟨⟨l, B, D, cA⟩, p, e, R, s, m, args, below, meth, c, Q⟩ := K
  intro H locs la hP hS hl
  exact lv_icmp_lt o.1 o.2.1 hd ht (fun q => kt q H locs la hP hS hl) (fun q => kf q H locs la hP hS hl)
theorem g_if_ge (o : Ok K cc own nL d RC RS) {a : Int32} {off : Int} (tgt : Nat) (hd : decode cc pc = .ok (.ifCond .ge off, 3)) (ht : (pc : Int) + off = (tgt : Int)) (kt : 0 ≤ a → G K tgt ls st h x y) (kf : ¬ 0 ≤ a → G K (pc + 3) ls st h x y) : G K pc ls (.int a :: st) h x y := by
  obtain ⟨⟨l, B, D, cA⟩, p, e, R, s, m, args, below, meth, c, Q⟩ := K
  intro H locs la hP hS hl
  exact lv_if_ge o.1 o.2.1 hd ht (fun q => kt q H locs la hP hS hl) (fun q => kf q H locs la hP hS hl)
theorem g_icmp_ge (o : Ok K cc own nL d RC RS) {a b : Int32} {off : Int} (tgt : Nat) (hd : decode cc pc = .ok (.if_icmp .ge off, 3)) (ht : (pc : Int) + off = (tgt : Int)) (kt : b ≤ a → G K tgt ls st h x y) (kf : ¬ b ≤ a → G K (pc + 3) ls st h x y) : G K pc ls (.int b :: .int a :: st) h x y := by
  obtain ⟨⟨l, B, D, cA⟩, p, e, R, s, m, args, below, meth, c, Q⟩ := K
  intro H locs la hP hS hl
  exact lv_icmp_ge o.1 o.2.1 hd ht (fun q => kt q H locs la hP hS hl) (fun q => kf q H locs la hP hS hl)
theorem g_if_gt (o : Ok K cc own nL d RC RS) {a : Int32} {off : Int} (tgt : Nat) (hd : decode cc pc = .ok (.ifCond .gt off, 3)) (ht : (pc : Int) + off = (tgt : Int)) (kt : 0 < a → G K tgt ls st h x y) (kf : ¬ 0 < a → G K (pc + 3) ls st h x y) : G K pc ls (.int a :: st) h x y := by
  obtain ⟨⟨l, B, D, cA⟩, p, e, R, s, m, args, below, meth, c, Q⟩ := K
  intro H locs la hP hS hl
  exact lv_if_gt o.1 o.2.1 hd ht (fun q => kt q H locs la hP hS hl) (fun q => kf q H locs la hP hS hl)
theorem g_icmp_gt (o : Ok K cc own nL d RC RS) {a b : Int32} {off : Int} (tgt : Nat) (hd : decode cc pc = .ok (.if_icmp .gt off, 3)) (ht : (pc : Int) + off = (tgt : Int)) (kt : b < a → G K tgt ls st h x y) (kf : ¬ b < a → G K (pc + 3) ls st h x y) : G K pc ls (.int b :: .int a :: st) h x y := by
  obtain ⟨⟨l, B, D, cA⟩, p, e, R, s, m, args, below, meth, c, Q⟩ := K
  intro H locs la hP hS hl
  exact lv_icmp_gt o.1 o.2.1 hd ht (fun q => kt q H locs la hP hS hl) (fun q => kf q H locs la hP hS hl)
theorem g_if_le (o : Ok K cc own nL d RC RS) {a : Int32} {off : Int} (tgt : Nat) (hd : decode cc pc = .ok (.ifCond .le off, 3)) (ht : (pc : Int) + off = (tgt : Int)) (kt : a ≤ 0 → G K tgt ls st h x y) (kf : ¬ a ≤ 0 → G K (pc + 3) ls st h x y) : G K pc ls (.int a :: st) h x y := by
  obtain ⟨⟨l, B, D, cA⟩, p, e, R, s, m, args, below, meth, c, Q⟩ := K
  intro H locs la hP hS hl
  exact lv_if_le o.1 o.2.1 hd ht (fun q => kt q H locs la hP hS hl) (fun q => kf q H locs la hP hS hl)
theorem g_icmp_le (o : Ok K cc own nL d RC RS) {a b : Int32} {off : Int} (tgt : Nat) (hd : decode cc pc = .ok (.if_icmp .le off, 3)) (ht : (pc : Int) + off = (tgt : Int)) (kt : a ≤ b → G K tgt ls st h x y) (kf : ¬ a ≤ b → G K (pc + 3) ls st h x y) : G K pc ls (.int b :: .int a :: st) h x y := by
  obtain ⟨⟨l, B, D, cA⟩, p, e, R, s, m, args, below, meth, c, Q⟩ := K
  intro H locs la hP hS hl
  exact lv_icmp_le o.1 o.2.1 hd ht (fun q => kt q H locs la hP hS hl) (fun q => kf q H locs la hP hS hl)
theorem g_goto (o : Ok K cc own nL d RC RS) {off : Int} (tgt : Nat) (hd : decode cc pc = .ok (.goto off, 3)) (ht : (pc : Int) + off = (tgt : Int)) (k : G K tgt ls st h x y) : G K pc ls st h x y := by
  obtain ⟨⟨l, B, D, cA⟩, p, e, R, s, m, args, below, meth, c, Q⟩ := K
  intro H locs la hP hS hl
  exact lv_goto o.1 o.2.1 hd ht (k H locs la hP hS hl)
theorem g_tabO (o : Ok K cc own nL d RC RS) {dflt lo hi : Int} {offs : Array Int} {len : Nat} {a : Int32} (tgt : Nat) (hd : decode cc pc = .ok (.tableswitch dflt lo hi offs, len)) (hq : a.toInt < lo ∨ hi < a.toInt) (ht : (pc : Int) + dflt = (tgt : Int)) (k : G K tgt ls st h x y) : G K pc ls (.int a :: st) h x y := by
  obtain ⟨⟨l, B, D, cA⟩, p, e, R, s, m, args, below, meth, c, Q⟩ := K
  intro H locs la hP hS hl
  exact lv_tableOut o.1 o.2.1 hd hq ht (k H locs la hP hS hl)
theorem g_tabI (o : Ok K cc own nL d RC RS) {dflt lo hi : Int} {offs : Array Int} {len : Nat} {a : Int32} {off : Int} (tgt : Nat) (hd : decode cc pc = .ok (.tableswitch dflt lo hi offs, len)) (q1 : ¬ a.toInt < lo) (q2 : ¬ hi < a.toInt) (ho : offs[(a.toInt - lo).toNat]? = some off) (ht : (pc : Int) + off = (tgt : Int)) (k : G K tgt ls st h x y) : G K pc ls (.int a :: st) h x y := by
  obtain ⟨⟨l, B, D, cA⟩, p, e, R, s, m, args, below, meth, c, Q⟩ := K
  intro H locs la hP hS hl
  exact lv_tableIn o.1 o.2.1 hd q1 q2 ho ht (k H locs la hP hS hl)
theorem g_look (o : Ok K cc own nL d RC RS) {dflt : Int} {ps : Array (Int × Int)} {len : Nat} {a : Int32} {off : Int} (tgt : Nat) (hd : decode cc pc = .ok (.lookupswitch dflt ps, len)) (hp : (ps.toList.zip (ps.toList.drop 1)).all (fun (a, next) => a.1 < next.1) = true) (ho : Op.lookupswitch.offset ps.toList dflt a.toInt = off) (ht : (pc : Int) + off = (tgt : Int)) (k : G K tgt ls st h x y) : G K pc ls (.int a :: st) h x y := by
  obtain ⟨⟨l, B, D, cA⟩, p, e, R, s, m, args, below, meth, c, Q⟩ := K
  intro H locs la hP hS hl
  exact lv_lookup o.1 o.2.1 hd hp ho ht (k H locs la hP hS hl)
/-- the field j of the class t, linked in the class own at idx -/
def FL (own : String) (idx t j : Nat) : Prop := t < 5 ∧ j < cln t ∧ (ctb t j).1 = cnm t ∧ Cond.fieldLink own idx (cnm t) (ctb t j).2.1 (ctb t j).2.2.1 ∈ gtbl
def FI (own : String) (idx t j : Nat) : Prop := FL own idx t j ∧ (cty t j = .int ∨ cty t j = .boolean)
def FJ (own : String) (idx t j : Nat) : Prop := FL own idx t j ∧ cty t j = .long
def FR (own : String) (idx t j : Nat) : Prop := FL own idx t j ∧ ((∃ q, cty t j = .object q) ∨ ∃ q, cty t j = .array q)
theorem fvl_i {B : Nat} {M : HM} {Rf : HR} {Lg : HL} {t k j : Nat} (h : cty t j = .int ∨ cty t j = .boolean) : fvl B M Rf Lg t k j = .int (M k j) := by
  unfold fvl; rcases h with h | h <;> rw [h]
theorem fvl_j {B : Nat} {M : HM} {Rf : HR} {Lg : HL} {t k j : Nat} (h : cty t j = .long) : fvl B M Rf Lg t k j = .long (Lg k j) := by
  unfold fvl; rw [h]
theorem fvl_r {B : Nat} {M : HM} {Rf : HR} {Lg : HL} {t k j : Nat} (h : (∃ q, cty t j = .object q) ∨ ∃ q, cty t j = .array q) : fvl B M Rf Lg t k j = va_rf ((Rf k j).map (B + ·)) := by
  unfold fvl; rcases h with ⟨q, h⟩ | ⟨q, h⟩ <;> rw [h]
theorem g_get (o : Ok K cc own nL d RC RS) {idx t j a N : Nat} (f : FL own idx t j) (hs : shp a = (t, N)) (ha : a < n) {v : Value} (hv : fvl K.1.2.1 M Rf Lg t a j = rvB K.1.2.1 v) (hd : decode cc pc = .ok (.getfield idx, 3)) (k : G K (pc + 3) ls (v :: st) (n, M, Rf, Lg) x y) : G K pc ls (.ref a :: st) (n, M, Rf, Lg) x y := by
  obtain ⟨⟨l, B, D, cA⟩, p, e, R, s, m, args, below, meth, c, Q⟩ := K
  intro H locs la hP hS hl
  obtain ⟨ft, fj, fo, fw⟩ := f
  obtain ⟨cell, q1, q2, q3, q4⟩ := (wE_obj hs ft).mp (hP.2 a ha)
  obtain ⟨hS2, hfc, kC, hkC, hkind⟩ := o.2.2.2.2.2.1.1 t ft
  obtain ⟨cf, kf, fi, fd, hi, hsl⟩ := hS2 j fj
  have hst := (u_facts hfc hkC (u_lays o.2.2.2.2.1 (in_all t ft) fj) hi).1
  rw [fo] at hi
  refine W.getf o.1 o.2.1 o.2.2.2.1 (o.2.2.2.2.1 _ fw) hi hst q1 (by rw [q3]; exact fun h => by cases h) (v := rvB B v) ?_ rfl rfl hd (k H locs la hP hS hl)
  rw [hsl, q4 j fj]
  exact congrArg some hv
theorem g_getI (o : Ok K cc own nL d RC RS) {idx t j a N : Nat} (f : FI own idx t j) (hs : shp a = (t, N)) (ha : a < n) (hd : decode cc pc = .ok (.getfield idx, 3)) (k : G K (pc + 3) ls (.int (M a j) :: st) (n, M, Rf, Lg) x y) : G K pc ls (.ref a :: st) (n, M, Rf, Lg) x y := g_get o f.1 hs ha (v := .int (M a j)) (fvl_i f.2) hd k
theorem g_getJ (o : Ok K cc own nL d RC RS) {idx t j a N : Nat} (f : FJ own idx t j) (hs : shp a = (t, N)) (ha : a < n) (hd : decode cc pc = .ok (.getfield idx, 3)) (k : G K (pc + 3) ls (.long (Lg a j) :: st) (n, M, Rf, Lg) x y) : G K pc ls (.ref a :: st) (n, M, Rf, Lg) x y := g_get o f.1 hs ha (v := .long (Lg a j)) (fvl_j f.2) hd k
theorem g_getR (o : Ok K cc own nL d RC RS) {idx t j a N b : Nat} (f : FR own idx t j) (hs : shp a = (t, N)) (ha : a < n) (hr : Rf a j = some b) (hd : decode cc pc = .ok (.getfield idx, 3)) (k : G K (pc + 3) ls (.ref b :: st) (n, M, Rf, Lg) x y) : G K pc ls (.ref a :: st) (n, M, Rf, Lg) x y := g_get o f.1 hs ha (v := .ref b) (by rw [fvl_r f.2, hr]; rfl) hd k
theorem w_apart {s : State} {args : Array Value} {D : va_G} {cA : Nat → ClassId} (hts : ∀ w ∈ gtbl, w.before args s = true) (hK : KnAll s D cA) {t : Nat} (ht : t < 5) : ∀ x y, x < cln t → y < cln t → x ≠ y → (D.2 t) x ≠ (D.2 t) y := by
  intro x y hx hy hne
  obtain ⟨hS, -⟩ := hK.1 t ht
  obtain ⟨_, _, _, fa, hia, ea⟩ := hS x hx
  obtain ⟨_, _, _, fb, hib, eb⟩ := hS y hy
  rw [← ea, ← eb]
  refine u_apart (u_lays hts (in_all t ht) hx) (u_lays hts (in_all t ht) hy) hia hib ?_
  rw [(State.fieldFound?_type hia (ty_all t ht x hx)).1, (State.fieldFound?_type hib (ty_all t ht y hy)).1]
  exact nm_all t ht x hx y hy hne
theorem g_put (o : Ok K cc own nL d RC RS) {idx t j a N : Nat} (f : FL own idx t j) (hfin : (ctb t j).2.2.2 = false) (hs : shp a = (t, N)) (ha : a < n) {v : Value} (hn : narrow (cty t j) (rvB K.1.2.1 v) = rvB K.1.2.1 v) (hfit : fits (cty t j) (rvB K.1.2.1 v) = true) {M' : HM} {Rf' : HR} {Lg' : HL}
    (hM : ∀ z, z ≠ a → M' z = M z) (hR : ∀ z, z ≠ a → Rf' z = Rf z) (hL : ∀ z, z ≠ a → Lg' z = Lg z) (hrow : ∀ z, fvl K.1.2.1 M' Rf' Lg' t a z = if z = j then rvB K.1.2.1 v else fvl K.1.2.1 M Rf Lg t a z)
    (hd : decode cc pc = .ok (.putfield idx, 3)) (k : G K (pc + 3) ls st (n, M', Rf', Lg') x y) : G K pc ls (v :: .ref a :: st) (n, M, Rf, Lg) x y := by
  obtain ⟨⟨l, B, D, cA⟩, p, e, R, s, m, args, below, meth, c, Q⟩ := K
  intro H locs la hP hS hl
  obtain ⟨ft, fj, fo, fw⟩ := f
  have hap := w_apart o.2.2.2.2.1 o.2.2.2.2.2.1 ft
  obtain ⟨cell, q1, q2, q3, q4⟩ := (wE_obj hs ft).mp (hP.2 a ha)
  obtain ⟨hS2, hfc, kC, hkC, hkind⟩ := o.2.2.2.2.2.1.1 t ft
  obtain ⟨cf, kf, fi, fd, hi, hsl⟩ := hS2 j fj
  have hlay := o.2.2.2.2.1 _ (in_all t ft _ (u_in_lay fj))
  unfold u_lay at hlay
  rw [if_neg (by rw [hfin]; decide)] at hlay
  have hst := (u_facts hfc hkC (u_lays o.2.2.2.2.1 (in_all t ft) fj) hi).1
  have h6 := u_store hfc hkC hkind hlay hi (ty_all t ft j fj) hn hfit
  have hi2 := hi
  rw [fo] at hi2
  refine W.putK o.1 o.2.1 (f := fd) ⟨o.2.2.2.1, o.2.2.2.2.1 _ fw, ⟨_, _, _, hi2⟩, hst⟩ (by rw [q2]; exact h6) q1 q3 (by rw [hsl]; exact k2_hasslot (q4 j fj)) rfl rfl hd fun H2 e1 e2 e3 => ?_
  rw [hsl] at e1 ⊢
  refine k H2 _ la (hP.upd (k := a) e2 e3 hM hR hL ((wE_obj hs ft).mpr (t_OB.to ⟨_, e1, q2, q3, t_set q4 hap fj (rvB B v)⟩ (fun z _ => ?_)))) (hS.put e2 e3 (Nat.le_add_right B a)) hl
  show updV _ j (rvB B v) z = _
  rw [hrow z]
  rfl
theorem g_putF (o : Ok K cc own nL d RC RS) (hin : K.2.2.2.2.2.2.2.2.1.name = "<init>") {idx t j a N : Nat} (f : FL own idx t j) (hfin : (ctb t j).2.2.2 = true) (hcl : cnm t = own) (hs : shp a = (t, N)) (ha : a < n) {v : Value} (hn : narrow (cty t j) (rvB K.1.2.1 v) = rvB K.1.2.1 v) (hfit : fits (cty t j) (rvB K.1.2.1 v) = true) {M' : HM} {Rf' : HR} {Lg' : HL}
    (hM : ∀ z, z ≠ a → M' z = M z) (hR : ∀ z, z ≠ a → Rf' z = Rf z) (hL : ∀ z, z ≠ a → Lg' z = Lg z) (hrow : ∀ z, fvl K.1.2.1 M' Rf' Lg' t a z = if z = j then rvB K.1.2.1 v else fvl K.1.2.1 M Rf Lg t a z)
    (hd : decode cc pc = .ok (.putfield idx, 3)) (k : G K (pc + 3) ls st (n, M', Rf', Lg') x y) : G K pc ls (v :: .ref a :: st) (n, M, Rf, Lg) x y := by
  obtain ⟨⟨l, B, D, cA⟩, p, e, R, s, m, args, below, meth, c, Q⟩ := K
  intro H locs la hP hS hl
  obtain ⟨ft, fj, fo, fw⟩ := f
  have hap := w_apart o.2.2.2.2.1 o.2.2.2.2.2.1 ft
  obtain ⟨cell, q1, q2, q3, q4⟩ := (wE_obj hs ft).mp (hP.2 a ha)
  obtain ⟨hS2, hfc, kC, hkC, hkind⟩ := o.2.2.2.2.2.1.1 t ft
  obtain ⟨cf, kf, fi, fd, hi, hsl⟩ := hS2 j fj
  have hlay := o.2.2.2.2.1 _ (in_all t ft _ (u_in_lay fj))
  unfold u_lay at hlay
  rw [if_pos hfin] at hlay
  have hst := (u_facts hfc hkC (u_lays o.2.2.2.2.1 (in_all t ft) fj) hi).1
  have hcf : m.cls = cf := by
    obtain ⟨_, _, c', _, _, _, -, -, hf', -, -, -, hown2, -⟩ := Cond.laysFinal_spec hlay
    have e1 : c' = cf := by have := hi.symm.trans hf'; simp at this; exact this.1.symm
    rw [fo, hcl] at hown2
    rw [← e1]; exact Option.some.inj (o.2.2.2.1.symm.trans hown2)
  have h6 := u_fits hfc hkC hkind (Or.inr hlay) hi (ty_all t ft j fj) hn hfit
  have hi2 := hi
  rw [fo] at hi2
  refine W.putFinK o.1 o.2.1 o.2.2.2.1 (o.2.2.2.2.1 _ fw) hi2 hst hcf hin (by rw [q2]; exact h6) q1 q3 (by rw [hsl]; exact k2_hasslot (q4 j fj)) rfl rfl hd fun H2 e1 e2 e3 => ?_
  rw [hsl] at e1 ⊢
  refine k H2 _ la (hP.upd (k := a) e2 e3 hM hR hL ((wE_obj hs ft).mpr (t_OB.to ⟨_, e1, q2, q3, t_set q4 hap fj (rvB B v)⟩ (fun z _ => ?_)))) (hS.put e2 e3 (Nat.le_add_right B a)) hl
  show updV _ j (rvB B v) z = _
  rw [hrow z]
  rfl
theorem row_i {B : Nat} {M : HM} {Rf : HR} {Lg : HL} {t a j : Nat} {v : Int32} (ht : cty t j = .int ∨ cty t j = .boolean) (z : Nat) : fvl B (st2 M a j v) Rf Lg t a z = if z = j then rvB B (.int v) else fvl B M Rf Lg t a z := by
  by_cases e : z = j
  · subst e
    rw [if_pos rfl, fvl_i ht, st2_row, if_pos rfl]
    rfl
  · rw [if_neg e]
    unfold fvl
    simp only [st2_row, if_neg e]
theorem row_j {B : Nat} {M : HM} {Rf : HR} {Lg : HL} {t a j : Nat} {v : Int64} (ht : cty t j = .long) (z : Nat) : fvl B M Rf (st2 Lg a j v) t a z = if z = j then rvB B (.long v) else fvl B M Rf Lg t a z := by
  by_cases e : z = j
  · subst e
    rw [if_pos rfl, fvl_j ht, st2_row, if_pos rfl]
    rfl
  · rw [if_neg e]
    unfold fvl
    simp only [st2_row, if_neg e]
theorem row_r {B : Nat} {M : HM} {Rf : HR} {Lg : HL} {t a j b : Nat} (ht : (∃ q, cty t j = .object q) ∨ ∃ q, cty t j = .array q) (z : Nat) : fvl B M (st2 Rf a j (some b)) Lg t a z = if z = j then rvB B (.ref b) else fvl B M Rf Lg t a z := by
  by_cases e : z = j
  · subst e
    rw [if_pos rfl, fvl_r ht, st2_row, if_pos rfl]
    rfl
  · rw [if_neg e]
    unfold fvl
    simp only [st2_row, if_neg e]
theorem g_putI (o : Ok K cc own nL d RC RS) {idx t j a N : Nat} {v : Int32} (f : FI own idx t j) (hfin : (ctb t j).2.2.2 = false) (hs : shp a = (t, N)) (ha : a < n) (hn : narrow (cty t j) (.int v) = .int v) (hfit : fits (cty t j) (.int v) = true) (hd : decode cc pc = .ok (.putfield idx, 3)) (k : G K (pc + 3) ls st (n, st2 M a j v, Rf, Lg) x y) : G K pc ls (.int v :: .ref a :: st) (n, M, Rf, Lg) x y :=
  g_put o f.1 hfin hs ha hn hfit (fun _ hz => st2_ne M j v hz) (fun _ _ => rfl) (fun _ _ => rfl) (row_i f.2) hd k
theorem g_putJ (o : Ok K cc own nL d RC RS) {idx t j a N : Nat} {v : Int64} (f : FJ own idx t j) (hfin : (ctb t j).2.2.2 = false) (hs : shp a = (t, N)) (ha : a < n) (hd : decode cc pc = .ok (.putfield idx, 3)) (k : G K (pc + 3) ls st (n, M, Rf, st2 Lg a j v) x y) : G K pc ls (.long v :: .ref a :: st) (n, M, Rf, Lg) x y :=
  g_put o f.1 hfin hs ha (v := .long v) (by rw [f.2]; rfl) (by rw [f.2]; rfl) (fun _ _ => rfl) (fun _ _ => rfl) (fun _ hz => st2_ne Lg j v hz) (row_j f.2) hd k
theorem fits_r {B b : Nat} {ty : FieldType} (h : (∃ q, ty = .object q) ∨ ∃ q, ty = .array q) : narrow ty (rvB B (.ref b)) = rvB B (.ref b) ∧ fits ty (rvB B (.ref b)) = true := by
  rcases h with ⟨q, rfl⟩ | ⟨q, rfl⟩ <;> exact ⟨rfl, rfl⟩
theorem g_putR (o : Ok K cc own nL d RC RS) {idx t j a N b : Nat} (f : FR own idx t j) (hfin : (ctb t j).2.2.2 = false) (hs : shp a = (t, N)) (ha : a < n) (hd : decode cc pc = .ok (.putfield idx, 3)) (k : G K (pc + 3) ls st (n, M, st2 Rf a j (some b), Lg) x y) : G K pc ls (.ref b :: .ref a :: st) (n, M, Rf, Lg) x y :=
  g_put o f.1 hfin hs ha (fits_r f.2).1 (fits_r f.2).2 (fun _ _ => rfl) (fun _ hz => st2_ne Rf j (some b) hz) (fun _ _ => rfl) (row_r f.2) hd k
theorem g_putRF (o : Ok K cc own nL d RC RS) (hin : K.2.2.2.2.2.2.2.2.1.name = "<init>") {idx t j a N b : Nat} (f : FR own idx t j) (hfin : (ctb t j).2.2.2 = true) (hcl : cnm t = own) (hs : shp a = (t, N)) (ha : a < n) (hd : decode cc pc = .ok (.putfield idx, 3)) (k : G K (pc + 3) ls st (n, M, st2 Rf a j (some b), Lg) x y) : G K pc ls (.ref b :: .ref a :: st) (n, M, Rf, Lg) x y :=
  g_putF o hin f.1 hfin hcl hs ha (fits_r f.2).1 (fits_r f.2).2 (fun _ _ => rfl) (fun _ hz => st2_ne Rf j (some b) hz) (fun _ _ => rfl) (row_r f.2) hd k
theorem lay_small : ∀ q ∈ lay, q.2 < 1000 := by decide
theorem shp_small (a : Nat) : (shp a).2 < 1000 := by
  unfold shp
  rw [List.getD_eq_getElem?_getD]
  cases h : lay[a]? with
  | none => decide
  | some q => exact lay_small q (List.mem_of_getElem? h)
theorem ix_in {a t N k : Nat} {i : Int32} (hs : shp a = (t, N)) (hi : i = nI k) (hk : k < N) : vp_in i N ∧ i.toNatClampNeg = k := by
  have h1 : N < 1000 := by have := shp_small a; rw [hs] at this; exact this
  subst hi
  exact ⟨vp_in_nI hk (by omega), nI_clamp (by omega)⟩
theorem g_iald (o : Ok K cc own nL d RC RS) {a N : Nat} {i : Int32} (j : Nat) (hs : shp a = (6, N)) (ha : a < n) (hi : i = nI j) (hj : j < N) (hd : decode cc pc = .ok (.iaload, 1)) (k : G K (pc + 1) ls (.int (M a j) :: st) (n, M, Rf, Lg) x y) : G K pc ls (.int i :: .ref a :: st) (n, M, Rf, Lg) x y := by
  obtain ⟨⟨l, B, D, cA⟩, p, e, R, s, m, args, below, meth, c, Q⟩ := K
  intro H locs la hP hS hl
  obtain ⟨hin, hcl⟩ := ix_in hs hi hj
  have hc := (wE_int hs (by decide) (by decide)).mp (hP.2 a ha)
  have hA := (o.2.2.2.2.2.1.2.1 6 (by decide) (by decide)).1 N (fun j => .int (M a j))
  exact W.iald (v := .int (M a j)) o.1 o.2.1 hc hA (fun q => by cases q) (by rw [arrV_size]; exact hin) (by rw [hcl, arrV_read _ _ hj]) rfl rfl hd (k H locs la hP hS hl)
theorem g_cald (o : Ok K cc own nL d RC RS) {a N : Nat} {i : Int32} (j : Nat) (hs : shp a = (5, N)) (ha : a < n) (hi : i = nI j) (hj : j < N) (hd : decode cc pc = .ok (.caload, 1)) (k : G K (pc + 1) ls (.int (M a j) :: st) (n, M, Rf, Lg) x y) : G K pc ls (.int i :: .ref a :: st) (n, M, Rf, Lg) x y := by
  obtain ⟨⟨l, B, D, cA⟩, p, e, R, s, m, args, below, meth, c, Q⟩ := K
  intro H locs la hP hS hl
  obtain ⟨hin, hcl⟩ := ix_in hs hi hj
  have hc := (wE_int hs (by decide) (by decide)).mp (hP.2 a ha)
  have hA := (o.2.2.2.2.2.1.2.1 5 (by decide) (by decide)).1 N (fun j => .int (M a j))
  exact W.cald (v := .int (M a j)) o.1 o.2.1 hc hA (fun q => by cases q) (by rw [arrV_size]; exact hin) (by rw [hcl, arrV_read _ _ hj]) rfl rfl hd (k H locs la hP hS hl)
theorem g_zald (o : Ok K cc own nL d RC RS) {a N : Nat} {i : Int32} (j : Nat) (hs : shp a = (7, N)) (ha : a < n) (hi : i = nI j) (hj : j < N) (hd : decode cc pc = .ok (.baload, 1)) (k : G K (pc + 1) ls (.int (M a j) :: st) (n, M, Rf, Lg) x y) : G K pc ls (.int i :: .ref a :: st) (n, M, Rf, Lg) x y := by
  obtain ⟨⟨l, B, D, cA⟩, p, e, R, s, m, args, below, meth, c, Q⟩ := K
  intro H locs la hP hS hl
  obtain ⟨hin, hcl⟩ := ix_in hs hi hj
  have hc := (wE_int hs (by decide) (by decide)).mp (hP.2 a ha)
  have hA := (o.2.2.2.2.2.1.2.1 7 (by decide) (by decide)).1 N (fun j => .int (M a j))
  exact W.zald (v := .int (M a j)) o.1 o.2.1 hc hA (fun q => by cases q) (by rw [arrV_size]; exact hin) (by rw [hcl, arrV_read _ _ hj]) rfl rfl hd (k H locs la hP hS hl)
theorem g_aald (o : Ok K cc own nL d RC RS) {t a N b : Nat} {i : Int32} (j : Nat) (hs : shp a = (t, N)) (ht : t = 8 ∨ t = 9) (ha : a < n) (hi : i = nI j) (hj : j < N) (hr : Rf a j = some b) (hd : decode cc pc = .ok (.aaload, 1)) (k : G K (pc + 1) ls (.ref b :: st) (n, M, Rf, Lg) x y) : G K pc ls (.int i :: .ref a :: st) (n, M, Rf, Lg) x y := by
  obtain ⟨⟨l, B, D, cA⟩, p, e, R, s, m, args, below, meth, c, Q⟩ := K
  intro H locs la hP hS hl
  obtain ⟨hin, hcl⟩ := ix_in hs hi hj
  have hc : H[B + a]? = some (arrV (cA t) N (fun j => va_rf ((Rf a j).map (B + ·)))) := (wE_ref hs (by omega)).mp (hP.2 a ha)
  have hA := (o.2.2.2.2.2.1.2.1 t (by omega) (by omega)).1 N (fun j => va_rf ((Rf a j).map (B + ·)))
  refine W.aald (v := rvB B (.ref b)) (ty := aty t) o.1 o.2.1 hc hA (by rcases ht with rfl | rfl <;> rfl) (fun q => by cases q) (by rw [arrV_size]; exact hin) (by rw [hcl, arrV_read _ _ hj, hr]; rfl) rfl rfl hd (k H locs la hP hS hl)
theorem g_iast (o : Ok K cc own nL d RC RS) {a N : Nat} {i v : Int32} (j : Nat) (hs : shp a = (6, N)) (ha : a < n) (hi : i = nI j) (hj : j < N) (hd : decode cc pc = .ok (.iastore, 1)) (k : G K (pc + 1) ls st (n, st2 M a j v, Rf, Lg) x y) : G K pc ls (.int v :: .int i :: .ref a :: st) (n, M, Rf, Lg) x y := by
  obtain ⟨⟨l, B, D, cA⟩, p, e, R, s, m, args, below, meth, c, Q⟩ := K
  intro H locs la hP hS hl
  obtain ⟨hin, hcl⟩ := ix_in hs hi hj
  have hc := (wE_int hs (by decide) (by decide)).mp (hP.2 a ha)
  have hA := (o.2.2.2.2.2.1.2.1 6 (by decide) (by decide)).1 N (fun j => .int (M a j))
  refine W.iast o.1 o.2.1 hc hA (fun q => by cases q) (by rw [arrV_size]; exact hin) rfl rfl hd fun H2 e z oq => ?_
  refine k H2 _ la (hP.upd (k := a) z oq (fun _ hz => st2_ne M j v hz) (fun _ _ => rfl) (fun _ _ => rfl) ((wE_int hs (by decide) (by decide)).mpr ?_)) (hS.put z oq (Nat.le_add_right B a)) hl
  rw [e, hcl, arrV_store]
  refine congrArg some (congrArg (arrV _ N) (funext fun q => ?_))
  by_cases hq : q = j
  · subst hq; simp [updV, st2_row]
  · simp [updV, st2_row, hq]
theorem g_zast (o : Ok K cc own nL d RC RS) {a N : Nat} {i v : Int32} (j : Nat) (hs : shp a = (7, N)) (ha : a < n) (hi : i = nI j) (hj : j < N) (hv : narrow .boolean (.int v) = .int v) (hd : decode cc pc = .ok (.bastore, 1)) (k : G K (pc + 1) ls st (n, st2 M a j v, Rf, Lg) x y) : G K pc ls (.int v :: .int i :: .ref a :: st) (n, M, Rf, Lg) x y := by
  obtain ⟨⟨l, B, D, cA⟩, p, e, R, s, m, args, below, meth, c, Q⟩ := K
  intro H locs la hP hS hl
  obtain ⟨hin, hcl⟩ := ix_in hs hi hj
  have hc := (wE_int hs (by decide) (by decide)).mp (hP.2 a ha)
  have hA := (o.2.2.2.2.2.1.2.1 7 (by decide) (by decide)).1 N (fun j => .int (M a j))
  refine W.zast o.1 o.2.1 hc hA (fun q => by cases q) (by rw [arrV_size]; exact hin) rfl rfl hd fun H2 e z oq => ?_
  rw [hv] at e
  refine k H2 _ la (hP.upd (k := a) z oq (fun _ hz => st2_ne M j v hz) (fun _ _ => rfl) (fun _ _ => rfl) ((wE_int hs (by decide) (by decide)).mpr ?_)) (hS.put z oq (Nat.le_add_right B a)) hl
  rw [e, hcl, arrV_store]
  refine congrArg some (congrArg (arrV _ N) (funext fun q => ?_))
  by_cases hq : q = j
  · subst hq; simp [updV, st2_row]
  · simp [updV, st2_row, hq]
theorem g_cast (o : Ok K cc own nL d RC RS) {a N : Nat} {i v : Int32} (j : Nat) (hs : shp a = (5, N)) (ha : a < n) (hi : i = nI j) (hj : j < N) (hv : narrow .char (.int v) = .int v) (hd : decode cc pc = .ok (.castore, 1)) (k : G K (pc + 1) ls st (n, st2 M a j v, Rf, Lg) x y) : G K pc ls (.int v :: .int i :: .ref a :: st) (n, M, Rf, Lg) x y := by
  obtain ⟨⟨l, B, D, cA⟩, p, e, R, s, m, args, below, meth, c, Q⟩ := K
  intro H locs la hP hS hl
  obtain ⟨hin, hcl⟩ := ix_in hs hi hj
  have hc := (wE_int hs (by decide) (by decide)).mp (hP.2 a ha)
  have hA := (o.2.2.2.2.2.1.2.1 5 (by decide) (by decide)).1 N (fun j => .int (M a j))
  refine W.cast o.1 o.2.1 hc hA (fun q => by cases q) (by rw [arrV_size]; exact hin) rfl rfl hd fun H2 e z oq => ?_
  rw [hv] at e
  refine k H2 _ la (hP.upd (k := a) z oq (fun _ hz => st2_ne M j v hz) (fun _ _ => rfl) (fun _ _ => rfl) ((wE_int hs (by decide) (by decide)).mpr ?_)) (hS.put z oq (Nat.le_add_right B a)) hl
  rw [e, hcl, arrV_store]
  refine congrArg some (congrArg (arrV _ N) (funext fun q => ?_))
  by_cases hq : q = j
  · subst hq; simp [updV, st2_row]
  · simp [updV, st2_row, hq]
theorem g_aast (o : Ok K cc own nL d RC RS) {a N b N2 : Nat} {i : Int32} (j : Nat) (hs : shp a = (8, N)) (ha : a < n) (hi : i = nI j) (hj : j < N) (hb : shp b = (1, N2)) (hbn : b < n) (hd : decode cc pc = .ok (.aastore, 1)) (k : G K (pc + 1) ls st (n, M, st2 Rf a j (some b), Lg) x y) : G K pc ls (.ref b :: .int i :: .ref a :: st) (n, M, Rf, Lg) x y := by
  obtain ⟨⟨l, B, D, cA⟩, p, e, R, s, m, args, below, meth, c, Q⟩ := K
  intro H locs la hP hS hl
  obtain ⟨hin, hcl⟩ := ix_in hs hi hj
  have hc := (wE_ref hs (by decide)).mp (hP.2 a ha)
  obtain ⟨cellV, g1, g2, g3, -⟩ := (wE_obj hb (by decide)).mp (hP.2 b hbn)
  have hcls := (o.2.2.2.2.2.1.1 1 (by decide)).2
  obtain ⟨kA, comp, k1, k2, k3, -⟩ := (o.2.2.2.2.2.1.2.1 8 (by decide) (by decide)).2
  have hcomp : comp = D.1 1 := Option.some.inj (k3.symm.trans hcls.1)
  subst hcomp
  obtain ⟨kC, hkC, -⟩ := hcls.2
  refine W.aast o.1 o.2.1 hc (fun q h => by cases h) (fun h => by cases h) k1 k2 rfl hkC ⟨fun q => hin (Or.inl q), by rw [arrV_size, hcl]; exact hj⟩ g1 (fun q h => by rw [g3] at h; cases h) (by rw [g2]; exact hkC) (by rw [g2]; exact va_assign hcls) rfl rfl hd fun H2 e z oq => ?_
  refine k H2 _ la (hP.upd (k := a) z oq (fun _ _ => rfl) (fun _ hz => st2_ne Rf j (some b) hz) (fun _ _ => rfl) ((wE_ref hs (by decide)).mpr ?_)) (hS.put z oq (Nat.le_add_right B a)) hl
  rw [e, hcl, arrV_store]
  refine congrArg some (congrArg (arrV _ N) (funext fun q => ?_))
  by_cases hq : q = j
  · subst hq; simp [updV, st2_row, va_rf]
  · simp [updV, st2_row, hq]
end RULES
