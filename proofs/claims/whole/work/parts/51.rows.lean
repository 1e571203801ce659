section M41
/-! a row of four rows of six ints, which one instruction makes. Both lengths are numerals, so the loop is written out: four turns, a turn is one making and one store. -/
/-- what the row of rows at b holds behind k turns -/
def tw (b k : Nat) : Nat → Value := fun j => if j < k then .ref (b + (1 + j)) else .null
theorem tw_next (b k : Nat) : updV (tw b k) k (.ref (b + (1 + k))) = tw b (k + 1) := by
  funext j
  show (if j = k then Value.ref (b + (1 + k)) else if j < k then .ref (b + (1 + j)) else .null) = if j < k + 1 then .ref (b + (1 + j)) else .null
  rcases Nat.lt_trichotomy j k with z | z | z
  · rw [if_neg (Nat.ne_of_lt z), if_pos z, if_pos (Nat.lt_succ_of_lt z)]
  · rw [if_pos z, if_pos (by omega), z]
  · rw [if_neg (Nat.ne_of_gt z), if_neg (Nat.lt_asymm z), if_neg (by omega)]
theorem tw_zero (b : Nat) : tw b 0 = fun _ => .null := funext fun j => if_neg (Nat.not_lt_zero j)
/-- turn k -/
def tu (cO cI : ClassId) (b k : Nat) (U : State) : State := (U.pushCell (arrV cI 6 fun _ => .int 0)).setCell b (arrV cO 4 (tw b (k + 1)))
/-- U is T, then the row of rows, then k rows: each cell of it is told -/
def Hung (cO cI : ClassId) (T : State) (k : Nat) (U : State) : Prop :=
  U.vm = T.vm ∧ U.slotsUsed = T.slotsUsed + (4 + 6 * k) ∧ U.heap.size = T.heap.size + (1 + k) ∧
    ∀ q : Nat, q < T.heap.size + (1 + k) → U.heap[q]? = if q < T.heap.size then T.heap[q]? else some (if q = T.heap.size then arrV cO 4 (tw T.heap.size k) else arrV cI 6 fun _ => .int 0)
theorem Hung.first (cO cI : ClassId) (T : State) : Hung cO cI T 0 (T.pushCell (arrV cO 4 (tw T.heap.size 0))) := by
  refine ⟨rfl, ?_, ?_, fun q hq => ?_⟩
  · show T.slotsUsed + _ = _
    rw [arrV_size]
  · show (T.heap.push _).size = _
    rw [Array.size_push]
  · show (T.heap.push _)[q]? = _
    rw [Array.getElem?_push]
    by_cases z : q = T.heap.size
    · rw [if_pos z, if_neg (by omega), if_pos z]
    · rw [if_neg z, if_pos (by omega)]
theorem Hung.turn {cO cI : ClassId} {T U : State} {k : Nat} (h : Hung cO cI T k U) : Hung cO cI T (k + 1) (tu cO cI T.heap.size k U) := by
  obtain ⟨h1, h2, h3, h4⟩ := h
  refine ⟨h1, ?_, ?_, fun q hq => ?_⟩
  · show U.slotsUsed + _ = _
    rw [arrV_size, h2]; omega
  · show ((U.heap.push _).setIfInBounds _ _).size = _
    rw [Array.size_setIfInBounds, Array.size_push, h3]; omega
  · show ((U.heap.push _).setIfInBounds _ _)[q]? = _
    rw [Array.getElem?_setIfInBounds, Array.size_push, Array.getElem?_push, h3]
    by_cases z : q = T.heap.size
    · rw [if_pos z.symm, if_pos (by omega), if_neg (by omega), if_pos z]
    · rw [if_neg (Ne.symm z)]
      by_cases y : q = T.heap.size + (1 + k)
      · rw [if_pos y, if_neg (by omega), if_neg z]
      · rw [if_neg y, h4 q (by omega), if_neg z, if_neg z]
theorem Hung.held {cO cI : ClassId} {T U : State} {k : Nat} (h : Hung cO cI T k U) (x : Cell) : (U.pushCell x).heap[T.heap.size]? = some (arrV cO 4 (tw T.heap.size k)) := by
  show (U.heap.push x)[T.heap.size]? = _
  rw [Array.getElem?_push, h.2.2.1, if_neg (by omega), h.2.2.2 _ (by omega), if_neg (Nat.lt_irrefl _), if_pos rfl]
theorem Hung.stand {cO cI : ClassId} {T0 U : State} {k : Nat} (h : Hung cO cI T0 k U) {p : Program} {l : Launch} {e : Env} {R : Room} {s : State} {m : MethodId} {args : Array Value} {below : List Frame} {meth : Method} {c : Code} {locs : List Loc} {cells slots : Nat} (X : Stand p l e R s m args below meth c U locs cells slots) : Stand p l e R s m args below meth c (tu cO cI T0.heap.size k U) (locs ++ [⟨T0.heap.size, k⟩]) (cells + 1) (slots + 6) := by
  have Y := (X.pushed (arrV cI 6 fun _ => .int 0)).stored (h.held _) k (.ref (T0.heap.size + (1 + k)))
  rw [arrV_size, arrV_store, tw_next] at Y
  exact Y
/-- what must stand ready: the two classes, and room -/
def Fit4 (e : Env) (T : State) (cO cI : ClassId) : Prop :=
  (∃ k, T.vm.classes[cO]? = some k ∧ k.kind = .array cI (.array .int)) ∧ (∃ k c2, T.vm.classes[cI]? = some k ∧ k.kind = .array c2 .int) ∧
    6 ≤ e.platform.arrayLengthLimit ∧ 24 ≤ e.platform.maxHeapBytes ∧ T.heap.size + 5 ≤ e.platform.maxCells ∧ T.slotsUsed + 28 ≤ e.platform.maxSlots
theorem Hung.does {cO cI : ClassId} {T U : State} {k : Nat} (h : Hung cO cI T k U) (hk : k < 4) {e : Env} (F : Fit4 e T cO cI) {E : CtlPost} {d : Bool} {acts : List Action} {Q : ForInStep PUnit → Pre} (hq : ∀ acts', Q (.yield PUnit.unit) true acts' (tu cO cI T.heap.size k U)) :
    wp (do let r ← multianewarray.make cI [6]; Jvm.writeLoc T.heap.size k (.ref r); Pure.pure (ForInStep.yield PUnit.unit)) Q E e d acts U := by
  obtain ⟨⟨kO, rO, tO⟩, ⟨kI, c2, rI, tI⟩, f1, f2, f3, f4⟩ := F
  obtain ⟨h1, h2, h3, -⟩ := id h
  have hneg : ¬ (6 : Int32) < 0 := by decide
  rw [← h1] at rI rO
  rw [wp_bind']
  unfold multianewarray.make
  simp only [wp_bind', W.ite, hneg, if_false, wp_pure', W.theClass, rI, tI, Option.some.injEq, exists_eq_left']
  refine W.newArray_of (howMany := 6) rI tI (Nat.not_lt.mpr f1) (Nat.not_lt.mpr f2) (by omega) (by omega) rfl fun acts' => ?_
  rw [arrV_new, wp_bind', W.writeLoc]
  refine ⟨_, h.held _, nofun, ?_, ?_, ?_⟩
  · rw [arrV_size]; exact hk
  · show State.fitsSlot _ cO .none k _ = true
    simp [State.fitsSlot, State.slotType?, rO, tO, fits]
  · rw [h3, arrV_store, tw_next]
    exact hq _
def four (cO cI : ClassId) (T : State) : State := tu cO cI T.heap.size 3 (tu cO cI T.heap.size 2 (tu cO cI T.heap.size 1 (tu cO cI T.heap.size 0 (T.pushCell (arrV cO 4 (tw T.heap.size 0))))))
theorem four_hung (cO cI : ClassId) (T : State) : Hung cO cI T 4 (four cO cI T) := (Hung.first cO cI T).turn.turn.turn.turn
theorem four_top (cO cI : ClassId) (T : State) (f : JFrame) : four cO cI (T.setTop f) = (four cO cI T).setTop f := by
  simp only [four, tu, State.heap_setTop, State.pushCell_setTop, State.setCell_setTop]
theorem four_stand {cO cI : ClassId} {p : Program} {l : Launch} {e : Env} {R : Room} {s : State} {m : MethodId} {args : Array Value} {below : List Frame} {meth : Method} {c : Code} {T : State} {locs : List Loc} {cells slots : Nat} (X : Stand p l e R s m args below meth c T locs cells slots) : Stand p l e R s m args below meth c (four cO cI T) (locs ++ [⟨T.heap.size, 0⟩] ++ [⟨T.heap.size, 1⟩] ++ [⟨T.heap.size, 2⟩] ++ [⟨T.heap.size, 3⟩]) (cells + 5) (slots + 28) := by
  have h := Hung.first cO cI T
  have Y := X.pushed (arrV cO 4 (tw T.heap.size 0))
  rw [arrV_size] at Y
  exact h.turn.turn.turn.stand (h.turn.turn.stand (h.turn.stand (h.stand Y)))
theorem four_make {cO cI : ClassId} {T : State} {e : Env} (F : Fit4 e T cO cI) {E : CtlPost} {d : Bool} {acts : List Action} {Q : Addr → Pre} (hq : ∀ acts', Q T.heap.size true acts' (four cO cI T)) : wp (multianewarray.make cO [4, 6]) Q E e d acts T := by
  obtain ⟨⟨kO, rO, tO⟩, -, f1, f2, f3, f4⟩ := id F
  have hneg : ¬ (4 : Int32) < 0 := by decide
  have hzero : ((4 : Int32) == 0) = false := by decide
  have hfour : (4 : Int32).toNatClampNeg = 4 := by decide
  unfold multianewarray.make
  simp only [wp_bind', W.ite, hneg, if_false, wp_pure', W.theClass, rO, tO, Option.some.injEq, exists_eq_left', hfour]
  refine W.newArray_of (howMany := 4) rO tO (by omega) (by show ¬ 4 * 4 > _; omega) (by omega) (by omega) rfl fun acts' => ?_
  rw [arrV_new, ← tw_zero T.heap.size]
  have h := Hung.first cO cI T
  simp only [hzero, Bool.false_eq_true, if_false, wp_bind', wp_pure', Std.Legacy.Range.forIn_eq_forIn_range']
  show wp (forIn [0, 1, 2, 3] PUnit.unit _) _ E e d acts' _
  rw [List.forIn_cons, wp_bind']
  refine h.does (by decide) F fun _ => ?_
  show wp (forIn [1, 2, 3] PUnit.unit _) _ E e _ _ _
  rw [List.forIn_cons, wp_bind']
  refine h.turn.does (by decide) F fun _ => ?_
  show wp (forIn [2, 3] PUnit.unit _) _ E e _ _ _
  rw [List.forIn_cons, wp_bind']
  refine h.turn.turn.does (by decide) F fun _ => ?_
  show wp (forIn [3] PUnit.unit _) _ E e _ _ _
  rw [List.forIn_cons, wp_bind']
  refine h.turn.turn.turn.does (by decide) F fun _ => ?_
  exact hq _
/-- the instruction, over the kit's W: the heap behind it is told cell by cell -/
theorem w_four {p : Program} {l : Launch} {e : Env} {R : Room} {s : State} {m : MethodId} {args : Array Value} {below : List Frame} {meth : Method} {c : Code} {H : Heap} {locs : List Loc} {cells slots : Nat} {Q : State → Prop} {cc : ByteArray} (hexec : p.tables.exec = Jvm.exec) (hb : c.code = cc) {own : String} {index : Nat} (hown : s.vm.findClass own = some m.cls) (hlink : (Cond.classLink own index "[[I").before args s = true)
    {cO cI c2 : ClassId} {kO kI : Class} (nO : s.vm.findClass "[[I" = some cO) (rO : s.vm.classes[cO]? = some kO) (tO : kO.kind = .array cI (.array .int)) (rI : s.vm.classes[cI]? = some kI) (tI : kI.kind = .array c2 .int)
    {g : JFrame} (hg : g.method = m) (hd : decode cc g.pc = .ok (.multianewarray index 2, 4)) {rest : List Value} (hst : g.stack = .int 6 :: .int 4 :: rest) (hc : cells + 5 ≤ R.cells) (hs : slots + 28 ≤ R.slots)
    (kk : ∀ H' : Heap, H'.size = H.size + (1 + 4) → (∀ q : Nat, q < H.size + (1 + 4) → H'[q]? = if q < H.size then H[q]? else some (if q = H.size then arrV cO 4 (tw H.size 4) else arrV cI 6 fun _ => .int 0)) →
      W p l e R s m args below meth c H' (locs ++ [⟨H.size, 0⟩] ++ [⟨H.size, 1⟩] ++ [⟨H.size, 2⟩] ++ [⟨H.size, 3⟩]) (cells + 5) (slots + 28) Q { g with pc := g.pc + 4, stack := .ref H.size :: rest }) : W p l e R s m args below meth c H locs cells slots Q g := by
  intro T hT X
  subst hT hb hg
  obtain ⟨c', f', lk⟩ := Cond.classLink_spec hown hlink e.platform (by rw [X.admits.platform])
  obtain rfl : cO = c' := Option.some.inj (nO.symm.trans f')
  have en := State.classEntry (e := e) X.warmed lk
  generalize T.vm.noted g.method.cls index (.cls cO) = v at en
  obtain ⟨gives, warm, -⟩ := en
  have room := X.roomAbove hc hs
  have F : Fit4 e (T.setVm v) cO cI := by
    obtain ⟨k1, a1, b1⟩ := warm.alike.2.2 _ _ rO
    obtain ⟨k2, a2, b2⟩ := warm.alike.2.2 _ _ rI
    refine ⟨⟨k1, a1, by rw [b1]; exact tO⟩, ⟨k2, c2, a2, by rw [b2]; exact tI⟩, ?_, ?_, room.1, room.2⟩
    · rw [Launch.admits_arrayLengthLimit X.admits]; omega
    · rw [Launch.admits_maxHeapBytes X.admits]; omega
  have Z := four_stand (cO := cO) (cI := cI) (X.noted warm)
  have told := four_hung cO cI (T.setVm v)
  obtain ⟨t, go, ends⟩ := kk _ told.2.2.1 told.2.2.2 _ rfl Z
  refine ⟨t, ?_, ends⟩
  jvm_step X.here [hexec, hd]
  simp only [multianewarray.sem, wp_bind', W.resolveClassAt_links (State.method?_setTop g X.here.top) gives]
  refine (popN_top (s := T.setVm v) (f := g) (args := [.int 4, .int 6]) (rest := rest) X.here.top hst).mpr ?_
  simp only [List.mapM_cons, List.mapM_nil, wp_bind', wp_pure']
  refine four_make (cO := cO) (cI := cI) (by simpa [Fit4] using F) fun acts' => ?_
  rw [four_top]
  simp [jvm, Z.here.top]
  exact go
/-- the row of rows as the pure heap has it -/
def muR (Rf : HR) (n : Nat) : HR := fun z j => if z = n ∧ j < 4 then some (n + 1 + j) else Rf z j
theorem g_multi {K : KT} {cc : ByteArray} {own : String} {nL d RC RS : Nat} {pc : Nat} {ls : List (Option Value)} {st : List Value} {n : Nat} {M : HM} {Rf : HR} {Lg : HL} {x y : Nat} (o : Ok K cc own nL d RC RS) {idx : Nat} (lk : Cond.classLink own idx "[[I" ∈ gtbl) (w1 : Cond.arrayClass .int ∈ gtbl) (hs : shp n = (9, 4)) (hs1 : ∀ i, i < 4 → shp (n + 1 + i) = (6, 6)) (hR : Rf n = fun _ => none) (hM : ∀ i, i < 4 → M (n + 1 + i) = fun _ => 0) (hxy : x + 5 ≤ RC ∧ y + 28 ≤ RS) (hd : decode cc pc = .ok (.multianewarray idx 2, 4)) (k : G K (pc + 4) ls (.ref n :: st) (n + 5, M, muR Rf n, Lg) (x + 5) (y + 28)) : G K pc ls (.int 6 :: .int 4 :: st) (n, M, Rf, Lg) x y := by
  obtain ⟨⟨l, B, D, cA⟩, p, e, R, s, m, args, below, meth, c, Q⟩ := K
  intro H locs la hP hS hl
  obtain ⟨o1, o2, o3, o4, o5, o6, o7, o8, o9, o10, o11⟩ := o
  have hsz : H.size = B + n := hP.1
  obtain ⟨cI, cO, kO, nI', -, rO, tO, nO⟩ := arrayOverA_spec o6.2.2.2.2
  obtain ⟨cI', kI, c2, nI2, rI, tI⟩ := Cond.arrayClass_spec (o5 _ w1)
  obtain rfl : cI' = cI := Option.some.inj (nI2.symm.trans nI')
  obtain rfl : cO = cA 9 := Option.some.inj (nO.symm.trans (o6.2.1 9 (by decide) (by decide)).2)
  obtain rfl : cI' = cA 6 := Option.some.inj (nI2.symm.trans (o6.2.1 6 (by decide) (by decide)).2)
  refine w_four (g := F0 m pc la (.int 6 :: .int 4 :: st.map (rvB B))) o1 o2 o4 (o5 _ lk) nO rO tO rI tI rfl hd rfl (by rw [o10]; exact hxy.1) (by rw [o11]; exact hxy.2) fun H' z1 z2 => ?_
  rw [hsz] at z1 z2 ⊢
  have old : ∀ q : Nat, q < B + n → H'[q]? = H[q]? := fun q hq => by rw [z2 q (by omega), if_pos hq]
  have rows : ∀ i, i < 4 → H'[B + (n + 1 + i)]? = some (arrV (cA 6) 6 fun _ => .int 0) := fun i hi => by
    rw [z2 _ (by omega), if_neg (by omega), if_neg (by omega)]
  have top : H'[B + n]? = some (arrV (cA 9) 4 (tw (B + n) 4)) := by rw [z2 _ (by omega), if_neg (by omega), if_pos rfl]
  refine k H' _ la ⟨by rw [z1]; omega, fun q hq => ?_⟩ ⟨by have := hS.1; omega, fun q q1 q2 => ?_, fun a ha => ?_⟩ hl
  · rcases Nat.lt_trichotomy q n with c1 | c1 | c1
    · refine (hP.2 q c1).kept (old _ (by omega)) rfl ?_ rfl
      funext j
      exact if_neg fun z => absurd z.1 (Nat.ne_of_lt c1)
    · subst c1
      refine (wE_ref hs (by decide)).mpr (top.trans ?_)
      refine congrArg (fun f => some (arrV (cA 9) 4 f)) (funext fun j => ?_)
      show (if j < 4 then Value.ref _ else .null) = va_rf ((if q = q ∧ j < 4 then some (q + 1 + j) else Rf q j).map (B + ·))
      by_cases c2 : j < 4
      · rw [if_pos c2, if_pos ⟨rfl, c2⟩]
        show Value.ref (B + q + (1 + j)) = Value.ref (B + (q + 1 + j))
        rw [show B + q + (1 + j) = B + (q + 1 + j) by omega]
      · rw [if_neg c2, if_neg (fun z => c2 z.2), hR]
        rfl
    · obtain ⟨i, rfl⟩ := Nat.exists_eq_add_of_lt c1
      have hi : i < 4 := by have : n + i + 1 < n + 5 := hq; omega
      rw [show n + i + 1 = n + 1 + i by omega]
      refine (wE_int (hs1 i hi) (by decide) (by decide)).mpr ((rows i hi).trans ?_)
      show _ = some (arrV (cA 6) 6 fun j => .int (M (n + 1 + i) j))
      rw [hM i hi]
  · rw [old q (by have := hS.1; omega)]
    exact hS.2.1 q q1 q2
  · simp only [List.mem_append, List.mem_singleton] at ha
    rcases ha with (((ha | ha) | ha) | ha) | ha
    · exact hS.2.2 a ha
    all_goals
      rw [ha]
      exact Nat.le_add_right B n
end M41
