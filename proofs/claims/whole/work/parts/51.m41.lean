section M41
/-! one row of four rows of six ints, made at once -/
def mfS (T : State) (cO cI : ClassId) : Nat → State
  | 0 => T.pushCell (arrV cO 4 (fun _ => .null))
  | i + 1 => ((mfS T cO cI i).pushCell (arrV cI 6 (fun _ => .int 0))).setCell T.heap.size (arrV cO 4 (fun j => if j < i + 1 then .ref (T.heap.size + 1 + j) else .null))
theorem mfS_is (T : State) (cO cI : ClassId) (i : Nat) : (mfS T cO cI i).heap.size = T.heap.size + 1 + i ∧ (mfS T cO cI i).heap[T.heap.size]? = some (arrV cO 4 (fun j => if j < i then .ref (T.heap.size + 1 + j) else .null)) ∧ (mfS T cO cI i).vm = T.vm ∧ (mfS T cO cI i).slotsUsed = T.slotsUsed + 4 + i * 6 := by
  induction i with
  | zero => exact ⟨by simp [mfS], by simp [mfS], rfl, by simp [mfS, arrV_size]⟩
  | succ i ih =>
    obtain ⟨a, b, c, u⟩ := ih
    have hlt : T.heap.size < (mfS T cO cI i).heap.size := by omega
    have hb : ((mfS T cO cI i).pushCell (arrV cI 6 (fun _ => .int 0))).heap[T.heap.size]? = some (arrV cO 4 (fun j => if j < i then .ref (T.heap.size + 1 + j) else .null)) := by rw [State.heap_pushCell_of_lt (h := hlt)]; exact b
    refine ⟨?_, State.heap_setCell_self hb, by simp [mfS, c], ?_⟩
    · simp [mfS, State.setCell, a]; omega
    · simp [mfS, u, arrV_size]; omega
theorem mfS_low (T : State) (cO cI : ClassId) {q : Nat} (hq : q < T.heap.size) (i : Nat) : (mfS T cO cI i).heap[q]? = T.heap[q]? := by
  induction i with
  | zero => exact State.heap_pushCell_of_lt _ _ hq
  | succ i ih =>
    have f1 := (mfS_is T cO cI i).1
    have hlt : q < (mfS T cO cI i).heap.size := by omega
    show (((mfS T cO cI i).pushCell _).setCell T.heap.size _).heap[q]? = _
    rw [State.heap_setCell_other (Nat.ne_of_gt hq), State.heap_pushCell_of_lt (h := hlt)]
    exact ih
theorem mfS_in (T : State) (cO cI : ClassId) (i : Nat) : ∀ j, j < i → (mfS T cO cI i).heap[T.heap.size + 1 + j]? = some (arrV cI 6 (fun _ => .int 0)) := by
  induction i with
  | zero => intro j h; omega
  | succ i ih =>
    intro j h
    have f1 := (mfS_is T cO cI i).1
    show (((mfS T cO cI i).pushCell _).setCell T.heap.size _).heap[T.heap.size + 1 + j]? = _
    rw [State.heap_setCell_other (show T.heap.size ≠ T.heap.size + 1 + j by omega)]
    by_cases hj : j < i
    · have hlt : T.heap.size + 1 + j < (mfS T cO cI i).heap.size := by omega
      rw [State.heap_pushCell_of_lt (h := hlt)]
      exact ih j hj
    · have e : j = i := by omega
      subst e
      rw [← f1]
      exact State.heap_pushCell_size _ _
theorem mfS_top (T : State) (f : JFrame) (cO cI : ClassId) (i : Nat) : mfS (T.setTop f) cO cI i = (mfS T cO cI i).setTop f := by
  induction i with
  | zero => rfl
  | succ i ih => simp only [mfS, ih, State.heap_setTop, State.pushCell_setTop, State.setCell_setTop]
theorem mf_new {E : CtlPost} {e : Env} {d : Bool} {acts : List Action} {s : State} {c comp : ClassId} {k : Class} {type : FieldType} {len : Nat} {init : Value} (hk : s.vm.classes[c]? = some k) (hkind : k.kind = .array comp type)
    (hlimit : ¬ len > e.platform.arrayLengthLimit) (hheap : ¬ len * componentBytes type > e.platform.maxHeapBytes) (hfit : fits type init = true) (hdef : init.isDefault = true) {Q : Addr → Pre}
    (h1 : s.heap.size < e.platform.maxCells) (h2 : s.slotsUsed + len ≤ e.platform.maxSlots) (hq : Q s.heap.size d acts (s.pushCell (arrV c len (fun _ => init)))) : wp (Jvm.newArray c len init) Q E e d acts s := by
  have hf2 : ∀ i v, (Array.replicate len init)[i]? = some v → s.fitsSlot c .none i v = true := by
    intro i v hv
    simp only [Array.getElem?_replicate] at hv
    split at hv
    · cases hv; simp [State.fitsSlot, State.slotType?, hk, hkind, hfit]
    · cases hv
  have hda : allocActs (Array.replicate len init) s.heap.size acts = acts := by
    have hall : ((Array.replicate len init).all (·.isDefault)) = true := by
      rw [Array.all_replicate]; split <;> simp [hdef]
    unfold allocActs; rw [if_pos hall]
  rw [← arrV_new] at hq
  simp only [Jvm.newArray, Jvm.arrayFits, wp_bind', W.ask, W.ite, hlimit, if_false, wp_pure', W.theClass, hk, hkind, hheap, W.alloc, W.stop, Option.some.injEq, exists_eq_left', Array.size_replicate, hda]
  rw [if_neg (by omega)]
  exact ⟨h1, h2, hf2, hq⟩
theorem mf_in {E : CtlPost} {e : Env} {d : Bool} {acts : List Action} {s : State} {cI c2 : ClassId} {k : Class} (hk : s.vm.classes[cI]? = some k) (hkind : k.kind = .array c2 .int) (hl : ¬ 6 > e.platform.arrayLengthLimit) (hh : ¬ 6 * 4 > e.platform.maxHeapBytes) (h1 : s.heap.size < e.platform.maxCells) (h2 : s.slotsUsed + 6 ≤ e.platform.maxSlots) {Q : Addr → Pre} (hq : Q s.heap.size d acts (s.pushCell (arrV cI 6 (fun _ => .int 0)))) : wp (multianewarray.make cI [6]) Q E e d acts s := by
  have h6 : ¬ (6 : Int32) < 0 := by decide
  rw [multianewarray.make]
  simp only [wp_bind', W.ite, h6, if_false, wp_pure', W.theClass, hk, hkind, Option.some.injEq, exists_eq_left']
  exact mf_new hk hkind hl hh rfl rfl h1 h2 hq
theorem mf_all {E : CtlPost} {e : Env} {d : Bool} {acts : List Action} {s : State} {cO cI c2 : ClassId} {kO kI : Class} (hkO : s.vm.classes[cO]? = some kO) (hdO : kO.kind = .array cI (.array .int)) (hkI : s.vm.classes[cI]? = some kI) (hdI : kI.kind = .array c2 .int) (hl : ¬ 6 > e.platform.arrayLengthLimit) (hh : ¬ 6 * 4 > e.platform.maxHeapBytes) (h1 : s.heap.size + 5 ≤ e.platform.maxCells) (h2 : s.slotsUsed + 28 ≤ e.platform.maxSlots) {Q : Addr → Pre} (hq : ∀ d' acts', Q s.heap.size d' acts' (mfS s cO cI 4)) : wp (multianewarray.make cO [4, 6]) Q E e d acts s := by
  have h4 : ¬ (4 : Int32) < 0 := by decide
  have hfind : ([(6 : Int32)].find? (· < 0)) = none := by decide
  have h44 : (4 : Int32).toNatClampNeg = 4 := by decide
  rw [multianewarray.make]
  simp only [wp_bind', W.ite, h4, if_false, wp_pure', W.theClass, hkO, hdO, Option.some.injEq, exists_eq_left', h44]
  refine mf_new hkO hdO (by omega) (by show ¬ 4 * 4 > _; omega) rfl rfl (by omega) (by omega) ?_
  simp only [hfind]
  rw [ite_self, wp_bind', Std.Legacy.Range.forIn_eq_forIn_range']
  have hsz : ([:4] : Std.Legacy.Range).size = 4 := by simp [Std.Legacy.Range.size]
  rw [hsz]
  show wp (forIn (List.range' 0 4 1) PUnit.unit _) _ E e d acts _
  refine wp_forIn_inv (fun rest s' => ∃ i, i ≤ 4 ∧ rest = List.range' i (4 - i) ∧ s' = mfS s cO cI i) _ _ ⟨0, Nat.zero_le _, rfl, rfl⟩ ?_ ?_
  · rintro x rest s' d' acts' Q' ⟨i, hi, hl2, rfl⟩ hnext
    have hlt : i < 4 := by
      rcases Nat.lt_or_ge i 4 with h | h
      · exact h
      · rw [show 4 - i = 0 from by omega] at hl2; simp at hl2
    obtain ⟨rfl, hrest⟩ : x = i ∧ rest = List.range' (i + 1) (4 - (i + 1)) := by
      rw [show 4 - i = (4 - (i + 1)) + 1 from by omega, List.range'_succ] at hl2
      exact ⟨(List.cons.inj hl2).1, (List.cons.inj hl2).2⟩
    obtain ⟨f1, f2, f3, f4⟩ := mfS_is s cO cI x
    simp only [wp_bind']
    refine mf_in (by rw [f3]; exact hkI) hdI hl hh (by rw [f1]; omega) (by rw [f4]; omega) ?_
    have hlt0 : s.heap.size < (mfS s cO cI x).heap.size := by rw [f1]; omega
    simp only [wp_bind', W.writeLoc, wp_pure']
    refine ⟨_, by rw [State.heap_pushCell_of_lt (h := hlt0)]; exact f2, (by intro hq0; cases hq0), (by rw [arrV_size]; exact hlt), ?_, hnext _ _ _ ⟨x + 1, hlt, hrest, ?_⟩⟩
    · simp [State.fitsSlot, State.slotType?, f3, hkO, hdO, arrV, fits]
    · rw [f1, arrV_store]
      show _ = ((mfS s cO cI x).pushCell _).setCell s.heap.size _
      refine congrArg (State.setCell _ _) (congrArg (arrV cO 4) (funext fun j => ?_))
      simp only [updV]
      by_cases e1 : j = x
      · subst e1; rw [if_pos rfl, if_pos (by omega)]
      · by_cases e2 : j < x
        · rw [if_neg e1, if_pos e2, if_pos (by omega)]
        · rw [if_neg e1, if_neg e2, if_neg (by omega)]
  · rintro s' d' acts' ⟨i, hi, hl2, rfl⟩
    have hiN : i = 4 := by
      rcases Nat.lt_or_ge i 4 with h | h
      · rw [show 4 - i = (4 - (i + 1)) + 1 from by omega, List.range'_succ] at hl2; cases hl2
      · omega
    subst hiN
    simp only [wp_pure']
    exact hq _ _
theorem mfS_stand {p : Program} {l : Launch} {e : Env} {R : Room} {s : State} {m : MethodId} {args : Array Value} {below : List Frame} {meth : Method} {c : Code} {T : State} {locs : List Loc} {cells slots : Nat} (X : Stand p l e R s m args below meth c T locs cells slots) (cO cI : ClassId) (i : Nat) : Stand p l e R s m args below meth c (mfS T cO cI i) (locs ++ (List.range i).map fun j => ⟨T.heap.size, j⟩) (cells + 1 + i) (slots + 4 + i * 6) := by
  induction i with
  | zero =>
    have h := X.pushed (arrV cO 4 (fun _ => .null))
    rw [arrV_size] at h
    simpa [mfS] using h
  | succ i ih =>
    obtain ⟨f1, f2, f3, f4⟩ := mfS_is T cO cI i
    have hlt0 : T.heap.size < (mfS T cO cI i).heap.size := by rw [f1]; omega
    have hcell : ((mfS T cO cI i).pushCell (arrV cI 6 (fun _ => .int 0))).heap[T.heap.size]? = some (arrV cO 4 (fun j => if j < i then .ref (T.heap.size + 1 + j) else .null)) := by rw [State.heap_pushCell_of_lt (h := hlt0)]; exact f2
    have h := (ih.pushed (arrV cI 6 (fun _ => .int 0))).stored hcell i (.ref (T.heap.size + 1 + i))
    rw [arrV_size, arrV_store] at h
    have e2 : (locs ++ (List.range (i + 1)).map fun j => (⟨T.heap.size, j⟩ : Loc)) = (locs ++ (List.range i).map fun j => (⟨T.heap.size, j⟩ : Loc)) ++ [⟨T.heap.size, i⟩] := by simp [List.range_succ, List.append_assoc]
    have e4 : (updV (fun j => if j < i then Value.ref (T.heap.size + 1 + j) else .null) i (.ref (T.heap.size + 1 + i))) = (fun j => if j < i + 1 then Value.ref (T.heap.size + 1 + j) else .null) := by
      funext j
      simp only [updV]
      by_cases e1 : j = i
      · subst e1; rw [if_pos rfl, if_pos (by omega)]
      · by_cases e2 : j < i
        · rw [if_neg e1, if_pos e2, if_pos (by omega)]
        · rw [if_neg e1, if_neg e2, if_neg (by omega)]
    rw [e4] at h
    rw [e2, show slots + 4 + (i + 1) * 6 = slots + 4 + i * 6 + 6 by omega]
    exact h
theorem mf_step {p : Program} {l : Launch} {e : Env} {R : Room} {s : State} {m : MethodId} {args : Array Value} {below : List Frame} {meth : Method} {c : Code} {T : State} {locs : List Loc} {cells slots : Nat} (X : Stand p l e R s m args below meth c T locs cells slots) (hexec : p.tables.exec = Jvm.exec) {own : String} {index : Nat} (hown : s.vm.findClass own = some m.cls) (hclink : (Cond.classLink own index "[[I").before args s = true) (hover : (Cond.arrayOver (.array .int)).before #[] s = true) (harr : (Cond.arrayClass .int).before args s = true)
    {g : JFrame} (hg : g.method = m) (hdg : decode c.code g.pc = .ok (.multianewarray index 2, 4)) {rest : List Value} (hstack : g.stack = .int 6 :: .int 4 :: rest) (hcells : cells + 5 ≤ R.cells) (hslots : slots + 28 ≤ R.slots) :
    ∃ (vm₁ : Vm) (cO cI : ClassId), s.vm.findClass "[[I" = some cO ∧ s.vm.findClass "[I" = some cI ∧ Stand p l e R s m args below meth c (mfS (T.setVm vm₁) cO cI 4) (locs ++ (List.range 4).map fun j => ⟨T.heap.size, j⟩) (cells + 5) (slots + 28) ∧
      ∀ target, Steps p.tables e below ((mfS (T.setVm vm₁) cO cI 4).setTop { g with pc := g.pc + 4, stack := .ref T.heap.size :: rest }) target → Steps p.tables e below (T.setTop g) target := by
  subst hg
  have hpl : e.platform.magicAccessors = ({} : Platform).magicAccessors := by rw [X.admits.platform]
  obtain ⟨cI, cO, kO, hfI, -, hkO, hdO, hfO⟩ := arrayOverA_spec hover
  obtain ⟨cI', kI, c2, hfI', hkI, hdI⟩ := Cond.arrayClass_spec harr
  have ecI : cI' = cI := Option.some.inj (hfI'.symm.trans hfI)
  subst ecI
  obtain ⟨c0, hfc0, hcl⟩ := Cond.classLink_spec hown hclink e.platform hpl
  cases hfO.symm.trans hfc0
  obtain ⟨hg₁, hwarm₁, hready₁⟩ := State.classEntry (e := e) X.warmed hcl
  generalize T.vm.noted g.method.cls index (.cls cO) = vm₁ at hg₁ hwarm₁ hready₁
  have hal : s.vm.Alike vm₁ := hwarm₁.alike
  obtain ⟨kO₁, hkO₁, heO⟩ := hal.2.2 _ _ hkO
  obtain ⟨kI₁, hkI₁, heI⟩ := hal.2.2 _ _ hkI
  have hdO₁ : kO₁.kind = .array cI' (.array .int) := by rw [heO]; exact hdO
  have hdI₁ : kI₁.kind = .array c2 .int := by rw [heI]; exact hdI
  have X₁ := X.noted hwarm₁
  obtain ⟨hr1, hr2⟩ := X.roomAbove hcells hslots
  have XF := mfS_stand X₁ cO cI' 4
  refine ⟨vm₁, cO, cI', hfO, hfI, XF, fun target hrest => ?_⟩
  have hl : ¬ 6 > e.platform.arrayLengthLimit := by rw [Launch.admits_arrayLengthLimit X.admits]; omega
  have hh : ¬ 6 * 4 > e.platform.maxHeapBytes := by rw [Launch.admits_maxHeapBytes X.admits]; omega
  jvm_step X.here [hexec, hdg]
  simp only [multianewarray.sem, wp_bind', W.resolveClassAt_links (State.method?_setTop g X.here.top) hg₁]
  rw [W.popN, if_neg (by decide)]
  refine ⟨g, State.topJava?_setTop' (s := T.setVm vm₁) g X.here.top, [.int 4, .int 6], rest, rfl, hstack, ?_⟩
  simp only [List.mapM_cons, List.mapM_nil, wp_bind', wp_pure']
  refine mf_all (kO := kO₁) (kI := kI₁) (cI := cI') (c2 := c2) hkO₁ hdO₁ hkI₁ hdI₁ hl hh (by show T.heap.size + 5 ≤ _; omega) (by show T.slotsUsed + 28 ≤ _; omega) (fun d' acts' => ?_)
  have eS : ((T.setTop g).setVm vm₁).setTop { g with stack := rest } = (T.setVm vm₁).setTop { g with stack := rest } := by
    show ((T.setVm vm₁).setTop g).setTop _ = _
    rw [State.setTop_setTop]
  rw [eS, mfS_top]
  simp only [wp_bind', W.mark, W.pushRef, State.topJava?_setTop' _ XF.here.top, Option.some.injEq, exists_eq_left', State.setTop_setTop, State.heap_setTop]
  intro acts
  simp [jvm, XF.here.top]
  exact hrest
/-- the row as the pure heap has it -/
def muR (Rf : HR) (n : Nat) : HR := fun z j => if z = n ∧ j < 4 then some (n + 1 + j) else Rf z j
theorem g_multi {K : KT} {cc : ByteArray} {own : String} {nL d RC RS : Nat} {pc : Nat} {ls : List (Option Value)} {st : List Value} {n : Nat} {M : HM} {Rf : HR} {Lg : HL} {x y : Nat} (o : Ok K cc own nL d RC RS) {idx : Nat} (lk : Cond.classLink own idx "[[I" ∈ gtbl) (w1 : Cond.arrayClass .int ∈ gtbl) (hs : shp n = (9, 4)) (hs1 : ∀ i, i < 4 → shp (n + 1 + i) = (6, 6)) (hR : Rf n = fun _ => none) (hM : ∀ i, i < 4 → M (n + 1 + i) = fun _ => 0) (hxy : x + 5 ≤ RC ∧ y + 28 ≤ RS) (hd : decode cc pc = .ok (.multianewarray idx 2, 4)) (k : G K (pc + 4) ls (.ref n :: st) (n + 5, M, muR Rf n, Lg) (x + 5) (y + 28)) : G K pc ls (.int 6 :: .int 4 :: st) (n, M, Rf, Lg) x y := by
  obtain ⟨⟨l, B, D, cA⟩, p, e, R, s, m, args, below, meth, c, Q⟩ := K
  intro H locs la hP hS hl
  obtain ⟨o1, o2, o3, o4, o5, o6, o7, o8, o9, o10, o11⟩ := o
  intro T hT X
  have hsz : H.size = B + n := hP.1
  obtain ⟨vm₁, cO, cI, h1, h2, X1, step⟩ := mf_step X o1 (own := own) (index := idx) o4 (o5 _ lk) o6.2.2.2.2 (o5 _ w1) (g := F0 m pc la (.int 6 :: .int 4 :: st.map (rvB B))) rfl (by rw [o2]; exact hd) (rest := st.map (rvB B)) rfl (by rw [o10]; exact hxy.1) (by rw [o11]; exact hxy.2)
  have e9 : cO = cA 9 := Option.some.inj (h1.symm.trans (o6.2.1 9 (by decide) (by decide)).2)
  have e6 : cI = cA 6 := Option.some.inj (h2.symm.trans (o6.2.1 6 (by decide) (by decide)).2)
  subst e9; subst e6
  have hTs : (T.setVm vm₁).heap.size = B + n := by show T.heap.size = _; rw [hT]; exact hsz
  obtain ⟨f1, f2, f3, f4⟩ := mfS_is (T.setVm vm₁) (cA 9) (cA 6) 4
  have f5 := mfS_in (T.setVm vm₁) (cA 9) (cA 6) 4
  have flow : ∀ q : Nat, q < B + n → (mfS (T.setVm vm₁) (cA 9) (cA 6) 4).heap[q]? = H[q]? := fun q hq => by
    rw [mfS_low _ _ _ (by rw [hTs]; exact hq)]; show T.heap[q]? = _; rw [hT]
  rw [hTs] at f1 f2 f5
  have hp2 : PW B D cA (n + 5, M, muR Rf n, Lg) (mfS (T.setVm vm₁) (cA 9) (cA 6) 4).heap := by
    refine ⟨by rw [f1]; show B + n + 1 + 4 = B + (n + 5); omega, fun q hq => ?_⟩
    have hq' : q < n + 5 := hq
    by_cases c1 : q < n
    · exact (hP.2 q c1).kept (flow _ (by omega)) rfl (by funext j; show (if q = n ∧ j < 4 then some (n + 1 + j) else Rf q j) = Rf q j; rw [if_neg (by omega)]) rfl
    · by_cases c2 : q = n
      · subst c2
        refine (wE_ref hs (by decide)).mpr ?_
        rw [f2]
        refine congrArg some (congrArg (fun f => arrV (cA 9) 4 f) (funext fun j => ?_))
        show _ = va_rf ((muR Rf q q j).map (B + ·))
        unfold muR
        by_cases c3 : j < 4
        · rw [if_pos c3, if_pos ⟨rfl, c3⟩]; show Value.ref _ = Value.ref (B + (q + 1 + j)); rw [show B + q + 1 + j = B + (q + 1 + j) by omega]
        · rw [if_neg c3, if_neg (by omega), hR]; rfl
      · obtain ⟨i, rfl⟩ : ∃ i, q = n + 1 + i := ⟨q - (n + 1), by omega⟩
        have hi : i < 4 := by omega
        refine (wE_int (hs1 i hi) (by decide) (by decide)).mpr ?_
        show _ = some (arrV (cA 6) 6 fun j => .int (M (n + 1 + i) j))
        rw [show B + (n + 1 + i) = B + n + 1 + i by omega, f5 i hi, hM i hi]
  have hS2 : va_S (fun q => B ≤ q) s.heap (mfS (T.setVm vm₁) (cA 9) (cA 6) 4).heap (locs ++ (List.range 4).map fun j => ⟨T.heap.size, j⟩) := by
    have g1 := hS.1
    refine ⟨by omega, fun q q1 q2 => ?_, fun l' hl' => ?_⟩
    · rw [flow q (by omega)]
      exact hS.2.1 q q1 q2
    · rcases List.mem_append.mp hl' with h | h
      · exact hS.2.2 l' h
      · obtain ⟨z, -, hz⟩ := List.mem_map.mp h
        rw [← hz]
        show B ≤ T.heap.size
        rw [hT]; omega
  obtain ⟨t, a1, b1⟩ := k _ _ la hp2 hS2 hl _ rfl X1
  refine ⟨t, step t ?_, b1⟩
  have e1 : T.heap.size = B + n := hTs
  rw [e1]
  exact a1
end M41
