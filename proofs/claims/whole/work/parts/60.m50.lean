section M50
def lw_P (b : Addr) (xs : List Int32) (args : Array Value) (s : State) : Prop := args = #[.ref b] ∧ s.IntsAt b xs ∧ xs.length ≤ 320 ∧ (Jvm.Cond.and given_1 narrow_1).before args s = true
def lw_Q (_ : Array Value) (s : State) (o : Outcome) (t : State) : Prop := o = .returned (some (.int 1)) ∧ Framed s o t [] 600000 7302250
def lw_Z (below : List Frame) (a : Array Value) (s : State) : State → Prop := fun t => ∃ o, t.status = .running ∧ Ended t below o ∧ lw_Q a s o t
/-- the law's own end, with 1 on the stack, nothing written that was there before, its room as the claim has it -/
theorem lw_ret {p : Program} {l : Launch} {e : Env} {s : State} {m : MethodId} {below : List Frame} {meth : Method} {c : Code} {b : Nat} (hx : p.tables.exec = Jvm.exec) (hb : c.code = code) (hr : meth.sig.returnType = ret) (hlocks : meth.locks = false) {pc : Nat} {H : Heap} {ls : Array Slot} (hdg : decode code pc = .ok (.ireturn, 1)) : W p l e room_1 s m #[Value.ref b] below meth c H [] 600000 7302250 (lw_Z below #[Value.ref b] s) (F0 m pc ls [.int 1]) := by
  intro T hT X
  obtain ⟨fs, hret, hrun, hended, hW, hframe⟩ := X.leave (v := some (.int 1)) (hlocks := hlocks) (fun h => by rw [hr] at h; cases h)
  have hmeth' : T.vm.method? m = some meth := X.method'
  refine ⟨T.setFrames fs, ?_, .returned (some (.int 1)), hrun, hended, rfl, ⟨_, rfl⟩, hW, hframe⟩
  jvm_step X.here [X.here.top, hx, hb, hdg, hmeth', hr, ret, narrow_b1]
  (try refine ⟨rfl, ?_⟩); (try refine ⟨rfl, ?_⟩)
  first | (intro acts; rw [hret _ acts rfl rfl rfl]) | rw [hret _ _ rfl rfl rfl]
  exact Steps.refl _
/-- what holds at the law's entry: the machine, the code, the tables' words (any of lw_tbl by 'hts w (by decide +kernel)'), the script of L ints xs at the cell b, what the Statement gives of the start (any of its parts by flat_of_before) -/
def lw_At (p : Program) (s : State) (m : MethodId) (meth : Method) (c : Code) (b L : Nat) (xs : Nat → Int32) : Prop :=
  p.tables.exec = Jvm.exec ∧ c.code = code ∧ meth.sig.returnType = ret ∧ c.maxLocals = 4 ∧ s.vm.findClass R_law = some m.cls ∧ (∀ w ∈ lw_tbl, w.before #[Value.ref b] s = true) ∧ va_X b L xs s s.heap ∧ b < s.heap.size ∧ meth.locks = false ∧ (Jvm.Cond.and given_1 narrow_1).before #[Value.ref b] s = true

theorem arr_of {s : State} {c comp : ClassId} {k : Class} {ty : FieldType} (hk : s.vm.classes[c]? = some k) (hd : k.kind = .array comp ty) : ArrOfT s c ty := fun _ _ => ⟨(fun _ h => by cases h), k, hk, comp, hd⟩
theorem kn_all {s : State} {A : Array Value} (hts : ∀ w ∈ lw_tbl, w.before A s = true) : ∃ (D : va_G) (cA : Nat → ClassId), KnAll s D cA := by
  have htg : ∀ w ∈ gtbl, w.before A s = true := fun w hw => hts w (List.mem_filter.mp hw).1
  obtain ⟨c0, i0, k0⟩ := u_known htg in_0 (htg _ ins_0)
  obtain ⟨c1, i1, k1⟩ := u_known htg in_1 (htg _ ins_1)
  obtain ⟨c2, i2, k2⟩ := u_known htg in_2 (htg _ ins_2)
  obtain ⟨c3, i3, k3⟩ := u_known htg in_3 (htg _ ins_3)
  obtain ⟨c4, i4, k4⟩ := u_known htg in_4 (htg _ ins_4)
  obtain ⟨a5, q5, p5, f5, g5, d5⟩ := Cond.arrayClass_spec (htg _ arc_5)
  obtain ⟨a6, q6, p6, f6, g6, d6⟩ := Cond.arrayClass_spec (htg _ arc_6)
  obtain ⟨a7, q7, p7, f7, g7, d7⟩ := Cond.arrayClass_spec (htg _ arc_7)
  have w8 : (Cond.arrayOver (.object RX1)).before A s = true := hts _ (List.mem_append_right _ (List.mem_of_getElem? (i := 156) (by decide +kernel)))
  have w9 : (Cond.arrayOver (.array .int)).before A s = true := hts _ (List.mem_append_right _ (List.mem_of_getElem? (i := 158) (by decide +kernel)))
  obtain ⟨p8, a8, q8, h8, -, g8, d8, f8⟩ := Cond.arrayOver_spec w8
  obtain ⟨p9, a9, q9, h9, -, g9, d9, f9⟩ := arrayOverA_spec w9
  refine ⟨(fun t => if t = 0 then c0 else if t = 1 then c1 else if t = 2 then c2 else if t = 3 then c3 else c4, fun t => if t = 0 then i0 else if t = 1 then i1 else if t = 2 then i2 else if t = 3 then i3 else i4), fun t => if t = 5 then a5 else if t = 6 then a6 else if t = 7 then a7 else if t = 8 then a8 else a9, fun t ht => ?_, fun t h1 h2 => ?_, fun w hw => ?_, va_AO.of w8, w9⟩
  · match t, ht with
    | 0, _ => exact k0
    | 1, _ => exact k1
    | 2, _ => exact k2
    | 3, _ => exact k3
    | 4, _ => exact k4
  · rcases (show t = 5 ∨ t = 6 ∨ t = 7 ∨ t = 8 ∨ t = 9 by omega) with rfl | rfl | rfl | rfl | rfl
    · exact ⟨arr_of g5 d5, f5⟩
    · exact ⟨arr_of g6 d6, f6⟩
    · exact ⟨arr_of g7 d7, f7⟩
    · exact ⟨arr_of g8 d8, q8, p8, g8, d8, h8, f8⟩
    · exact ⟨arr_of g9 d9, f9⟩
  · have h := hts w (nestW_in w hw)
    simp only [nestW, List.mem_cons, List.not_mem_nil, or_false] at hw
    rcases hw with rfl | rfl | rfl | rfl | rfl <;> exact va_Nw.of rfl h
set_option maxHeartbeats 2000000 in
set_option maxRecDepth 20000 in
/-- from the entry, for every script of at most 320 ints, the law comes to its end with true -/
theorem whole_start {p : Program} {e : Env} {s : State} {m : MethodId} {below : List Frame} {meth : Method} {c : Code} (l : Launch) {b L : Nat} {xs : Nat → Int32} (hL : L ≤ 320) (C0 : lw_At p s m meth c b L xs) : W p l e room_1 s m #[Value.ref b] below meth c s.heap [] 0 0 (lw_Z below #[Value.ref b] s) (entryFrame m ([Value.ref b] : List Value).toArray 4) := by
  obtain ⟨hx, hb, hr, hml, hown, hts, hX, hbl, hlocks, hgv⟩ := id C0
  obtain ⟨D, cA, hK⟩ := kn_all hts
  have htg : ∀ w ∈ gtbl, w.before #[Value.ref b] s = true := fun w hw => hts w (List.mem_filter.mp hw).1
  have o : Ok ((l, s.heap.size, D, cA), (p, e, room_1, s, m, #[Value.ref b], below, meth, c, lw_Z below #[Value.ref b] s)) code R_law 4 (2039 + 9) 600000 7302250 := ⟨hx, hb, hml, hown, htg, hK, Nat.le_refl _, by decide, by decide, rfl, rfl⟩
  have fin : ∀ (h : HP) (k : Nat), G ((l, s.heap.size, D, cA), (p, e, room_1, s, m, #[Value.ref b], below, meth, c, lw_Z below #[Value.ref b] s)) 777 (lL b k) [] h 109 1490 := by
    intro h k
    refine g_iconst (pc := 777) (v := 1) o dL_law_777 (by decide) ?_
    intro H locs la hP hS hl
    refine va_forget (fun q hq => hS.2.2 q hq) ?_
    refine W.widen (k := 600000) (n := 7302250) (by decide) (by decide) ?_
    exact lw_ret hx hb hr hlocks dL_law_778
  have g0 := L_start o hX hbl hbl hL fin
  rw [lg_entry_eq]
  exact g0 s.heap [] _ ⟨rfl, fun k hk => absurd hk (Nat.not_lt_zero k)⟩ va_S.rf (lsH.entry s.heap.size [.retAddr b] 4 (by show (1 : Nat) ≤ 4; decide) (by intro v hv; rcases List.mem_singleton.mp hv with rfl; rfl))
end M50
