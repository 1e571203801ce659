section RULES2
variable {K : KT} {cc : ByteArray} {own : String} {nL d RC RS : Nat} {pc : Nat} {ls : List (Option Value)} {st : List Value} {h : HP} {n : Nat} {M : HM} {Rf : HR} {Lg : HL} {x y : Nat}
/-! ends -/
theorem g_iret (o : Ok K cc own nL d RC RS) {ty : FieldType} {v w : Int32} {h2 : HP} (f : Fin1 K (some ty) (some (.int w)) h2 x y) (hd : decode cc pc = .ok (.ireturn, 1)) (hn : narrow ty (.int v) = .int v) (hv : v = w) (hh : h = h2) : G K pc ls [.int v] h x y := by
  subst hv; subst hh
  obtain ⟨⟨l, B, D, cA⟩, p, e, R, s, m, args, below, meth, c, Q⟩ := K
  intro H locs la hP hS hl
  obtain ⟨f1, f2, f3⟩ := f
  rw [f1]
  exact W.zret o.1 o.2.1 f2 hn (fun t ht hW => ⟨rfl, by rw [ht]; exact hP, hS.F ht⟩) hS.2.2 hd f3
theorem g_lret (o : Ok K cc own nL d RC RS) {v w : Int64} {h2 : HP} (f : Fin1 K (some .long) (some (.long w)) h2 x y) (hd : decode cc pc = .ok (.lreturn, 1)) (hv : v = w) (hh : h = h2) : G K pc ls [.long v] h x y := by
  subst hv; subst hh
  obtain ⟨⟨l, B, D, cA⟩, p, e, R, s, m, args, below, meth, c, Q⟩ := K
  intro H locs la hP hS hl
  obtain ⟨f1, f2, f3⟩ := f
  rw [f1]
  exact W.lret o.1 o.2.1 f2 (fun t ht hW => ⟨rfl, by rw [ht]; exact hP, hS.F ht⟩) hS.2.2 hd f3
theorem g_vret (o : Ok K cc own nL d RC RS) {h2 : HP} (f : Fin1 K none none h2 x y) (hd : decode cc pc = .ok (.return_, 1)) (hh : h = h2) : G K pc ls [] h x y := by
  subst hh
  obtain ⟨⟨l, B, D, cA⟩, p, e, R, s, m, args, below, meth, c, Q⟩ := K
  intro H locs la hP hS hl
  obtain ⟨f1, f2, f3⟩ := f
  rw [f1]
  exact W.vret o.1 o.2.1 f2 (fun t ht hW => ⟨rfl, by rw [ht]; exact hP, hS.F ht⟩) hS.2.2 hd f3
theorem g_widen {x2 y2 : Nat} (h1 : x ≤ x2) (h2 : y ≤ y2) (k : G K pc ls st h x2 y2) : G K pc ls st h x y := by
  obtain ⟨⟨l, B, D, cA⟩, p, e, R, s, m, args, below, meth, c, Q⟩ := K
  intro H locs la hP hS hl
  exact W.widen h1 h2 (k H locs la hP hS hl)
theorem g_eq {pc2 : Nat} {ls2 : List (Option Value)} {st2' : List Value} {h2 : HP} (e0 : pc = pc2) (e1 : ls = ls2) (e2 : st = st2') (e3 : h = h2) (k : G K pc2 ls2 st2' h2 x y) : G K pc ls st h x y := by
  subst e0; subst e1; subst e2; subst e3; exact k
/-- a method by its body -/
theorem Ret.of {Λ : PL} {μ : MT} {As : List Value} {v : Option Value} {h' : HP} {mc ms : Nat} (hy : plainName μ.1.cls = true) (hn : Nat.ble As.length μ.2.2.1 = true) (hc : As.all (fun v => v.category == 1) = true)
    (body : ∀ κ : KR, Ok (Λ, κ) μ.2.1 μ.1.cls μ.2.2.1 d mc ms → Fin1 (Λ, κ) μ.2.2.2 v h' mc ms → κ.2.2.2.2.2.2.2.1.name = μ.1.name → G (Λ, κ) 0 (As.map some ++ List.replicate (μ.2.2.1 - As.length) none) [] h 0 0) : Ret Λ d μ As h v h' mc ms := by
  obtain ⟨l, B, D, cA⟩ := Λ
  obtain ⟨yn, code, nl, ret⟩ := μ
  refine Met.ofW (cc := code) (maxL := nl) (ret := ret) hy rfl ?_
  intro p e s m args below meth c s₁ Bd hml hv
  obtain ⟨rfl, hP, hK⟩ := hv
  have hts := atoms_spec (ws := .code yn code nl ret :: gtbl) Bd.pre
  have hn2 : As.length ≤ nl := Nat.le_of_ble_eq_true hn
  have hc2 : ∀ v ∈ As, v.category = 1 := fun v hv => by
    have := List.all_eq_true.mp hc v hv
    simpa using this
  rw [lg_entry_eq]
  exact body (p, e, _, s, m, _, below, meth, c, _) ⟨Bd.exec, Bd.bytes, hml, findClass_of_methodNamed Bd.named, fun w hw => hts w (List.mem_cons_of_mem _ hw), hK, by rw [hP.1]; exact Nat.le_add_right _ _, Nat.le_refl _, Nat.le_refl _, rfl, rfl⟩ ⟨rfl, Bd.returns, Bd.notSynchronized⟩ (name_of_methodNamed Bd.named Bd.method).1 s.heap [] _ hP va_S.rf (lsH.entry B As nl hn2 hc2)
/-! calls -/
theorem calls_on {p : Program} {l : Launch} {e : Env} {R : Room} {s : State} {m : MethodId} {args : Array Value} {below : List Frame} {meth : Method} {c : Code} {H : Heap} {locs : List Loc} {cells slots mc ms : Nat} {Q : State → Prop} {la : Array Slot} {rest st0 : List Value} {a : Array Value} {B : Nat} {D : va_G} {cA : Nat → ClassId} {v : Option Value} {h' : HP} (hS : va_S (fun q => B ≤ q) s.heap H locs)
    (hr : va_Run p l e R s m args below meth c H locs cells slots mc ms (F0 m pc la st0) rest (RQ B D cA v h' a) (fun q => B ≤ q))
    (kk : ∀ (H1 : Heap) (locs1 : List Loc), PW B D cA h' H1 → va_S (fun q => B ≤ q) s.heap H1 locs1 → W p l e R s m args below meth c H1 locs1 (cells + mc) (slots + ms) Q (F0 m (pc + 3) la ((v.map (rvB B)).toList ++ rest))) : W p l e R s m args below meth c H locs cells slots Q (F0 m pc la st0) := by
  intro T hT X
  obtain ⟨v9, st₀, t, T', L, h0, X', hL, e1, e2, ⟨hv, hp, hz, hk⟩, stp⟩ := hr T hT X
  cases hv
  rw [h0] at hz hk
  obtain ⟨t2, a1, b1⟩ := kk T'.heap (locs ++ L) (by rw [e1]; exact hp)
    ⟨Nat.le_trans hS.1 (by rw [e1]; exact hz), fun q h1 h2 => by rw [e1, hk q (Nat.lt_of_lt_of_le h1 hS.1) h2]; exact hS.2.1 q h1 h2, fun q hq => by
      rcases List.mem_append.mp hq with h | h
      · exact hS.2.2 q h
      · exact hL q h⟩ T' rfl X'
  exact ⟨t2, stp t2 a1, b1⟩
/-- what the tables say of a method that is called: its code, its class, how many arguments -/
def CM (μ : MT) (k : Nat) : Prop := Cond.code μ.1 μ.2.1 μ.2.2.1 μ.2.2.2 ∈ gtbl ∧ Cond.initialized μ.1.cls ∈ gtbl ∧ (μ.1.cls ≠ "java/lang/invoke/MethodHandle" ∧ μ.1.cls ≠ "java/lang/invoke/VarHandle" ∧ (parseMethodDescriptor μ.1.desc).map (fun d => d.parameters.length) = some k) ∧ μ.2.2.1 ≤ 21
def LV (own : String) (idx : Nat) (μ : MT) (t : Nat) : Prop := t < 5 ∧ cnm t = μ.1.cls ∧ Cond.methodLink own idx μ.1 ∈ gtbl ∧ Cond.instanceMethod μ.1 ∈ gtbl ∧ Cond.selects μ.1.cls μ.1 μ.1 ∈ gtbl
def LSt (own : String) (idx : Nat) (μ : MT) : Prop := Cond.methodLink own idx μ.1 ∈ gtbl ∧ Cond.static μ.1 ∈ gtbl
def LSN (own : String) (idx : Nat) (μ : MT) : Prop := Cond.methodLinkNest own idx μ.1 RX3 ∈ nestW ∧ Cond.static μ.1 ∈ gtbl
def LI (own : String) (idx : Nat) (μ : MT) : Prop := μ.1.name = "<init>" ∧ Cond.methodLink own idx μ.1 ∈ gtbl ∧ Cond.instanceMethod μ.1 ∈ gtbl
def LIN (own : String) (idx : Nat) (μ : MT) : Prop := μ.1.name = "<init>" ∧ Cond.methodLinkNest own idx μ.1 RX3 ∈ nestW ∧ Cond.instanceMethod μ.1 ∈ gtbl
theorem blind {B : Nat} {D : va_G} {cA : Nat → ClassId} {As : List Value} : FrameBlind (va_Pc As (fun U => PW B D cA h U.heap ∧ KnAll U D cA)) := fun a U g mk q => ⟨q.1, q.2.1, KnAll.same (u := U) (U := U.calling g mk a) rfl q.2.2⟩
theorem cb_of {R : Room} {s : State} {args : Array Value} {idx k dd mc ms : Nat} {μ : MT} (hts : ∀ w ∈ gtbl, w.before args s = true) (cm : CM μ k) (hl : Cond.methodLink own idx μ.1 ∈ gtbl) (hf : dd + 1 ≤ R.frames) (hlo : 40 * (dd + 1) ≤ R.locals) : CallB R s args own idx μ.1 μ.2.1 μ.2.2.1 μ.2.2.2 (.code μ.1 μ.2.1 μ.2.2.1 μ.2.2.2 :: gtbl) { frames := dd, cells := mc, slots := ms, locals := 40 * dd } mc ms k := by
  obtain ⟨c1, c2, c3, c4⟩ := cm
  exact callB_of (Ts := .code μ.1 μ.2.1 μ.2.2.1 μ.2.2.2 :: gtbl) k (fun w hw => hts w (gt_in c1 hw).1) (gt_good c1) rfl rfl rfl (hts _ c2) (hts _ hl) c3 ⟨hf, by show 8 + (μ.2.2.1 + 11) + 40 * dd ≤ R.locals; omega⟩
theorem cn_of {R : Room} {s : State} {args : Array Value} {idx k dd mc ms : Nat} {μ : MT} (hts : ∀ w ∈ gtbl, w.before args s = true) (cm : CM μ k) (hl : va_Nw (.methodLinkNest own idx μ.1 RX3) s) (hf : dd + 1 ≤ R.frames) (hlo : 40 * (dd + 1) ≤ R.locals) : va_CN R s args own idx μ.1 RX3 μ.2.1 μ.2.2.1 μ.2.2.2 (.code μ.1 μ.2.1 μ.2.2.1 μ.2.2.2 :: gtbl) { frames := dd, cells := mc, slots := ms, locals := 40 * dd } mc ms k := by
  obtain ⟨c1, c2, c3, c4⟩ := cm
  exact va_cnB (Ts := .code μ.1 μ.2.1 μ.2.2.1 μ.2.2.2 :: gtbl) k (fun w hw => hts w (gt_in c1 hw).1) (gt_good c1) rfl rfl rfl hl (hts _ c2) c3 ⟨hf, by show 8 + (μ.2.2.1 + 11) + 40 * dd ≤ R.locals; omega⟩
theorem cat_sum {B : Nat} : ((st.map (rvB B)).map fun v => v.category) = st.map fun v => v.category := by
  rw [List.map_map]; exact List.map_congr_left (fun v _ => rvB_cat B v)
theorem room_st {B : Nat} {m : MethodId} {la : Array Slot} {st0 : List Value} (hst : Nat.ble (st.map fun v => v.category).sum 8 = true) : 2 * (F0 m pc la st0).monitorRoom + ((st.map (rvB B)).map fun v => v.category).sum ≤ 8 := by
  rw [cat_sum]; exact lv_room (Nat.le_of_ble_eq_true hst)
theorem g_callV (o : Ok K cc own nL (d + 1) RC RS) {idx k t a N : Nat} {μ : MT} {As : List Value} {v : Option Value} {h' : HP} {mc ms : Nat} (lk : LV own idx μ t) (cm : CM μ k) (hM : Ret K.1 d μ (.ref a :: As) h v h' mc ms) (hk : As.length = k) (hs : shp a = (t, N)) (ha : a < h.1) (hls : ls.length = nL) (hst : Nat.ble (st.map fun v => v.category).sum 8 = true) (hxy : x + mc ≤ RC ∧ y + ms ≤ RS) (hd : decode cc pc = .ok (.invokevirtual idx, 3)) (k : G K (pc + 3) ls (v.toList ++ st) h' (x + mc) (y + ms)) : G K pc ls (As.reverse ++ .ref a :: st) h x y := by
  obtain ⟨⟨l, B, D, cA⟩, p, e, R, s, m, args, below, meth, c, Q⟩ := K
  intro H locs la hP hS hl
  obtain ⟨o1, o2, o3, o4, o5, o6, o7, o8, o9, o10, o11⟩ := o
  obtain ⟨k1, k2, k3, k4, k5⟩ := lk
  obtain ⟨cell, q1, q2, q3, -⟩ := (wE_obj hs k1).mp (hP.2 a ha)
  have hcl := (o6.1 t k1).2.1
  refine calls_on (mc := mc) (ms := ms) (v := v) (h' := h') (rest := st.map (rvB B)) hS (va_runV (As := As.map (rvB B)) (rest := st.map (rvB B)) (C := cnm t) (b := B + a) ⟨o1, o2, o3, o4, o5⟩ hM ⟨cb_of o5 cm k3 o8 o9, o5 _ k4, by rw [k2]; exact o5 _ k5⟩ ⟨blind, ⟨cell, q1, by rw [q3]; rfl, by rw [q2]; exact hcl⟩, fun U hU hW => ⟨rfl, by rw [hU]; exact hP, o6.warm hW⟩⟩ rfl (by simpa using hk) (by show la.size = nL; rw [hl.1, hls]) (by simp [rvB]) (room_st hst) hd ⟨by rw [o10]; exact hxy.1, by rw [o11]; exact hxy.2⟩) (fun H1 locs1 g1 g2 => ?_)
  have := k H1 locs1 la g1 g2 hl
  rw [List.map_append] at this
  cases v <;> exact this
theorem g_callS (o : Ok K cc own nL (d + 1) RC RS) {idx k : Nat} {μ : MT} {As : List Value} {v : Option Value} {h' : HP} {mc ms : Nat} (lk : LSt own idx μ) (cm : CM μ k) (hM : Ret K.1 d μ As h v h' mc ms) (hk : As.length = k) (hls : ls.length = nL) (hst : Nat.ble (st.map fun v => v.category).sum 8 = true) (hxy : x + mc ≤ RC ∧ y + ms ≤ RS) (hd : decode cc pc = .ok (.invokestatic idx, 3)) (k : G K (pc + 3) ls (v.toList ++ st) h' (x + mc) (y + ms)) : G K pc ls (As.reverse ++ st) h x y := by
  obtain ⟨⟨l, B, D, cA⟩, p, e, R, s, m, args, below, meth, c, Q⟩ := K
  intro H locs la hP hS hl
  obtain ⟨o1, o2, o3, o4, o5, o6, o7, o8, o9, o10, o11⟩ := o
  refine calls_on (mc := mc) (ms := ms) (v := v) (h' := h') (rest := st.map (rvB B)) hS (va_runS (As := As.map (rvB B)) (rest := st.map (rvB B)) ⟨o1, o2, o3, o4, o5⟩ hM ⟨cb_of o5 cm lk.1 o8 o9, o5 _ lk.2⟩ ⟨blind, fun U hU hW => ⟨rfl, by rw [hU]; exact hP, o6.warm hW⟩⟩ rfl (by simpa using hk) (by show la.size = nL; rw [hl.1, hls]) (by simp) (room_st hst) hd ⟨by rw [o10]; exact hxy.1, by rw [o11]; exact hxy.2⟩) (fun H1 locs1 g1 g2 => ?_)
  have := k H1 locs1 la g1 g2 hl
  rw [List.map_append] at this
  cases v <;> exact this
theorem g_callSN (o : Ok K cc own nL (d + 1) RC RS) {idx k : Nat} {μ : MT} {As : List Value} {v : Option Value} {h' : HP} {mc ms : Nat} (lk : LSN own idx μ) (cm : CM μ k) (hM : Ret K.1 d μ As h v h' mc ms) (hk : As.length = k) (hls : ls.length = nL) (hst : Nat.ble (st.map fun v => v.category).sum 8 = true) (hxy : x + mc ≤ RC ∧ y + ms ≤ RS) (hd : decode cc pc = .ok (.invokestatic idx, 3)) (k : G K (pc + 3) ls (v.toList ++ st) h' (x + mc) (y + ms)) : G K pc ls (As.reverse ++ st) h x y := by
  obtain ⟨⟨l, B, D, cA⟩, p, e, R, s, m, args, below, meth, c, Q⟩ := K
  intro H locs la hP hS hl
  obtain ⟨o1, o2, o3, o4, o5, o6, o7, o8, o9, o10, o11⟩ := o
  refine calls_on (mc := mc) (ms := ms) (v := v) (h' := h') (rest := st.map (rvB B)) hS (va_runSN (host := RX3) (As := As.map (rvB B)) (rest := st.map (rvB B)) ⟨o1, o2, o3, o4, o5⟩ hM ⟨cn_of o5 cm (o6.2.2.1 _ lk.1) o8 o9, o5 _ lk.2, trivial⟩ ⟨blind, fun U hU hW => ⟨rfl, by rw [hU]; exact hP, o6.warm hW⟩⟩ rfl (by simpa using hk) (by show la.size = nL; rw [hl.1, hls]) (by simp) (room_st hst) hd ⟨by rw [o10]; exact hxy.1, by rw [o11]; exact hxy.2⟩) (fun H1 locs1 g1 g2 => ?_)
  have := k H1 locs1 la g1 g2 hl
  rw [List.map_append] at this
  cases v <;> exact this
theorem g_callI (o : Ok K cc own nL (d + 1) RC RS) {idx k a : Nat} {μ : MT} (hret : μ.2.2.2 = none) {As : List Value} {h' : HP} {mc ms : Nat} (lk : LI own idx μ) (cm : CM μ k) (hM : Ret K.1 d μ (.ref a :: As) h none h' mc ms) (hk : As.length = k) (hls : ls.length = nL) (hst : Nat.ble (st.map fun v => v.category).sum 8 = true) (hxy : x + mc ≤ RC ∧ y + ms ≤ RS) (hd : decode cc pc = .ok (.invokespecial idx, 3)) (k : G K (pc + 3) ls st h' (x + mc) (y + ms)) : G K pc ls (As.reverse ++ .ref a :: st) h x y := by
  obtain ⟨⟨l, B, D, cA⟩, p, e, R, s, m, args, below, meth, c, Q⟩ := K
  obtain ⟨yn, code, nl, ret⟩ := μ
  cases hret
  intro H locs la hP hS hl
  obtain ⟨o1, o2, o3, o4, o5, o6, o7, o8, o9, o10, o11⟩ := o
  refine calls_on (mc := mc) (ms := ms) (v := none) (h' := h') (rest := st.map (rvB B)) hS (va_runI (As := As.map (rvB B)) (b := B + a) (rest := st.map (rvB B)) ⟨o1, o2, o3, o4, o5⟩ hM ⟨cb_of o5 cm lk.2.1 o8 o9, lk.1, o5 _ lk.2.2⟩ ⟨blind, fun U hU hW => ⟨rfl, by rw [hU]; exact hP, o6.warm hW⟩⟩ rfl (by simpa using hk) (by show la.size = nL; rw [hl.1, hls]) (by simp [rvB]) (room_st hst) hd ⟨by rw [o10]; exact hxy.1, by rw [o11]; exact hxy.2⟩) (fun H1 locs1 g1 g2 => ?_)
  exact k H1 locs1 la g1 g2 hl
theorem g_callIN (o : Ok K cc own nL (d + 1) RC RS) {idx k a : Nat} {μ : MT} (hret : μ.2.2.2 = none) {As : List Value} {h' : HP} {mc ms : Nat} (lk : LIN own idx μ) (cm : CM μ k) (hM : Ret K.1 d μ (.ref a :: As) h none h' mc ms) (hk : As.length = k) (hls : ls.length = nL) (hst : Nat.ble (st.map fun v => v.category).sum 8 = true) (hxy : x + mc ≤ RC ∧ y + ms ≤ RS) (hd : decode cc pc = .ok (.invokespecial idx, 3)) (k : G K (pc + 3) ls st h' (x + mc) (y + ms)) : G K pc ls (As.reverse ++ .ref a :: st) h x y := by
  obtain ⟨⟨l, B, D, cA⟩, p, e, R, s, m, args, below, meth, c, Q⟩ := K
  obtain ⟨yn, code, nl, ret⟩ := μ
  cases hret
  intro H locs la hP hS hl
  obtain ⟨o1, o2, o3, o4, o5, o6, o7, o8, o9, o10, o11⟩ := o
  refine calls_on (mc := mc) (ms := ms) (v := none) (h' := h') (rest := st.map (rvB B)) hS (va_runIN (host := RX3) (As := As.map (rvB B)) (b := B + a) (rest := st.map (rvB B)) ⟨o1, o2, o3, o4, o5⟩ hM ⟨cn_of o5 cm (o6.2.2.1 _ lk.2.1) o8 o9, lk.1, o5 _ lk.2.2⟩ ⟨blind, fun U hU hW => ⟨rfl, by rw [hU]; exact hP, o6.warm hW⟩⟩ rfl (by simpa using hk) (by show la.size = nL; rw [hl.1, hls]) (by simp [rvB]) (room_st hst) hd ⟨by rw [o10]; exact hxy.1, by rw [o11]; exact hxy.2⟩) (fun H1 locs1 g1 g2 => ?_)
  exact k H1 locs1 la g1 g2 hl
theorem g_max (o : Ok K cc own nL (d + 1) RC RS) {idx : Nat} {a b : Int32} (lk : Cond.methodLink own idx Lib.Math.max.name ∈ gtbl) (hst : Nat.ble (st.map fun v => v.category).sum 8 = true) (hls : ls.length = nL) (hxy : x ≤ RC ∧ y ≤ RS) (hd : decode cc pc = .ok (.invokestatic idx, 3)) (k : G K (pc + 3) ls (.int (if a < b then b else a) :: st) h x y) (w1 : Cond.static Lib.Math.max.name ∈ gtbl) (w2 : Cond.initialized "java/lang/Math" ∈ gtbl) (w3 : Cond.code Lib.Math.max.name Lib.Math.max.code 2 (some .int) ∈ gtbl) : G K pc ls (.int b :: .int a :: st) h x y := by
  obtain ⟨⟨l, B, D, cA⟩, p, e, R, s, m, args, below, meth, c, Q⟩ := K
  intro H locs la hP hS hl
  obtain ⟨o1, o2, o3, o4, o5, o6, o7, o8, o9, o10, o11⟩ := o
  have hs8 := Nat.le_of_ble_eq_true hst
  refine va_mmax o1 o2 (by rw [o3, hl.1, hls]) o4 (o5 _ lk) (o5 _ w1) (o5 _ w2) (o5 _ w3) (by omega) (by rw [cat_sum]; omega) (by rw [o10]; exact hxy.1) (by rw [o11]; exact hxy.2) hd (k H locs la hP hS hl)
theorem g_min (o : Ok K cc own nL (d + 1) RC RS) {idx : Nat} {a b : Int32} (lk : Cond.methodLink own idx Lib.Math.min.name ∈ gtbl) (hst : Nat.ble (st.map fun v => v.category).sum 8 = true) (hls : ls.length = nL) (hxy : x ≤ RC ∧ y ≤ RS) (hd : decode cc pc = .ok (.invokestatic idx, 3)) (k : G K (pc + 3) ls (.int (if b < a then b else a) :: st) h x y) (w1 : Cond.static Lib.Math.min.name ∈ gtbl) (w2 : Cond.initialized "java/lang/Math" ∈ gtbl) (w3 : Cond.code Lib.Math.min.name Lib.Math.min.code 2 (some .int) ∈ gtbl) : G K pc ls (.int b :: .int a :: st) h x y := by
  obtain ⟨⟨l, B, D, cA⟩, p, e, R, s, m, args, below, meth, c, Q⟩ := K
  intro H locs la hP hS hl
  obtain ⟨o1, o2, o3, o4, o5, o6, o7, o8, o9, o10, o11⟩ := o
  have hs8 := Nat.le_of_ble_eq_true hst
  refine va_mmin o1 o2 (by rw [o3, hl.1, hls]) o4 (o5 _ lk) (o5 _ w1) (o5 _ w2) (o5 _ w3) (by omega) (by rw [cat_sum]; omega) (by rw [o10]; exact hxy.1) (by rw [o11]; exact hxy.2) hd (k H locs la hP hS hl)
end RULES2
