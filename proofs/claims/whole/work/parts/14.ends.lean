section RULES5
variable {K : KT} {cc : ByteArray} {own : String} {nL d RC RS : Nat} {pc : Nat} {ls : List (Option Value)} {st : List Value} {h : HP} {n : Nat} {M : HM} {Rf : HR} {Lg : HL} {x y : Nat}
def RQE (B : Nat) (D : va_G) (cA : Nat → ClassId) (post : Option Value → HP → Prop) : Array Value → State → Outcome → State → Prop := fun _ st oc t => ∃ v h, post v h ∧ oc = .returned (v.map (rvB B)) ∧ PW B D cA h t.heap ∧ va_F (fun q => B ≤ q) st t
def FinE (K : KT) (ret : Option FieldType) (post : Option Value → HP → Prop) (mc ms : Nat) : Prop := match K with
  | ((_, B, D, cA), (_, _, _, s, _, args, below, meth, _, Q)) => Q = MQ below (RQE B D cA post) args s mc ms (fun q => B ≤ q) ∧ meth.sig.returnType = ret ∧ meth.locks = false
/-- a contract whose end is said by a property -/
def RetE (Λ : PL) (d : Nat) (μ : MT) (As : List Value) (h : HP) (post : Option Value → HP → Prop) (mc ms : Nat) : Prop :=
  Met Λ.1 μ.1 (.code μ.1 μ.2.1 μ.2.2.1 μ.2.2.2 :: gtbl) { frames := d, cells := mc, slots := ms, locals := 40 * d } (va_Pc (As.map (rvB Λ.2.1)) (fun U => PW Λ.2.1 Λ.2.2.1 Λ.2.2.2 h U.heap ∧ KnAll U Λ.2.2.1 Λ.2.2.2)) (RQE Λ.2.1 Λ.2.2.1 Λ.2.2.2 post) mc ms (fun q => Λ.2.1 ≤ q)
theorem e_iret (o : Ok K cc own nL d RC RS) {ty : FieldType} {v : Int32} {post : Option Value → HP → Prop} (f : FinE K (some ty) post x y) (hd : decode cc pc = .ok (.ireturn, 1)) (hn : narrow ty (.int v) = .int v) (hp : post (some (.int v)) h) : G K pc ls [.int v] h x y := by
  obtain ⟨⟨l, B, D, cA⟩, p, e, R, s, m, args, below, meth, c, Q⟩ := K
  intro H locs la hP hS hl
  obtain ⟨f1, f2, f3⟩ := f
  rw [f1]
  exact W.zret o.1 o.2.1 f2 hn (fun t ht hW => ⟨_, _, hp, rfl, by rw [ht]; exact hP, hS.F ht⟩) hS.2.2 hd f3
theorem e_vret (o : Ok K cc own nL d RC RS) {post : Option Value → HP → Prop} (f : FinE K none post x y) (hd : decode cc pc = .ok (.return_, 1)) (hp : post none h) : G K pc ls [] h x y := by
  obtain ⟨⟨l, B, D, cA⟩, p, e, R, s, m, args, below, meth, c, Q⟩ := K
  intro H locs la hP hS hl
  obtain ⟨f1, f2, f3⟩ := f
  rw [f1]
  exact W.vret o.1 o.2.1 f2 (fun t ht hW => ⟨_, _, hp, rfl, by rw [ht]; exact hP, hS.F ht⟩) hS.2.2 hd f3
theorem RetE.of {Λ : PL} {μ : MT} {As : List Value} {post : Option Value → HP → Prop} {mc ms : Nat} (hy : plainName μ.1.cls = true) (hn : Nat.ble As.length μ.2.2.1 = true) (hc : As.all (fun v => v.category == 1) = true)
    (body : ∀ κ : KR, Ok (Λ, κ) μ.2.1 μ.1.cls μ.2.2.1 d mc ms → FinE (Λ, κ) μ.2.2.2 post mc ms → κ.2.2.2.2.2.2.2.1.name = μ.1.name → G (Λ, κ) 0 (As.map some ++ List.replicate (μ.2.2.1 - As.length) none) [] h 0 0) : RetE Λ d μ As h post mc ms := by
  obtain ⟨l, B, D, cA⟩ := Λ
  obtain ⟨yn, code, nl, ret⟩ := μ
  refine Met.ofW (cc := code) (maxL := nl) (ret := ret) hy rfl ?_
  intro p e s m args below meth c s₁ Bd hml hv
  obtain ⟨rfl, hP, hK⟩ := hv
  have hts := atoms_spec (ws := .code yn code nl ret :: gtbl) Bd.pre
  have hn2 : As.length ≤ nl := Nat.le_of_ble_eq_true hn
  have hc2 : ∀ v ∈ As, v.category = 1 := fun v hv => by
    have := List.all_eq_true.mp hc v hv
    simpa using this
  rw [lg_entry_eq]
  exact body (p, e, _, s, m, _, below, meth, c, _) ⟨Bd.exec, Bd.bytes, hml, findClass_of_methodNamed Bd.named, fun w hw => hts w (List.mem_cons_of_mem _ hw), hK, by rw [hP.1]; exact Nat.le_add_right _ _, Nat.le_refl _, Nat.le_refl _, rfl, rfl⟩ ⟨rfl, Bd.returns, Bd.notSynchronized⟩ (name_of_methodNamed Bd.named Bd.method).1 s.heap [] _ hP va_S.rf (lsH.entry B As nl hn2 hc2)
theorem calls_onE {p : Program} {l : Launch} {e : Env} {R : Room} {s : State} {m : MethodId} {args : Array Value} {below : List Frame} {meth : Method} {c : Code} {H : Heap} {locs : List Loc} {cells slots mc ms : Nat} {Q : State → Prop} {la : Array Slot} {rest st0 : List Value} {a : Array Value} {B : Nat} {D : va_G} {cA : Nat → ClassId} {post : Option Value → HP → Prop} (hS : va_S (fun q => B ≤ q) s.heap H locs)
    (hr : va_Run p l e R s m args below meth c H locs cells slots mc ms (F0 m pc la st0) rest (RQE B D cA post a) (fun q => B ≤ q))
    (kk : ∀ (v : Option Value) (h' : HP) (H1 : Heap) (locs1 : List Loc), post v h' → PW B D cA h' H1 → va_S (fun q => B ≤ q) s.heap H1 locs1 → W p l e R s m args below meth c H1 locs1 (cells + mc) (slots + ms) Q (F0 m (pc + 3) la ((v.map (rvB B)).toList ++ rest))) : W p l e R s m args below meth c H locs cells slots Q (F0 m pc la st0) := by
  intro T hT X
  obtain ⟨v9, st₀, t, T', L, h0, X', hL, e1, e2, ⟨v, h', hpo, hv, hp, hz, hk⟩, stp⟩ := hr T hT X
  cases hv
  rw [h0] at hz hk
  obtain ⟨t2, a1, b1⟩ := kk v h' T'.heap (locs ++ L) hpo (by rw [e1]; exact hp)
    ⟨Nat.le_trans hS.1 (by rw [e1]; exact hz), fun q h1 h2 => by rw [e1, hk q (Nat.lt_of_lt_of_le h1 hS.1) h2]; exact hS.2.1 q h1 h2, fun q hq => by
      rcases List.mem_append.mp hq with h | h
      · exact hS.2.2 q h
      · exact hL q h⟩ T' rfl X'
  exact ⟨t2, stp t2 a1, b1⟩
theorem e_callV (o : Ok K cc own nL (d + 1) RC RS) {idx k t a N : Nat} {μ : MT} {As : List Value} {post : Option Value → HP → Prop} {mc ms : Nat} (lk : LV own idx μ t) (cm : CM μ k) (hM : RetE K.1 d μ (.ref a :: As) h post mc ms) (hk : As.length = k) (hs : shp a = (t, N)) (ha : a < h.1) (hls : ls.length = nL) (hst : Nat.ble (st.map fun v => v.category).sum 8 = true) (hxy : x + mc ≤ RC ∧ y + ms ≤ RS) (hd : decode cc pc = .ok (.invokevirtual idx, 3)) (k : ∀ v h', post v h' → G K (pc + 3) ls (v.toList ++ st) h' (x + mc) (y + ms)) : G K pc ls (As.reverse ++ .ref a :: st) h x y := by
  obtain ⟨⟨l, B, D, cA⟩, p, e, R, s, m, args, below, meth, c, Q⟩ := K
  intro H locs la hP hS hl
  obtain ⟨o1, o2, o3, o4, o5, o6, o7, o8, o9, o10, o11⟩ := o
  obtain ⟨k1, k2, k3, k4, k5⟩ := lk
  obtain ⟨cell, q1, q2, q3, -⟩ := (wE_obj hs k1).mp (hP.2 a ha)
  have hcl := (o6.1 t k1).2.1
  refine calls_onE (mc := mc) (ms := ms) (post := post) (rest := st.map (rvB B)) hS (va_runV (As := As.map (rvB B)) (rest := st.map (rvB B)) (C := cnm t) (b := B + a) ⟨o1, o2, o3, o4, o5⟩ hM ⟨cb_of o5 cm k3 o8 o9, o5 _ k4, by rw [k2]; exact o5 _ k5⟩ ⟨blind, ⟨cell, q1, by rw [q3]; rfl, by rw [q2]; exact hcl⟩, fun U hU hW => ⟨rfl, by rw [hU]; exact hP, o6.warm hW⟩⟩ rfl (by simpa using hk) (by show la.size = nL; rw [hl.1, hls]) (by simp [rvB]) (room_st hst) hd ⟨by rw [o10]; exact hxy.1, by rw [o11]; exact hxy.2⟩) (fun v h' H1 locs1 hpo g1 g2 => ?_)
  have := k v h' hpo H1 locs1 la g1 g2 hl
  rw [List.map_append] at this
  cases v <;> exact this
/-- the answer an int, the heap's ints alone may change -/
def pI (n : Nat) (Rf : HR) (Lg : HL) (post : Int32 → HM → Prop) : Option Value → HP → Prop := fun v h => ∃ r M', v = some (.int r) ∧ h = (n, M', Rf, Lg) ∧ post r M'
def pV (n : Nat) (Rf : HR) (Lg : HL) (post : HM → Prop) : Option Value → HP → Prop := fun v h => ∃ M', v = none ∧ h = (n, M', Rf, Lg) ∧ post M'
theorem pI.of {post : Int32 → HM → Prop} {r : Int32} (hp : post r M) : pI n Rf Lg post (some (.int r)) (n, M, Rf, Lg) := ⟨r, M, rfl, rfl, hp⟩
theorem pV.of {post : HM → Prop} (hp : post M) : pV n Rf Lg post none (n, M, Rf, Lg) := ⟨M, rfl, rfl, hp⟩

theorem e_V0i (o : Ok K cc own nL (d + 1) RC RS) {idx t a N : Nat} {μ : MT} {post : Int32 → HM → Prop} (lk : LV own idx μ t) (cm : CM μ 0) (hM : RetE K.1 d μ [.ref a] (n, M, Rf, Lg) (pI n Rf Lg post) 0 0) (hs : shp a = (t, N)) (ha : a < n) (hls : ls.length = nL) (hst : Nat.ble (st.map fun v => v.category).sum 8 = true) (hxy : x ≤ RC ∧ y ≤ RS) (hd : decode cc pc = .ok (.invokevirtual idx, 3)) (k : ∀ r M', post r M' → G K (pc + 3) ls (.int r :: st) (n, M', Rf, Lg) x y) : G K pc ls (.ref a :: st) (n, M, Rf, Lg) x y :=
  e_callV (As := []) o lk cm hM rfl hs ha hls hst hxy hd (fun v h' hp => by obtain ⟨r, M', rfl, rfl, hq⟩ := hp; exact k r M' hq)
theorem e_V0v (o : Ok K cc own nL (d + 1) RC RS) {idx t a N : Nat} {μ : MT} {post : HM → Prop} (lk : LV own idx μ t) (cm : CM μ 0) (hM : RetE K.1 d μ [.ref a] (n, M, Rf, Lg) (pV n Rf Lg post) 0 0) (hs : shp a = (t, N)) (ha : a < n) (hls : ls.length = nL) (hst : Nat.ble (st.map fun v => v.category).sum 8 = true) (hxy : x ≤ RC ∧ y ≤ RS) (hd : decode cc pc = .ok (.invokevirtual idx, 3)) (k : ∀ M', post M' → G K (pc + 3) ls st (n, M', Rf, Lg) x y) : G K pc ls (.ref a :: st) (n, M, Rf, Lg) x y :=
  e_callV (As := []) o lk cm hM rfl hs ha hls hst hxy hd (fun v h' hp => by obtain ⟨M', rfl, rfl, hq⟩ := hp; exact k M' hq)
theorem e_V1i (o : Ok K cc own nL (d + 1) RC RS) {idx t a N : Nat} {μ : MT} {a1 : Value} {post : Int32 → HM → Prop} (lk : LV own idx μ t) (cm : CM μ 1) (hM : RetE K.1 d μ [.ref a, a1] (n, M, Rf, Lg) (pI n Rf Lg post) 0 0) (hs : shp a = (t, N)) (ha : a < n) (hls : ls.length = nL) (hst : Nat.ble (st.map fun v => v.category).sum 8 = true) (hxy : x ≤ RC ∧ y ≤ RS) (hd : decode cc pc = .ok (.invokevirtual idx, 3)) (k : ∀ r M', post r M' → G K (pc + 3) ls (.int r :: st) (n, M', Rf, Lg) x y) : G K pc ls (a1 :: .ref a :: st) (n, M, Rf, Lg) x y :=
  e_callV (As := [a1]) o lk cm hM rfl hs ha hls hst hxy hd (fun v h' hp => by obtain ⟨r, M', rfl, rfl, hq⟩ := hp; exact k r M' hq)
theorem e_V1v (o : Ok K cc own nL (d + 1) RC RS) {idx t a N : Nat} {μ : MT} {a1 : Value} {post : HM → Prop} (lk : LV own idx μ t) (cm : CM μ 1) (hM : RetE K.1 d μ [.ref a, a1] (n, M, Rf, Lg) (pV n Rf Lg post) 0 0) (hs : shp a = (t, N)) (ha : a < n) (hls : ls.length = nL) (hst : Nat.ble (st.map fun v => v.category).sum 8 = true) (hxy : x ≤ RC ∧ y ≤ RS) (hd : decode cc pc = .ok (.invokevirtual idx, 3)) (k : ∀ M', post M' → G K (pc + 3) ls st (n, M', Rf, Lg) x y) : G K pc ls (a1 :: .ref a :: st) (n, M, Rf, Lg) x y :=
  e_callV (As := [a1]) o lk cm hM rfl hs ha hls hst hxy hd (fun v h' hp => by obtain ⟨M', rfl, rfl, hq⟩ := hp; exact k M' hq)
theorem e_V2i (o : Ok K cc own nL (d + 1) RC RS) {idx t a N : Nat} {μ : MT} {a1 a2 : Value} {post : Int32 → HM → Prop} (lk : LV own idx μ t) (cm : CM μ 2) (hM : RetE K.1 d μ [.ref a, a1, a2] (n, M, Rf, Lg) (pI n Rf Lg post) 0 0) (hs : shp a = (t, N)) (ha : a < n) (hls : ls.length = nL) (hst : Nat.ble (st.map fun v => v.category).sum 8 = true) (hxy : x ≤ RC ∧ y ≤ RS) (hd : decode cc pc = .ok (.invokevirtual idx, 3)) (k : ∀ r M', post r M' → G K (pc + 3) ls (.int r :: st) (n, M', Rf, Lg) x y) : G K pc ls (a2 :: a1 :: .ref a :: st) (n, M, Rf, Lg) x y :=
  e_callV (As := [a1, a2]) o lk cm hM rfl hs ha hls hst hxy hd (fun v h' hp => by obtain ⟨r, M', rfl, rfl, hq⟩ := hp; exact k r M' hq)
theorem e_V2v (o : Ok K cc own nL (d + 1) RC RS) {idx t a N : Nat} {μ : MT} {a1 a2 : Value} {post : HM → Prop} (lk : LV own idx μ t) (cm : CM μ 2) (hM : RetE K.1 d μ [.ref a, a1, a2] (n, M, Rf, Lg) (pV n Rf Lg post) 0 0) (hs : shp a = (t, N)) (ha : a < n) (hls : ls.length = nL) (hst : Nat.ble (st.map fun v => v.category).sum 8 = true) (hxy : x ≤ RC ∧ y ≤ RS) (hd : decode cc pc = .ok (.invokevirtual idx, 3)) (k : ∀ M', post M' → G K (pc + 3) ls st (n, M', Rf, Lg) x y) : G K pc ls (a2 :: a1 :: .ref a :: st) (n, M, Rf, Lg) x y :=
  e_callV (As := [a1, a2]) o lk cm hM rfl hs ha hls hst hxy hd (fun v h' hp => by obtain ⟨M', rfl, rfl, hq⟩ := hp; exact k M' hq)
theorem e_V3i (o : Ok K cc own nL (d + 1) RC RS) {idx t a N : Nat} {μ : MT} {a1 a2 a3 : Value} {post : Int32 → HM → Prop} (lk : LV own idx μ t) (cm : CM μ 3) (hM : RetE K.1 d μ [.ref a, a1, a2, a3] (n, M, Rf, Lg) (pI n Rf Lg post) 0 0) (hs : shp a = (t, N)) (ha : a < n) (hls : ls.length = nL) (hst : Nat.ble (st.map fun v => v.category).sum 8 = true) (hxy : x ≤ RC ∧ y ≤ RS) (hd : decode cc pc = .ok (.invokevirtual idx, 3)) (k : ∀ r M', post r M' → G K (pc + 3) ls (.int r :: st) (n, M', Rf, Lg) x y) : G K pc ls (a3 :: a2 :: a1 :: .ref a :: st) (n, M, Rf, Lg) x y :=
  e_callV (As := [a1, a2, a3]) o lk cm hM rfl hs ha hls hst hxy hd (fun v h' hp => by obtain ⟨r, M', rfl, rfl, hq⟩ := hp; exact k r M' hq)
theorem e_V3v (o : Ok K cc own nL (d + 1) RC RS) {idx t a N : Nat} {μ : MT} {a1 a2 a3 : Value} {post : HM → Prop} (lk : LV own idx μ t) (cm : CM μ 3) (hM : RetE K.1 d μ [.ref a, a1, a2, a3] (n, M, Rf, Lg) (pV n Rf Lg post) 0 0) (hs : shp a = (t, N)) (ha : a < n) (hls : ls.length = nL) (hst : Nat.ble (st.map fun v => v.category).sum 8 = true) (hxy : x ≤ RC ∧ y ≤ RS) (hd : decode cc pc = .ok (.invokevirtual idx, 3)) (k : ∀ M', post M' → G K (pc + 3) ls st (n, M', Rf, Lg) x y) : G K pc ls (a3 :: a2 :: a1 :: .ref a :: st) (n, M, Rf, Lg) x y :=
  e_callV (As := [a1, a2, a3]) o lk cm hM rfl hs ha hls hst hxy hd (fun v h' hp => by obtain ⟨M', rfl, rfl, hq⟩ := hp; exact k M' hq)
theorem e_V4i (o : Ok K cc own nL (d + 1) RC RS) {idx t a N : Nat} {μ : MT} {a1 a2 a3 a4 : Value} {post : Int32 → HM → Prop} (lk : LV own idx μ t) (cm : CM μ 4) (hM : RetE K.1 d μ [.ref a, a1, a2, a3, a4] (n, M, Rf, Lg) (pI n Rf Lg post) 0 0) (hs : shp a = (t, N)) (ha : a < n) (hls : ls.length = nL) (hst : Nat.ble (st.map fun v => v.category).sum 8 = true) (hxy : x ≤ RC ∧ y ≤ RS) (hd : decode cc pc = .ok (.invokevirtual idx, 3)) (k : ∀ r M', post r M' → G K (pc + 3) ls (.int r :: st) (n, M', Rf, Lg) x y) : G K pc ls (a4 :: a3 :: a2 :: a1 :: .ref a :: st) (n, M, Rf, Lg) x y :=
  e_callV (As := [a1, a2, a3, a4]) o lk cm hM rfl hs ha hls hst hxy hd (fun v h' hp => by obtain ⟨r, M', rfl, rfl, hq⟩ := hp; exact k r M' hq)
theorem e_V4v (o : Ok K cc own nL (d + 1) RC RS) {idx t a N : Nat} {μ : MT} {a1 a2 a3 a4 : Value} {post : HM → Prop} (lk : LV own idx μ t) (cm : CM μ 4) (hM : RetE K.1 d μ [.ref a, a1, a2, a3, a4] (n, M, Rf, Lg) (pV n Rf Lg post) 0 0) (hs : shp a = (t, N)) (ha : a < n) (hls : ls.length = nL) (hst : Nat.ble (st.map fun v => v.category).sum 8 = true) (hxy : x ≤ RC ∧ y ≤ RS) (hd : decode cc pc = .ok (.invokevirtual idx, 3)) (k : ∀ M', post M' → G K (pc + 3) ls st (n, M', Rf, Lg) x y) : G K pc ls (a4 :: a3 :: a2 :: a1 :: .ref a :: st) (n, M, Rf, Lg) x y :=
  e_callV (As := [a1, a2, a3, a4]) o lk cm hM rfl hs ha hls hst hxy hd (fun v h' hp => by obtain ⟨M', rfl, rfl, hq⟩ := hp; exact k M' hq)
end RULES5
