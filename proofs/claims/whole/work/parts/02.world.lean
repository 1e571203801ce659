/-! the pure heap: rows of ints, of references, of longs, by the place of the cell and its slot; cells are made in one fixed order -/
abbrev HM : Type := Nat → Nat → Int32
abbrev HR : Type := Nat → Nat → Option Nat
abbrev HL : Type := Nat → Nat → Int64
abbrev HP : Type := Nat × HM × HR × HL
def lay_city : List (Nat × Nat) := [(0, 16), (6, 4), (6, 4), (6, 6), (6, 6), (6, 6), (6, 6), (6, 6), (6, 6), (6, 6), (6, 4), (6, 8)]
def lay_now : List (Nat × Nat) := [(1, 6), (6, 6), (6, 6), (6, 6)]
def lay : List (Nat × Nat) := [(3, 17), (2, 7), (5, 200), (6, 4)] ++ (lay_city ++ (lay_city ++ (lay_now ++ (lay_now ++ ([(8, 10), (8, 2), (7, 2), (6, 6), (6, 6), (6, 3), (9, 4), (6, 6), (6, 6), (6, 6), (6, 6), (6, 4)] ++ ((List.replicate 12 lay_now).flatten ++ [(4, 26), (6, 200), (6, 56), (6, 56), (6, 21), (6, 210), (6, 42), (7, 2), (6, 6), (6, 21), (6, 63), (6, 3), (6, 3)]))))))
def shp (k : Nat) : Nat × Nat := lay.getD k (99, 0)
def cnm (t : Nat) : String := match t with
  | 0 => RX0
  | 1 => RX1
  | 2 => RX2
  | 3 => RX3
  | _ => RX4
def ctb (t : Nat) : u_T := match t with
  | 0 => TX0
  | 1 => TX1
  | 2 => TX2
  | 3 => TX3
  | _ => TX4
def cty (t : Nat) : Nat → FieldType := match t with
  | 0 => tyX0
  | 1 => tyX1
  | 2 => tyX2
  | 3 => tyX3
  | _ => tyX4
def cln (t : Nat) : Nat := match t with
  | 0 => 16
  | 1 => 6
  | 2 => 7
  | 3 => 17
  | _ => 26
def aty (t : Nat) : FieldType := match t with
  | 5 => .char
  | 6 => .int
  | 7 => .boolean
  | 8 => .object RX1
  | _ => .array .int
/-- a pure value as the machine has it; retAddr stands for a reference that is no cell of ours -/
def rvB (B : Nat) (v : Value) : Value := match v with
  | .ref a => .ref (B + a)
  | .retAddr a => .ref a
  | v => v
theorem rvB_cat (B : Nat) (v : Value) : (rvB B v).category = v.category := by cases v <;> rfl
def fvl (B : Nat) (M : HM) (Rf : HR) (Lg : HL) (t k j : Nat) : Value := match cty t j with
  | .int => .int (M k j)
  | .boolean => .int (M k j)
  | .long => .long (Lg k j)
  | _ => va_rf ((Rf k j).map (B + ·))
def wE (B : Nat) (D : va_G) (cA : Nat → ClassId) (M : HM) (Rf : HR) (Lg : HL) (k : Nat) (H : Heap) : Prop :=
  if (shp k).1 < 5 then t_OB (B + k) (D.1 (shp k).1) (cln (shp k).1) (D.2 (shp k).1) H (fun j => fvl B M Rf Lg (shp k).1 k j)
  else if (shp k).1 < 8 then H[B + k]? = some (arrV (cA (shp k).1) (shp k).2 (fun j => .int (M k j)))
  else H[B + k]? = some (arrV (cA (shp k).1) (shp k).2 (fun j => va_rf ((Rf k j).map (B + ·))))
theorem wE_obj {B : Nat} {D : va_G} {cA : Nat → ClassId} {M : HM} {Rf : HR} {Lg : HL} {k : Nat} {H : Heap} {t N : Nat} (hs : shp k = (t, N)) (ht : t < 5) : wE B D cA M Rf Lg k H ↔ t_OB (B + k) (D.1 t) (cln t) (D.2 t) H (fun j => fvl B M Rf Lg t k j) := by
  unfold wE; rw [hs]; simp only [ht, if_true]
theorem wE_int {B : Nat} {D : va_G} {cA : Nat → ClassId} {M : HM} {Rf : HR} {Lg : HL} {k : Nat} {H : Heap} {t N : Nat} (hs : shp k = (t, N)) (ht : 5 ≤ t) (ht2 : t < 8) : wE B D cA M Rf Lg k H ↔ H[B + k]? = some (arrV (cA t) N (fun j => .int (M k j))) := by
  unfold wE; rw [hs]; simp only [ht2, if_true, if_neg (Nat.not_lt.mpr ht)]
theorem wE_ref {B : Nat} {D : va_G} {cA : Nat → ClassId} {M : HM} {Rf : HR} {Lg : HL} {k : Nat} {H : Heap} {t N : Nat} (hs : shp k = (t, N)) (ht : 8 ≤ t) : wE B D cA M Rf Lg k H ↔ H[B + k]? = some (arrV (cA t) N (fun j => va_rf ((Rf k j).map (B + ·)))) := by
  unfold wE; rw [hs]; simp only [if_neg (Nat.not_lt.mpr ht), if_neg (show ¬ t < 5 by omega)]
theorem wE.kept {B : Nat} {D : va_G} {cA : Nat → ClassId} {M M' : HM} {Rf Rf' : HR} {Lg Lg' : HL} {k : Nat} {H H1 : Heap} (h : wE B D cA M Rf Lg k H) (hq : H1[B + k]? = H[B + k]?) (h1 : M' k = M k) (h2 : Rf' k = Rf k) (h3 : Lg' k = Lg k) : wE B D cA M' Rf' Lg' k H1 := by
  have e : (fun j => fvl B M' Rf' Lg' (shp k).1 k j) = (fun j => fvl B M Rf Lg (shp k).1 k j) := by
    funext j; simp only [fvl, h1, h2, h3]
  unfold wE at h ⊢
  rw [e, h1, h2, hq]
  by_cases c : (shp k).1 < 5
  · rw [if_pos c] at h ⊢
    exact t_OB.kept h hq
  · rw [if_neg c] at h ⊢
    exact h
def PW (B : Nat) (D : va_G) (cA : Nat → ClassId) (h : HP) (H : Heap) : Prop := H.size = B + h.1 ∧ ∀ k, k < h.1 → wE B D cA h.2.1 h.2.2.1 h.2.2.2 k H
theorem PW.upd {B : Nat} {D : va_G} {cA : Nat → ClassId} {n : Nat} {M M' : HM} {Rf Rf' : HR} {Lg Lg' : HL} {k : Nat} {H H1 : Heap} (hP : PW B D cA (n, M, Rf, Lg) H) (z : H1.size = H.size) (oq : ∀ q : Nat, q ≠ B + k → H1[q]? = H[q]?) (hM : ∀ x, x ≠ k → M' x = M x) (hR : ∀ x, x ≠ k → Rf' x = Rf x) (hL : ∀ x, x ≠ k → Lg' x = Lg x) (hw : wE B D cA M' Rf' Lg' k H1) : PW B D cA (n, M', Rf', Lg') H1 := by
  refine ⟨by rw [z]; exact hP.1, fun x hx => ?_⟩
  by_cases e : x = k
  · subst e; exact hw
  · exact (hP.2 x hx).kept (oq _ (by omega)) (hM x e) (hR x e) (hL x e)
theorem PW.grow {B : Nat} {D : va_G} {cA : Nat → ClassId} {n : Nat} {M : HM} {Rf : HR} {Lg : HL} {H H1 : Heap} (hP : PW B D cA (n, M, Rf, Lg) H) (z : H1.size = H.size + 1) (oq : ∀ q : Nat, q < H.size → H1[q]? = H[q]?) (hw : wE B D cA M Rf Lg n H1) : PW B D cA (n + 1, M, Rf, Lg) H1 := by
  have hs : H.size = B + n := hP.1
  refine ⟨by show H1.size = B + (n + 1); omega, fun x hx => ?_⟩
  have hx' : x < n + 1 := hx
  by_cases e : x = n
  · subst e; exact hw
  · have hlt : x < n := by omega
    exact (hP.2 x hlt).kept (oq _ (by omega)) rfl rfl rfl
def st2 {α : Type} (M : Nat → Nat → α) (k j : Nat) (v : α) : Nat → Nat → α := fun x y => if x = k ∧ y = j then v else M x y
theorem st2_ne {α : Type} (M : Nat → Nat → α) {k : Nat} (j : Nat) (v : α) {x : Nat} (h : x ≠ k) : st2 M k j v x = M x := by
  funext y; simp [st2, h]
theorem st2_row {α : Type} (M : Nat → Nat → α) (k j : Nat) (v : α) (y : Nat) : st2 M k j v k y = if y = j then v else M k y := by
  simp [st2]
def nestW : List Cond := [.methodLinkNest RX3 11 yX2_init RX3, .methodLinkNest RX3 18 yX0_init RX3, .methodLinkNest RX3 28 yX1_init RX3, .methodLinkNest RX0 69 yX3_has RX3, .methodLinkNest RX1 42 yX3_tire RX3]
theorem nestW_in : ∀ w ∈ nestW, w ∈ lw_tbl := by decide +kernel
theorem nestW_warm {s U : State} (hW : s.WarmedH U.vm) : ∀ w ∈ nestW, va_Nw w s → va_Nw w U := by
  intro w hw h
  simp only [nestW, List.mem_cons, List.not_mem_nil, or_false] at hw
  rcases hw with rfl | rfl | rfl | rfl | rfl <;> exact va_Nw.warmM hW h
theorem nestW_same {s U : State} (e : s.vm = U.vm) : ∀ w ∈ nestW, va_Nw w s → va_Nw w U := by
  intro w hw h
  simp only [nestW, List.mem_cons, List.not_mem_nil, or_false] at hw
  rcases hw with rfl | rfl | rfl | rfl | rfl <;> exact va_Nw.same rfl e h
def AOA (U : State) : Prop := (Cond.arrayOver (.array .int)).before #[] U = true
theorem AOA.moved {u U : State} (hvm : u.vm.Alike U.vm) (h : AOA u) : AOA U := by
  unfold AOA Cond.before Cond.holds at h ⊢
  simp only [Cond.value, beq_iff_eq] at h ⊢
  cases hc : u.vm.findClass (FieldType.array .int).toString with
  | none => simp [hc] at h
  | some comp =>
    simp only [hc, Option.bind_some, Option.bind_eq_some_iff, Option.map_eq_some_iff] at h
    obtain ⟨c, hi, k, hk, hb⟩ := h
    obtain ⟨k', hk', he⟩ := hvm.2.2 _ _ hk
    have hbe : U.vm.bare = u.vm.bare := by first | exact hvm.bare_eq | exact hvm.bare_eq.symm
    have hi' := (va_idx_bare U.vm comp).symm.trans ((by rw [hbe] : (U.vm.bare.classes.findIdx? fun (x : Class) => match x.kind with | .array component _ => component == comp | _ => false) = (u.vm.bare.classes.findIdx? fun (x : Class) => match x.kind with | .array component _ => component == comp | _ => false)).trans ((va_idx_bare u.vm comp).trans hi))
    have f1 : U.vm.findClass (FieldType.array .int).toString = some comp := by rw [hvm.findClass]; exact hc
    have hkd : k'.kind = k.kind := by rw [he]
    simp only [f1, Option.bind_some, Option.bind_eq_some_iff, Option.map_eq_some_iff]
    refine ⟨c, hi', k', hk', ?_⟩
    rw [hkd, hvm.findClass]
    exact hb
/-- what the tables say of our classes and arrays -/
def KnAll (U : State) (D : va_G) (cA : Nat → ClassId) : Prop := (∀ t, t < 5 → u_Kn U (cnm t) (ctb t) (cln t) (D.1 t) (D.2 t)) ∧ (∀ t, 5 ≤ t → t < 10 → ArrOfT U (cA t) (aty t) ∧ va_RA U (cA t) (aty t)) ∧ (∀ w ∈ nestW, va_Nw w U) ∧ va_AO RX1 U ∧ AOA U
theorem KnAll.warm {u U : State} {D : va_G} {cA : Nat → ClassId} (hW : u.WarmedH U.vm) (h : KnAll u D cA) : KnAll U D cA := ⟨fun t ht => u_Kn_moved hW.alike (h.1 t ht), fun t h1 h2 => ⟨arrOfT_moved hW.alike (h.2.1 t h1 h2).1, (h.2.1 t h1 h2).2.moved hW.alike⟩, fun w hw => nestW_warm hW w hw (h.2.2.1 w hw), va_AO.moved hW.alike h.2.2.2.1, AOA.moved hW.alike h.2.2.2.2⟩
theorem KnAll.same {u U : State} {D : va_G} {cA : Nat → ClassId} (e : u.vm = U.vm) (h : KnAll u D cA) : KnAll U D cA := by
  have hv : u.vm.Alike U.vm := by rw [e]; exact Vm.Alike.refl _
  exact ⟨fun t ht => u_Kn_moved hv (h.1 t ht), fun t h1 h2 => ⟨arrOfT_moved hv (h.2.1 t h1 h2).1, (h.2.1 t h1 h2).2.moved hv⟩, fun w hw => nestW_same e w hw (h.2.2.1 w hw), va_AO.moved hv h.2.2.2.1, AOA.moved hv h.2.2.2.2⟩
def gtbl : List Cond := lw_tbl.filter goodWord
theorem gt_of {w : Cond} (h : w ∈ lw_tbl) (h2 : goodWord w = true) : w ∈ gtbl := List.mem_filter.mpr ⟨h, h2⟩
theorem gt_t {w : Cond} (i : Nat) (h : tables_1[i]? = some w) (h2 : goodWord w = true) : w ∈ gtbl := gt_of (List.mem_append_right _ (List.mem_of_getElem? h)) h2
theorem gt_s {w : Cond} (i : Nat) (h : (k2_sels lw_privs)[i]? = some w) (h2 : goodWord w = true) : w ∈ gtbl := gt_of (List.mem_append_left _ (List.mem_of_getElem? h)) h2
theorem gt_good {x : Cond} (hx : x ∈ gtbl) : GoodIn (x :: gtbl) (x :: gtbl) := by
  intro w hw
  have h1 : w ∈ gtbl := by
    rcases List.mem_cons.mp hw with rfl | h
    · exact hx
    · exact h
  exact ⟨hw, good_of_word (List.mem_filter.mp h1).2⟩
theorem gt_in {x : Cond} (hx : x ∈ gtbl) {w : Cond} (hw : w ∈ x :: gtbl) : w ∈ gtbl ∧ ((w.onTables && w.keeps) = true ∨ ∃ ty, w = .arrayClass ty) := by
  have h1 : w ∈ gtbl := by
    rcases List.mem_cons.mp hw with rfl | h
    · exact hx
    · exact h
  exact ⟨h1, good_of_word (List.mem_filter.mp h1).2⟩
theorem in_0 : ∀ w ∈ u_ws RX0 TX0 16, w ∈ gtbl := by decide +kernel
theorem in_1 : ∀ w ∈ u_ws RX1 TX1 6, w ∈ gtbl := by decide +kernel
theorem in_2 : ∀ w ∈ u_ws RX2 TX2 7, w ∈ gtbl := by decide +kernel
theorem in_3 : ∀ w ∈ u_ws RX3 TX3 17, w ∈ gtbl := by decide +kernel
theorem in_4 : ∀ w ∈ u_ws RX4 TX4 26, w ∈ gtbl := by decide +kernel
theorem in_all (t : Nat) (h : t < 5) : ∀ w ∈ u_ws (cnm t) (ctb t) (cln t), w ∈ gtbl := by
  match t, h with
  | 0, _ => exact in_0
  | 1, _ => exact in_1
  | 2, _ => exact in_2
  | 3, _ => exact in_3
  | 4, _ => exact in_4
theorem nm_all (t : Nat) (h : t < 5) : ∀ a, a < cln t → ∀ b, b < cln t → a ≠ b → (ctb t a).2.1 ≠ (ctb t b).2.1 := by
  match t, h with
  | 0, _ => exact nmX0
  | 1, _ => exact nmX1
  | 2, _ => exact nmX2
  | 3, _ => exact nmX3
  | 4, _ => exact nmX4
theorem ty_all (t : Nat) (h : t < 5) : ∀ k, k < cln t → parseFieldDescriptor (ctb t k).2.2.1 = some (cty t k) := by
  match t, h with
  | 0, _ => exact tyX0_ok
  | 1, _ => exact tyX1_ok
  | 2, _ => exact tyX2_ok
  | 3, _ => exact tyX3_ok
  | 4, _ => exact tyX4_ok
/-! the locals -/
def lget (ls : List (Option Value)) (i : Nat) : Option Value := match ls, i with
  | [], _ => none
  | x :: _, 0 => x
  | _ :: t, i + 1 => lget t i
theorem lget_eq (ls : List (Option Value)) (i : Nat) (v : Value) (h : lget ls i = some v) : ls[i]? = some (some v) := by
  induction ls generalizing i with
  | nil => simp [lget] at h
  | cons x t ih =>
    cases i with
    | zero => simp [lget] at h; simp [h]
    | succ i => simp only [lget] at h; simpa using ih i h
def lsH (B : Nat) (la : Array Slot) (ls : List (Option Value)) : Prop := la.size = ls.length ∧ lv_wf la ∧ ∀ (i : Nat) (v : Value), ls[i]? = some (some v) → la[i]? = some (Slot.val (rvB B v)) ∧ v.category = 1
theorem lsH.at {B : Nat} {la : Array Slot} {ls : List (Option Value)} (h : lsH B la ls) {i : Nat} {v : Value} (hi : lget ls i = some v) : la[i]? = some (.val (rvB B v)) := (h.2.2 i v (lget_eq ls i v hi)).1
def lvl (B : Nat) (ls : List (Option Value)) : List (Nat × Value) := (List.range ls.length).filterMap (fun i => (ls[i]?.join).map (fun v => (i, rvB B v)))
theorem lvl_mem {B : Nat} {ls : List (Option Value)} {q : Nat × Value} : q ∈ lvl B ls ↔ ∃ v, ls[q.1]? = some (some v) ∧ q.2 = rvB B v := by
  unfold lvl
  rw [List.mem_filterMap]
  constructor
  · rintro ⟨i, -, hi⟩
    cases e : ls[i]? with
    | none => rw [e] at hi; simp at hi
    | some o =>
      cases o with
      | none => rw [e] at hi; simp at hi
      | some v =>
        rw [e] at hi
        simp at hi
        subst hi
        exact ⟨v, e, rfl⟩
  · rintro ⟨v, h1, h2⟩
    refine ⟨q.1, List.mem_range.mpr (List.getElem?_eq_some_iff.mp h1).1, ?_⟩
    rw [h1]
    simp [← h2]
theorem lsH.has {B : Nat} {la : Array Slot} {ls : List (Option Value)} (h : lsH B la ls) : lv_has la ls.length (lvl B ls) := by
  refine ⟨h.1, h.2.1, fun q hq => ?_⟩
  obtain ⟨v, h1, h2⟩ := lvl_mem.mp hq
  rw [h2]
  exact (h.2.2 _ v h1).1
theorem lsH.of {B : Nat} {la la' : Array Slot} {ls : List (Option Value)} (h : lsH B la ls) {i : Nat} {v : Value} (hi : i < ls.length) (hv : v.category = 1) (h' : lv_has la' ls.length ((i, rvB B v) :: (lvl B ls).filter (fun q => !(q.1 == i) && !(q.1 + 1 == i && q.2.category == 2)))) : lsH B la' (ls.set i (some v)) := by
  refine ⟨by rw [List.length_set]; exact h'.1, h'.2.1, fun j w hj => ?_⟩
  by_cases e : j = i
  · subst e
    rw [List.getElem?_set_self hi] at hj
    cases hj
    exact ⟨h'.2.2 _ List.mem_cons_self, hv⟩
  · rw [List.getElem?_set_ne (Ne.symm e)] at hj
    obtain ⟨g1, g2⟩ := h.2.2 j w hj
    refine ⟨h'.2.2 (j, rvB B w) (List.mem_cons_of_mem _ (List.mem_filter.mpr ⟨lvl_mem.mpr ⟨w, hj, rfl⟩, ?_⟩)), g2⟩
    simp [e, rvB_cat, g2]
theorem lsH.entry (B : Nat) (As : List Value) (n : Nat) (hn : As.length ≤ n) (hc : ∀ v ∈ As, v.category = 1) : lsH B ((lg_sl (As.map (rvB B)) ++ List.replicate (n - (lg_sl (As.map (rvB B))).length) Slot.unset).toArray) (As.map some ++ List.replicate (n - As.length) none) := by
  have hc' : ∀ v ∈ As.map (rvB B), v.category = 1 := by
    intro v hv
    obtain ⟨w, hw, rfl⟩ := List.mem_map.mp hv
    rw [rvB_cat]; exact hc w hw
  have e : lg_sl (As.map (rvB B)) = (As.map (rvB B)).map Slot.val := by
    generalize As.map (rvB B) = L at hc'
    induction L with
    | nil => rfl
    | cons x t ih =>
      have hx := hc' x List.mem_cons_self
      have := ih (fun v hv => hc' v (List.mem_cons_of_mem _ hv))
      unfold lg_sl at this ⊢
      rw [List.flatMap_cons, this]
      simp [hx]
  have hlen : (lg_sl (As.map (rvB B))).length = As.length := by rw [e]; simp
  have h0 := lv_entry (As.map (rvB B)) (n := n) (by rw [hlen]; exact hn)
  refine ⟨?_, h0.2.1, fun i v hi => ?_⟩
  · rw [h0.1]; simp; omega
  · by_cases hl : i < As.length
    · rw [List.getElem?_append_left (by simpa using hl)] at hi
      rw [List.getElem?_map] at hi
      have hv : As[i]? = some v := by
        cases e2 : As[i]? with
        | none => rw [e2] at hi; cases hi
        | some w => rw [e2] at hi; cases hi; rfl
      refine ⟨?_, hc v (List.mem_of_getElem? hv)⟩
      have hv2 : As[i] = v := by
        have := List.getElem?_eq_getElem hl
        rw [hv] at this
        exact (Option.some.inj this).symm
      rw [e]
      simp [List.getElem?_append_left, hl, hv2]
    · exfalso
      rw [List.getElem?_append_right (by simpa using hl)] at hi
      have := List.mem_of_getElem? hi
      simp at this
