section M42
variable {Λ : PL} {d : Nat} {M : HM} {Rf : HR} {Lg : HL}

/-- a constructor whose end is said by a property -/
theorem e_callI {K : KT} {cc : ByteArray} {own : String} {nL d RC RS : Nat} {pc : Nat} {ls : List (Option Value)} {st : List Value} {h : HP} {x y : Nat} (o : Ok K cc own nL (d + 1) RC RS) {idx k a : Nat} {μ : MT} (hret : μ.2.2.2 = none) {As : List Value} {post : Option Value → HP → Prop} {mc ms : Nat} (lk : LI own idx μ) (cm : CM μ k) (hM : RetE K.1 d μ (.ref a :: As) h post mc ms) (hk : As.length = k) (hls : ls.length = nL) (hst : Nat.ble (st.map fun v => v.category).sum 8 = true) (hxy : x + mc ≤ RC ∧ y + ms ≤ RS) (hd : decode cc pc = .ok (.invokespecial idx, 3)) (k : ∀ v h', post v h' → G K (pc + 3) ls (v.toList ++ st) h' (x + mc) (y + ms)) : G K pc ls (As.reverse ++ .ref a :: st) h x y := by
  obtain ⟨⟨l, B, D, cA⟩, p, e, R, s, m, args, below, meth, c, Q⟩ := K
  obtain ⟨yn, code, nl, ret⟩ := μ
  cases hret
  intro H locs la hP hS hl
  obtain ⟨o1, o2, o3, o4, o5, o6, o7, o8, o9, o10, o11⟩ := o
  refine calls_onE (mc := mc) (ms := ms) (post := post) (rest := st.map (rvB B)) hS (va_runI (As := As.map (rvB B)) (b := B + a) (rest := st.map (rvB B)) ⟨o1, o2, o3, o4, o5⟩ hM ⟨cb_of o5 cm lk.2.1 o8 o9, lk.1, o5 _ lk.2.2⟩ ⟨blind, fun U hU hW => ⟨rfl, by rw [hU]; exact hP, o6.warm hW⟩⟩ rfl (by simpa using hk) (by show la.size = nL; rw [hl.1, hls]) (by simp [rvB]) (room_st hst) hd ⟨by rw [o10]; exact hxy.1, by rw [o11]; exact hxy.2⟩) (fun v h' H1 locs1 hpo g1 g2 => ?_)
  have := k v h' hpo H1 locs1 la g1 g2 hl
  rw [List.map_append] at this
  cases v <;> exact this
theorem g_newC {K : KT} {cc : ByteArray} {own : String} {nL d RC RS : Nat} {pc : Nat} {ls : List (Option Value)} {st : List Value} {n : Nat} {x y : Nat} (o : Ok K cc own nL d RC RS) {idx t N : Nat} (hN : cln t = N) (ht : t < 5) (lk : Cond.classLink own idx (cnm t) ∈ gtbl) (w1 : Cond.instantiable (cnm t) (cln t) ∈ gtbl) (w2 : Cond.initialized (cnm t) ∈ gtbl) (hs : shp n = (t, N)) (hM : M n = fun _ => 0) (hR : Rf n = fun _ => none) (hL : Lg n = fun _ => 0) (hxy : x + 1 ≤ RC ∧ y + N ≤ RS) (hd : decode cc pc = .ok (.new idx, 3)) (k : G K (pc + 3) ls (.ref n :: st) (n + 1, M, Rf, Lg) (x + 1) (y + N)) : G K pc ls st (n, M, Rf, Lg) x y := by
  subst hN
  exact g_new o ht lk w1 w2 hs hM hR hL hxy hd k
abbrev zM : HM := fun _ _ => 0
abbrev zL : HL := fun _ _ => 0
abbrev zR : HR := fun _ _ => none
theorem zR_0 (n : Nat) : ZR n zR := fun _ _ => rfl
theorem ZR.at {n : Nat} (h : ZR n Rf) : Rf n = fun _ => none := h n (Nat.le_refl n)
theorem ZR.mu {n k : Nat} (h : ZR n Rf) (hk : k < n) : ZR n (muR Rf k) := fun z hz => by
  funext j; unfold muR; rw [if_neg (by omega), h z hz]
/-- what the fields hold once they are laid, the past's and the images' objects left out -/
def P0 (Rf : HR) : Prop := Rf 0 0 = some 1 ∧ Rf 0 1 = some 4 ∧ Rf 0 2 = some 16 ∧ Rf 0 3 = some 28 ∧ Rf 0 4 = some 32 ∧ Rf 0 5 = some 36 ∧ Rf 0 8 = some 37 ∧ Rf 0 9 = some 38 ∧ Rf 0 10 = some 39 ∧ Rf 0 11 = some 40 ∧ Rf 0 13 = some 41 ∧ Rf 0 14 = some 42 ∧ Rf 0 15 = some 47 ∧ RNi Rf 28 ∧ RNi Rf 32 ∧ RCi Rf 4 ∧ RCi Rf 16 ∧ (∀ i, i < 4 → Rf 42 i = some (43 + i)) ∧ Rf 1 0 = some 2 ∧ Rf 1 6 = some 3
theorem P0.kept {R2 : HR} (h : P0 Rf) (e : ∀ z, z < 48 → z ≠ 36 → z ≠ 37 → R2 z = Rf z) : P0 R2 := by
  unfold P0 RNi RCi at h ⊢
  rw [e 0 (by decide) (by decide) (by decide), e 1 (by decide) (by decide) (by decide), e 4 (by decide) (by decide) (by decide), e 16 (by decide) (by decide) (by decide), e 28 (by decide) (by decide) (by decide), e 32 (by decide) (by decide) (by decide), e 42 (by decide) (by decide) (by decide)]
  exact h
theorem RX_of (h : P0 Rf) (h1 : ∀ i, i < 10 → Rf 36 i = some (48 + 4 * i) ∧ RNi Rf (48 + 4 * i)) (h2 : ∀ i, i < 2 → Rf 37 i = some (88 + 4 * i) ∧ RNi Rf (88 + 4 * i)) : RX Rf 4 := by
  obtain ⟨a0, a1, a2, a3, a4, a5, a8, a9, a10, a11, a13, a14, a15, b1, b2, c1, c2, e1, f1, f2⟩ := h
  refine ⟨a0, a1, a3, a4, a5, a8, a9, a10, a11, a13, a14, a15, ?_, c1, c2, fun i hi => (h1 i hi).1, fun i hi => (h2 i hi).1, e1, f1, f2⟩
  intro a ha
  have key : ∀ a ∈ nows, a = 28 ∨ a = 32 ∨ (a = 48 + 4 * ((a - 48) / 4) ∧ (a - 48) / 4 < 10) ∨ (a = 88 + 4 * ((a - 88) / 4) ∧ (a - 88) / 4 < 2) := by decide
  rcases key a ha with rfl | rfl | ⟨q, hq⟩ | ⟨q, hq⟩
  · exact b1
  · exact b2
  · rw [q]; exact (h1 _ hq).2
  · rw [q]; exact (h2 _ hq).2
/-- the object as it is made -/
def in3 (v : Option Value) (h : HP) : Prop := ∃ M' Rf', v = none ∧ h = (96, M', Rf', zL) ∧ XB M' Rf' 96 4 iniT (bgT iniT) 0 ∧ Rf' 0 2 = some 16 ∧ M' 0 = (fun _ => 0) ∧ M' 38 = (fun _ => 0) ∧ txM M' 0 (fun _ => 0) ∧ ZM 96 M' ∧ ZR 96 Rf'
theorem rdT_0 (tx : Nat → Nat) : rdT 0 tx (0 + 1) iniT 0 = .inr iniT := by
  show (if tkC 0 tx 0 = 258 then _ else _) = _
  rw [if_pos (by rfl)]
theorem in3_of {M1 : HM} (rx : RX Rf 4) (r2 : Rf 0 2 = some 16) (zr : ZR 96 Rf) (fr : frR 4 zM M1) (tx : txM M1 0 (fun _ => 0)) {r : Int32} (rp : rdP 4 (rdT 0 (fun _ => 0) (0 + 1) iniT 0) r M1) : in3 none (96, bgnM M1 28 4, Rf, zL) := by
  rw [rdT_0] at rp
  obtain ⟨-, c1, c2, ok, -⟩ := rp
  have ne : ∀ z, (z < 28 ∨ 31 < z) → bgnM M1 28 4 z = M1 z := fun z hz => by
    funext j; unfold bgnM bgnC; rw [if_neg (by omega), if_neg (by omega), if_neg (by omega)]
  have k0 : iniT 2 = 0 := rfl
  have low : ∀ z, z < 28 → bgnM M1 28 4 z = M1 z := fun z hz => ne z (Or.inl hz)
  refine ⟨_, _, rfl, rfl, ⟨rx, Or.inl rfl, Nat.le_refl _, ok, ?_, ?_, ⟨?_, ?_, ?_, fun i hi => by rw [k0] at hi; omega⟩, ⟨Nat.le_refl _, by decide, Nat.le_refl _, fun i hi => by rw [k0] at hi; omega⟩, by decide⟩, r2, ?_, ?_, ?_, fun z hz => ?_, zr⟩
  · unfold cyT at c1 ⊢
    rw [low 4 (by decide), low (4 + 1) (by decide), low (4 + 2) (by decide), low (4 + 3) (by decide), low (4 + 4) (by decide), low (4 + 5) (by decide), low (4 + 6) (by decide), low (4 + 7) (by decide), low (4 + 8) (by decide), low (4 + 9) (by decide), low (4 + 10) (by decide)]
    exact c1
  · unfold cyR at c2 ⊢
    rw [low (4 + 11) (by decide)]
    exact c2
  · unfold bgnM bgnC; rw [if_pos (by omega)]; rfl
  · unfold bgnM bgnC; rw [if_pos (by omega)]; rfl
  · unfold bgnM bgnC; rw [if_pos (by omega)]; rfl
  · rw [low 0 (by decide), fr 0 (by decide) (by decide) (by omega)]
  · rw [ne 38 (by omega), fr 38 (by decide) (by decide) (by omega)]
  · unfold txM at tx ⊢
    rw [low 1 (by decide), low 2 (by decide)]
    exact tx
  · rw [ne z (by omega), fr z (by omega) (by omega) (by omega)]

set_option maxHeartbeats 4000000 in
set_option maxRecDepth 20000 in
theorem cX3init : RetE Λ (d + 5) mX3_init [.ref 0] (1, zM, zR, zL) in3 95 764 := by
  refine RetE.of rfl rfl rfl (fun κ o f hin => ?_)
  have fin : ∀ Rf : HR, P0 Rf → ZR 96 Rf → (∀ i, i < 10 → Rf 36 i = some (48 + 4 * i) ∧ RNi Rf (48 + 4 * i)) → (∀ i, i < 2 → Rf 37 i = some (88 + 4 * i) ∧ RNi Rf (88 + 4 * i)) → G (Λ, κ) 177 [some (.ref 0), some (.int (nI 2))] [] (96, zM, Rf, zL) 95 764 := by
    intro Rf p zr h1 h2
    refine g_aload_n (pc := 177) o 0 dX3_init_177 rfl rfl ?_
    refine g_getR (pc := 178) o flRX3_12 rfl (by first | decide | (show (_ : Nat) < 96; decide)) p.1 dX3_init_178 ?_
    refine g_aload_n (pc := 181) o 0 dX3_init_181 rfl rfl ?_
    refine g_getR (pc := 182) o flRX3_19 rfl (by first | decide | (show (_ : Nat) < 96; decide)) p.2.1 dX3_init_182 ?_
    refine e_V1i (pc := 185) o lkRX3_65 cmX2_readInto (cX2readInto (Or.inl rfl) (Nat.le_refl _) p.2.2.2.2.2.2.2.2.2.2.2.2.2.2.2.1 p.2.2.2.2.2.2.2.2.2.2.2.2.2.2.2.2.2.2.1 p.2.2.2.2.2.2.2.2.2.2.2.2.2.2.2.2.2.2.2 (tl := 0) (tx := fun _ => 0) ⟨by decide, rfl, fun i hi => by omega⟩) rfl (by first | decide | (show (_ : Nat) < 96; decide)) rfl rfl (by omega) dX3_init_185 (fun r M1 hq => ?_)
    obtain ⟨q1, q2, q3⟩ := hq
    refine g_pop (pc := 188) o dX3_init_188 rfl ?_
    refine g_aload_n (pc := 189) o 0 dX3_init_189 rfl rfl ?_
    refine g_getR (pc := 190) o flRX3_29 rfl (by first | decide | (show (_ : Nat) < 96; decide)) p.2.2.2.1 dX3_init_190 ?_
    refine g_aload_n (pc := 193) o 0 dX3_init_193 rfl rfl ?_
    refine g_getR (pc := 194) o flRX3_19 rfl (by first | decide | (show (_ : Nat) < 96; decide)) p.2.1 dX3_init_194 ?_
    refine g_V1v (pc := 197) o lkRX3_69 cmX1_begin (cX1begin in28 p.2.2.2.2.2.2.2.2.2.2.2.2.2.1 (Or.inl rfl) (Nat.le_refl _) p.2.2.2.2.2.2.2.2.2.2.2.2.2.2.2.1.2.2.2.1) rfl (by first | decide | (show (_ : Nat) < 96; decide)) rfl rfl (by omega) dX3_init_197 ?_
    exact e_vret (pc := 200) o f dX3_init_200 (in3_of (RX_of p h1 h2) p.2.2.1 zr q1 q2 q3)
  have lp2 : ∀ (k c : Nat) (Rf : HR), c + k = 3 → c ≤ 2 → P0 Rf → ZR (88 + 4 * c) Rf → (∀ i, i < 10 → Rf 36 i = some (48 + 4 * i) ∧ RNi Rf (48 + 4 * i)) → (∀ i, i < c → Rf 37 i = some (88 + 4 * i) ∧ RNi Rf (88 + 4 * i)) → G (Λ, κ) 153 [some (.ref 0), some (.int (nI c))] [] (88 + 4 * c, zM, Rf, zL) (87 + 4 * c) (716 + 24 * c) := by
    intro k
    induction k with
    | zero => intro c Rf h1; omega
    | succ k ih =>
      intro c Rf h1 h2 p zr hp hr
      refine g_iload_n (pc := 153) o 1 dX3_init_153 rfl rfl ?_
      refine g_iconst (pc := 154) (v := 2) o dX3_init_154 (by decide) ?_
      refine g_icmp_ge (pc := 155) o 177 dX3_init_155 (by decide) (fun q155 => ?_) (fun q155 => ?_)
      · have ec : c = 2 := by have := (le_N (a := 2) (b := c) (by omega) (by omega) rfl rfl).mp q155; omega
        subst ec
        exact fin Rf p zr hp hr
      · have hc1 : c < 2 := by have := mt (le_N (a := 2) (b := c) (by omega) (by omega) rfl rfl).mpr q155; omega
        have hin2 : 88 + 4 * c ∈ nows := img_in c hc1
        obtain ⟨z0, z1, z2, z3, _⟩ := now_shp hin2
        refine g_aload_n (pc := 158) o 0 dX3_init_158 rfl rfl ?_
        refine g_getR (pc := 159) o flRX3_40 (by first | assumption | rfl) (by omega) p.2.2.2.2.2.2.1 dX3_init_159 ?_
        refine g_iload_n (pc := 162) o 1 dX3_init_162 rfl rfl ?_
        refine g_newC (pc := 163) o (t := 1) (N := 6) rfl (by decide) clRX3_26 ins_1 ini_1 z0 rfl (zr.at) rfl (by omega) dX3_init_163 ?_
        refine g_dup (pc := 166) o dX3_init_166 rfl ?_
        refine g_callIN (pc := 167) o rfl (As := []) lkRX3_28 cmX1_init (cX1init hin2 (fun _ _ => rfl)) rfl rfl rfl (by omega) dX3_init_167 ?_
        refine g_aast (pc := 170) o (c) rfl (by omega) rfl (by omega) (by first | assumption | rfl) (by omega) dX3_init_170 ?_
        refine g_incN (pc := 171) o (c) dX3_init_171 rfl rfl ?_
        refine g_goto (pc := 174) o 153 dX3_init_174 (by decide) ?_
        have e1 : ∀ z, z ≠ 37 → z ≠ 88 + 4 * c → st2 (nwR Rf (88 + 4 * c)) 37 c (some (88 + 4 * c)) z = Rf z := fun z g1 g2 => by rw [st2_ne _ _ _ g1, nwR_ne g2]
        have hr2 : ∀ i, i < c + 1 → st2 (nwR Rf (88 + 4 * c)) 37 c (some (88 + 4 * c)) 37 i = some (88 + 4 * i) ∧ RNi (st2 (nwR Rf (88 + 4 * c)) 37 c (some (88 + 4 * c))) (88 + 4 * i) := fun i hi => by
          by_cases e2 : i = c
          · subst e2
            refine ⟨by rw [st2_row, if_pos rfl], ?_⟩
            have h8 := nwR_is Rf (88 + 4 * i)
            unfold RNi at h8 ⊢
            rw [st2_ne _ _ _ (by omega)]
            exact h8
          · refine ⟨by rw [st2_row, if_neg e2, nwR_ne (by omega)]; exact (hr i (by omega)).1, ?_⟩
            unfold RNi
            rw [e1 (88 + 4 * i) (by omega) (by omega)]
            exact (hr i (by omega)).2
        have h9 := ih (c + 1) (st2 (nwR Rf (88 + 4 * c)) 37 c (some (88 + 4 * c))) (by omega) (by omega) (p.kept (fun z g1 g2 g3 => e1 z (by omega) (by omega))) (by rw [show 88 + 4 * (c + 1) = 88 + 4 * c + 4 by omega]; exact ZR.st (ZR.nw (zr.mono (by omega)) (by omega)) (by omega)) (fun i hi => ⟨by rw [e1 36 (by decide) (by omega)]; exact (hp i hi).1, by unfold RNi; rw [e1 (48 + 4 * i) (by omega) (by omega)]; exact (hp i hi).2⟩) hr2
        rw [show 88 + 4 * (c + 1) = 88 + 4 * c + 4 by omega, show 87 + 4 * (c + 1) = 87 + 4 * c + 1 + 3 by omega, show 716 + 24 * (c + 1) = 716 + 24 * c + 6 + 18 by omega] at h9
        exact h9
  have lp1 : ∀ (k c : Nat) (Rf : HR), c + k = 11 → c ≤ 10 → P0 Rf → ZR (48 + 4 * c) Rf → (∀ i, i < c → Rf 36 i = some (48 + 4 * i) ∧ RNi Rf (48 + 4 * i)) → G (Λ, κ) 126 [some (.ref 0), some (.int (nI c))] [] (48 + 4 * c, zM, Rf, zL) (47 + 4 * c) (476 + 24 * c) := by
    intro k
    induction k with
    | zero => intro c Rf h1; omega
    | succ k ih =>
      intro c Rf h1 h2 p zr hr
      refine g_iload_n (pc := 126) o 1 dX3_init_126 rfl rfl ?_
      refine g_bipush (pc := 127) (v := 10) o dX3_init_127 (by decide) ?_
      refine g_icmp_ge (pc := 129) o 151 dX3_init_129 (by decide) (fun q129 => ?_) (fun q129 => ?_)
      · have ec : c = 10 := by have := (le_N (a := 10) (b := c) (by omega) (by omega) rfl rfl).mp q129; omega
        subst ec
        refine g_iconst (pc := 151) (v := 0) o dX3_init_151 (by decide) ?_
        refine g_istore_n (pc := 152) o 1 dX3_init_152 rfl rfl ?_
        exact lp2 3 0 Rf (by omega) (by omega) p zr hr (fun i hi => by omega)
      · have hc1 : c < 10 := by have := mt (le_N (a := 10) (b := c) (by omega) (by omega) rfl rfl).mpr q129; omega
        have hin2 : 48 + 4 * c ∈ nows := past_in c hc1
        obtain ⟨z0, z1, z2, z3, _⟩ := now_shp hin2
        refine g_aload_n (pc := 132) o 0 dX3_init_132 rfl rfl ?_
        refine g_getR (pc := 133) o flRX3_36 (by first | assumption | rfl) (by omega) p.2.2.2.2.2.1 dX3_init_133 ?_
        refine g_iload_n (pc := 136) o 1 dX3_init_136 rfl rfl ?_
        refine g_newC (pc := 137) o (t := 1) (N := 6) rfl (by decide) clRX3_26 ins_1 ini_1 z0 rfl (zr.at) rfl (by omega) dX3_init_137 ?_
        refine g_dup (pc := 140) o dX3_init_140 rfl ?_
        refine g_callIN (pc := 141) o rfl (As := []) lkRX3_28 cmX1_init (cX1init hin2 (fun _ _ => rfl)) rfl rfl rfl (by omega) dX3_init_141 ?_
        refine g_aast (pc := 144) o (c) rfl (by omega) rfl (by omega) (by first | assumption | rfl) (by omega) dX3_init_144 ?_
        refine g_incN (pc := 145) o (c) dX3_init_145 rfl rfl ?_
        refine g_goto (pc := 148) o 126 dX3_init_148 (by decide) ?_
        have e1 : ∀ z, z ≠ 36 → z ≠ 48 + 4 * c → st2 (nwR Rf (48 + 4 * c)) 36 c (some (48 + 4 * c)) z = Rf z := fun z g1 g2 => by rw [st2_ne _ _ _ g1, nwR_ne g2]
        have hr2 : ∀ i, i < c + 1 → st2 (nwR Rf (48 + 4 * c)) 36 c (some (48 + 4 * c)) 36 i = some (48 + 4 * i) ∧ RNi (st2 (nwR Rf (48 + 4 * c)) 36 c (some (48 + 4 * c))) (48 + 4 * i) := fun i hi => by
          by_cases e2 : i = c
          · subst e2
            refine ⟨by rw [st2_row, if_pos rfl], ?_⟩
            have h8 := nwR_is Rf (48 + 4 * i)
            unfold RNi at h8 ⊢
            rw [st2_ne _ _ _ (by omega)]
            exact h8
          · refine ⟨by rw [st2_row, if_neg e2, nwR_ne (by omega)]; exact (hr i (by omega)).1, ?_⟩
            unfold RNi
            rw [e1 (48 + 4 * i) (by omega) (by omega)]
            exact (hr i (by omega)).2
        have h9 := ih (c + 1) (st2 (nwR Rf (48 + 4 * c)) 36 c (some (48 + 4 * c))) (by omega) (by omega) (p.kept (fun z g1 g2 g3 => e1 z (by omega) (by omega))) (by rw [show 48 + 4 * (c + 1) = 48 + 4 * c + 4 by omega]; exact ZR.st (ZR.nw (zr.mono (by omega)) (by omega)) (by omega)) hr2
        rw [show 48 + 4 * (c + 1) = 48 + 4 * c + 4 by omega, show 47 + 4 * (c + 1) = 47 + 4 * c + 1 + 3 by omega, show 476 + 24 * (c + 1) = 476 + 24 * c + 6 + 18 by omega] at h9
        exact h9
  refine g_aload_n (pc := 0) o 0 dX3_init_0 rfl rfl ?_
  refine g_objInit (pc := 1) o lkRX3_3 rfl rfl dX3_init_1 ?_ in_obj co_obj
  refine g_aload_n (pc := 4) o 0 dX3_init_4 rfl rfl ?_
  refine g_newC (pc := 5) o (t := 2) (N := 7) rfl (by decide) clRX3_9 ins_2 ini_2 rfl rfl (ZR.at (by repeat (first | exact zR_0 _ | refine ZR.st ?_ (by omega) | refine ZR.nw ?_ (by omega) | refine ZR.rd ?_ (by omega) | refine ZR.ct ?_ (by omega) | refine ZR.mu ?_ (by omega)))) rfl (by omega) dX3_init_5 ?_
  refine g_dup (pc := 8) o dX3_init_8 rfl ?_
  refine g_callIN (pc := 9) o rfl (As := []) lkRX3_11 cmX2_init (cX2init (fun _ _ => rfl)) rfl rfl rfl (by omega) dX3_init_9 ?_
  refine g_putRF (pc := 12) o hin flRX3_12 rfl rfl rfl (by decide) dX3_init_12 ?_
  refine g_aload_n (pc := 15) o 0 dX3_init_15 rfl rfl ?_
  refine g_newC (pc := 16) o (t := 0) (N := 16) rfl (by decide) clRX3_16 ins_0 ini_0 rfl rfl (ZR.at (by repeat (first | exact zR_0 _ | refine ZR.st ?_ (by omega) | refine ZR.nw ?_ (by omega) | refine ZR.rd ?_ (by omega) | refine ZR.ct ?_ (by omega) | refine ZR.mu ?_ (by omega)))) rfl (by omega) dX3_init_16 ?_
  refine g_dup (pc := 19) o dX3_init_19 rfl ?_
  refine g_callIN (pc := 20) o rfl (As := []) lkRX3_18 cmX0_init (cX0init (Or.inl rfl) (fun _ _ => rfl)) rfl rfl rfl (by omega) dX3_init_20 ?_
  refine g_putR (pc := 23) o flRX3_19 rfl rfl (by decide) dX3_init_23 ?_
  refine g_aload_n (pc := 26) o 0 dX3_init_26 rfl rfl ?_
  refine g_newC (pc := 27) o (t := 0) (N := 16) rfl (by decide) clRX3_16 ins_0 ini_0 rfl rfl (ZR.at (by repeat (first | exact zR_0 _ | refine ZR.st ?_ (by omega) | refine ZR.nw ?_ (by omega) | refine ZR.rd ?_ (by omega) | refine ZR.ct ?_ (by omega) | refine ZR.mu ?_ (by omega)))) rfl (by omega) dX3_init_27 ?_
  refine g_dup (pc := 30) o dX3_init_30 rfl ?_
  refine g_callIN (pc := 31) o rfl (As := []) lkRX3_18 cmX0_init (cX0init (Or.inr rfl) (fun _ _ => rfl)) rfl rfl rfl (by omega) dX3_init_31 ?_
  refine g_putR (pc := 34) o flRX3_23 rfl rfl (by decide) dX3_init_34 ?_
  refine g_aload_n (pc := 37) o 0 dX3_init_37 rfl rfl ?_
  refine g_newC (pc := 38) o (t := 1) (N := 6) rfl (by decide) clRX3_26 ins_1 ini_1 rfl rfl (ZR.at (by repeat (first | exact zR_0 _ | refine ZR.st ?_ (by omega) | refine ZR.nw ?_ (by omega) | refine ZR.rd ?_ (by omega) | refine ZR.ct ?_ (by omega) | refine ZR.mu ?_ (by omega)))) rfl (by omega) dX3_init_38 ?_
  refine g_dup (pc := 41) o dX3_init_41 rfl ?_
  refine g_callIN (pc := 42) o rfl (As := []) lkRX3_28 cmX1_init (cX1init in28 (fun _ _ => rfl)) rfl rfl rfl (by omega) dX3_init_42 ?_
  refine g_putRF (pc := 45) o hin flRX3_29 rfl rfl rfl (by decide) dX3_init_45 ?_
  refine g_aload_n (pc := 48) o 0 dX3_init_48 rfl rfl ?_
  refine g_newC (pc := 49) o (t := 1) (N := 6) rfl (by decide) clRX3_26 ins_1 ini_1 rfl rfl (ZR.at (by repeat (first | exact zR_0 _ | refine ZR.st ?_ (by omega) | refine ZR.nw ?_ (by omega) | refine ZR.rd ?_ (by omega) | refine ZR.ct ?_ (by omega) | refine ZR.mu ?_ (by omega)))) rfl (by omega) dX3_init_49 ?_
  refine g_dup (pc := 52) o dX3_init_52 rfl ?_
  refine g_callIN (pc := 53) o rfl (As := []) lkRX3_28 cmX1_init (cX1init in32 (fun _ _ => rfl)) rfl rfl rfl (by omega) dX3_init_53 ?_
  refine g_putRF (pc := 56) o hin flRX3_33 rfl rfl rfl (by decide) dX3_init_56 ?_
  refine g_aload_n (pc := 59) o 0 dX3_init_59 rfl rfl ?_
  refine g_bipush (pc := 60) (v := 10) o dX3_init_60 (by decide) ?_
  refine g_anew (pc := 62) o clRX3_26 rfl rfl (ZR.at (by repeat (first | exact zR_0 _ | refine ZR.st ?_ (by omega) | refine ZR.nw ?_ (by omega) | refine ZR.rd ?_ (by omega) | refine ZR.ct ?_ (by omega) | refine ZR.mu ?_ (by omega)))) (by omega) dX3_init_62 ?_
  refine g_putRF (pc := 65) o hin flRX3_36 rfl rfl rfl (by decide) dX3_init_65 ?_
  refine g_aload_n (pc := 68) o 0 dX3_init_68 rfl rfl ?_
  refine g_iconst (pc := 69) (v := 2) o dX3_init_69 (by decide) ?_
  refine g_anew (pc := 70) o clRX3_26 rfl rfl (ZR.at (by repeat (first | exact zR_0 _ | refine ZR.st ?_ (by omega) | refine ZR.nw ?_ (by omega) | refine ZR.rd ?_ (by omega) | refine ZR.ct ?_ (by omega) | refine ZR.mu ?_ (by omega)))) (by omega) dX3_init_70 ?_
  refine g_putRF (pc := 73) o hin flRX3_40 rfl rfl rfl (by decide) dX3_init_73 ?_
  refine g_aload_n (pc := 76) o 0 dX3_init_76 rfl rfl ?_
  refine g_iconst (pc := 77) (v := 2) o dX3_init_77 (by decide) ?_
  refine g_newa (pc := 78) o (t := 7) rfl (by decide) (by decide) arc_7 rfl rfl rfl (by first | decide | omega) dX3_init_78 ?_
  refine g_putRF (pc := 80) o hin flRX3_43 rfl rfl rfl (by decide) dX3_init_80 ?_
  refine g_aload_n (pc := 83) o 0 dX3_init_83 rfl rfl ?_
  refine g_bipush (pc := 84) (v := 6) o dX3_init_84 (by decide) ?_
  refine g_newa (pc := 86) o (t := 6) rfl (by decide) (by decide) arc_6 rfl rfl rfl (by first | decide | omega) dX3_init_86 ?_
  refine g_putRF (pc := 88) o hin flRX3_47 rfl rfl rfl (by decide) dX3_init_88 ?_
  refine g_aload_n (pc := 91) o 0 dX3_init_91 rfl rfl ?_
  refine g_bipush (pc := 92) (v := 6) o dX3_init_92 (by decide) ?_
  refine g_newa (pc := 94) o (t := 6) rfl (by decide) (by decide) arc_6 rfl rfl rfl (by first | decide | omega) dX3_init_94 ?_
  refine g_putRF (pc := 96) o hin flRX3_51 rfl rfl rfl (by decide) dX3_init_96 ?_
  refine g_aload_n (pc := 99) o 0 dX3_init_99 rfl rfl ?_
  refine g_iconst (pc := 100) (v := 3) o dX3_init_100 (by decide) ?_
  refine g_newa (pc := 101) o (t := 6) rfl (by decide) (by decide) arc_6 rfl rfl rfl (by first | decide | omega) dX3_init_101 ?_
  refine g_putRF (pc := 103) o hin flRX3_54 rfl rfl rfl (by decide) dX3_init_103 ?_
  refine g_aload_n (pc := 106) o 0 dX3_init_106 rfl rfl ?_
  refine g_iconst (pc := 107) (v := 4) o dX3_init_107 (by decide) ?_
  refine g_bipush (pc := 108) (v := 6) o dX3_init_108 (by decide) ?_
  refine g_multi (pc := 110) o clRX3_57 arc_6 rfl (by decide) (ZR.at (by repeat (first | exact zR_0 _ | refine ZR.st ?_ (by omega) | refine ZR.nw ?_ (by omega) | refine ZR.rd ?_ (by omega) | refine ZR.ct ?_ (by omega) | refine ZR.mu ?_ (by omega)))) (fun _ _ => rfl) (by omega) dX3_init_110 ?_
  refine g_putRF (pc := 114) o hin flRX3_59 rfl rfl rfl (by decide) dX3_init_114 ?_
  refine g_aload_n (pc := 117) o 0 dX3_init_117 rfl rfl ?_
  refine g_iconst (pc := 118) (v := 4) o dX3_init_118 (by decide) ?_
  refine g_newa (pc := 119) o (t := 6) rfl (by decide) (by decide) arc_6 rfl rfl rfl (by first | decide | omega) dX3_init_119 ?_
  refine g_putRF (pc := 121) o hin flRX3_62 rfl rfl rfl (by decide) dX3_init_121 ?_
  refine g_iconst (pc := 124) (v := 0) o dX3_init_124 (by decide) ?_
  refine g_istore_n (pc := 125) o 1 dX3_init_125 rfl rfl ?_
  refine lp1 11 0 _ (by omega) (by omega) ?_ ?_ (fun i hi => by omega)
  · refine ⟨rfl, rfl, rfl, rfl, rfl, rfl, rfl, rfl, rfl, rfl, rfl, rfl, rfl, ⟨rfl, rfl, rfl⟩, ⟨rfl, rfl, rfl⟩, ⟨rfl, rfl, rfl, rfl, rfl, rfl, rfl, rfl, rfl, rfl, rfl⟩, ⟨rfl, rfl, rfl, rfl, rfl, rfl, rfl, rfl, rfl, rfl, rfl⟩, fun i hi => ?_, rfl, rfl⟩
    match i, hi with
    | 0, _ => rfl
    | 1, _ => rfl
    | 2, _ => rfl
    | 3, _ => rfl
  · repeat (first | exact zR_0 _ | refine ZR.st ?_ (by omega) | refine ZR.nw ?_ (by omega) | refine ZR.rd ?_ (by omega) | refine ZR.ct ?_ (by omega) | refine ZR.mu ?_ (by omega))

end M42
