section M14
variable {Λ : PL} {d n : Nat} {M : HM} {Rf : HR} {Lg : HL}

theorem liv_congr {T T' : Nat → Nat} (h2 : T' 2 = T 2) (h : ∀ i, i < T 2 → T' (14 + i) = T (14 + i)) (d : Nat) : liv T' d = liv T d := by
  unfold liv; rw [h2]; exact mk_congr (fun i hi => by rw [h i hi])
/-- a city that is changed where M' and T' agree, and nowhere else -/
theorem cy_of {M M' : HM} {c : Nat} {T T' : Nat → Nat} (h : cyT M c T) (e2 : T' 2 = T 2) (e3 : T' 3 = T 3) (a0 : M' c 0 = nI (T' 0)) (a1 : M' c 1 = nI (T' 1)) (a5 : M' c 5 = M c 5) (a10 : M' c 10 = M c 10)
    (ab : ∀ d, d < 4 → M' (c + 1) d = nI (T' (10 + d))) (aj : ∀ d, d < 4 → M' (c + 2) d = nI (T' (6 + d))) (hr : ∀ z, c + 3 ≤ z → z < c + 11 → M' z = M z) (ht : ∀ k, 14 ≤ k → T' k = T k) : cyT M' c T' := by
  obtain ⟨m0, m1, m5, m10, mb, mj, mc, mn, ml⟩ := h
  refine ⟨a0, a1, by rw [a5, e2]; exact m5, by rw [a10, e3]; exact m10, ab, aj, fun i hi => ?_, fun i hi => ?_, fun d hd => ?_⟩
  · rw [e2] at hi
    rw [hr _ (by omega) (by omega), hr _ (by omega) (by omega), hr _ (by omega) (by omega), hr _ (by omega) (by omega), ht _ (by omega), ht _ (by omega), ht _ (by omega), ht _ (by omega)]
    exact mc i hi
  · rw [e3] at hi
    rw [hr _ (by omega) (by omega), hr _ (by omega) (by omega), hr _ (by omega) (by omega), ht _ (by omega), ht _ (by omega), ht _ (by omega)]
    exact mn i hi
  · rw [hr _ (by omega) (by omega), liv_congr e2 (fun i _ => ht _ (by omega))]
    exact ml d hd
theorem upN_s (g : Nat → Nat) (k v : Nat) : upN g k v k = v := by simp [upN]
theorem upN_n (g : Nat → Nat) {k : Nat} (v : Nat) {j : Nat} (h : j ≠ k) : upN g k v j = g j := by simp [upN, h]
theorem cy_4 {M : HM} {c : Nat} {T : Nat → Nat} (h : cyT M c T) (v : Nat) : cyT M c (upN T 4 v) := by
  have h0 := h
  obtain ⟨m0, m1, m5, m10, mb, mj, -, -, -⟩ := h0
  exact cy_of h (upN_n _ _ (by decide)) (upN_n _ _ (by decide)) (by rw [upN_n _ _ (by decide)]; exact m0) (by rw [upN_n _ _ (by decide)]; exact m1) rfl rfl (fun d hd => by rw [upN_n _ _ (by omega)]; exact mb d hd) (fun d hd => by rw [upN_n _ _ (by omega)]; exact mj d hd) (fun _ _ _ => rfl) (fun k hk => upN_n _ _ (by omega))
theorem cy_b {M : HM} {c : Nat} {T : Nat → Nat} (h : cyT M c T) {n0 n1 : Nat} (h0 : n0 < 4) : cyT (st2 M (c + 1) n0 (nI n1)) c (upN T (10 + n0) n1) := by
  have h9 := h
  obtain ⟨m0, m1, m5, m10, mb, mj, -, -, -⟩ := h9
  refine cy_of h (upN_n _ _ (by omega)) (upN_n _ _ (by omega)) ?_ ?_ ?_ ?_ (fun d hd => ?_) (fun d hd => ?_) (fun z g1 g2 => st2_ne _ _ _ (by omega)) (fun k hk => upN_n _ _ (by omega))
  · rw [st2_ne2 _ _ (by omega), upN_n _ _ (by omega)]; exact m0
  · rw [st2_ne2 _ _ (by omega), upN_n _ _ (by omega)]; exact m1
  · exact st2_ne2 _ _ (by omega)
  · exact st2_ne2 _ _ (by omega)
  · rw [st2_row]
    by_cases e : d = n0
    · subst e; rw [if_pos rfl, upN_s]
    · rw [if_neg e, upN_n _ _ (by omega)]; exact mb d hd
  · rw [st2_ne2 _ _ (by omega), upN_n _ _ (by omega)]; exact mj d hd
theorem cy_d {M : HM} {c : Nat} {T : Nat → Nat} (h : cyT M c T) (n0 : Nat) : cyT (st2 M c 0 (nI n0)) c (upN T 0 n0) := by
  have h9 := h
  obtain ⟨m0, m1, m5, m10, mb, mj, -, -, -⟩ := h9
  refine cy_of h (upN_n _ _ (by omega)) (upN_n _ _ (by omega)) ?_ ?_ ?_ ?_ (fun d hd => ?_) (fun d hd => ?_) (fun z g1 g2 => st2_ne _ _ _ (by omega)) (fun k hk => upN_n _ _ (by omega))
  · rw [st2_same, upN_s]
  · rw [st2_ne2 _ _ (by omega), upN_n _ _ (by omega)]; exact m1
  · exact st2_ne2 _ _ (by omega)
  · exact st2_ne2 _ _ (by omega)
  · rw [st2_ne2 _ _ (by omega), upN_n _ _ (by omega)]; exact mb d hd
  · rw [st2_ne2 _ _ (by omega), upN_n _ _ (by omega)]; exact mj d hd
theorem cy_q {M : HM} {c : Nat} {T : Nat → Nat} (h : cyT M c T) (n0 : Nat) : cyT (st2 (st2 M c 1 (nI n0)) c 2 1) c (upN (upN T 1 n0) 5 1) := by
  have h9 := h
  obtain ⟨m0, m1, m5, m10, mb, mj, -, -, -⟩ := h9
  refine cy_of h ?_ ?_ ?_ ?_ ?_ ?_ (fun d hd => ?_) (fun d hd => ?_) (fun z g1 g2 => ?_) (fun k hk => ?_)
  · rw [upN_n _ _ (by omega), upN_n _ _ (by omega)]
  · rw [upN_n _ _ (by omega), upN_n _ _ (by omega)]
  · rw [st2_ne2 _ _ (by omega), st2_ne2 _ _ (by omega), upN_n _ _ (by omega), upN_n _ _ (by omega)]; exact m0
  · rw [st2_ne2 _ _ (by omega), st2_same, upN_n _ _ (by omega), upN_s]
  · rw [st2_ne2 _ _ (by omega), st2_ne2 _ _ (by omega)]
  · rw [st2_ne2 _ _ (by omega), st2_ne2 _ _ (by omega)]
  · rw [st2_ne2 _ _ (by omega), st2_ne2 _ _ (by omega), upN_n _ _ (by omega), upN_n _ _ (by omega)]; exact mb d hd
  · rw [st2_ne2 _ _ (by omega), st2_ne2 _ _ (by omega), upN_n _ _ (by omega), upN_n _ _ (by omega)]; exact mj d hd
  · rw [st2_ne _ _ _ (by omega), st2_ne _ _ _ (by omega)]
  · rw [upN_n _ _ (by omega), upN_n _ _ (by omega)]
theorem cy_e {M : HM} {c : Nat} {T : Nat → Nat} (h : cyT M c T) {a v : Nat} (ha : a < 4) : cyT (st2 M (c + 2) a (nI v)) c (upN T (6 + a) v) := by
  have h9 := h
  obtain ⟨m0, m1, m5, m10, mb, mj, -, -, -⟩ := h9
  refine cy_of h (upN_n _ _ (by omega)) (upN_n _ _ (by omega)) ?_ ?_ ?_ ?_ (fun d hd => ?_) (fun d hd => ?_) (fun z g1 g2 => st2_ne _ _ _ (by omega)) (fun k hk => upN_n _ _ (by omega))
  · rw [st2_ne2 _ _ (by omega), upN_n _ _ (by omega)]; exact m0
  · rw [st2_ne2 _ _ (by omega), upN_n _ _ (by omega)]; exact m1
  · exact st2_ne2 _ _ (by omega)
  · exact st2_ne2 _ _ (by omega)
  · rw [st2_ne2 _ _ (by omega), upN_n _ _ (by omega)]; exact mb d hd
  · rw [st2_row]
    by_cases e : d = a
    · subst e; rw [if_pos rfl, upN_s]
    · rw [if_neg e, upN_n _ _ (by omega)]; exact mj d hd
def ciT (T : Nat → Nat) (n0 n1 n2 n3 : Nat) : Nat → Nat := upN (upN (upN (upN (upN T (14 + T 2) n0) (20 + T 2) n1) (26 + T 2) n2) (32 + T 2) n3) 2 (T 2 + 1)
def noT (T : Nat → Nat) (n0 n1 n2 : Nat) : Nat → Nat := upN (upN (upN (upN T (38 + T 3) n0) (44 + T 3) n1) (50 + T 3) n2) 3 (T 3 + 1)
theorem cy_c {M : HM} {c : Nat} {T : Nat → Nat} (h : cyT M c T) (t2 : T 2 < 6) {n0 n1 n2 n3 : Nat} (h0 : n0 < 4) : cyT (tciM M c (T 2) n0 n1 n2 n3 (liv T n0)) c (ciT T n0 n1 n2 n3) := by
  obtain ⟨m0, m1, m5, m10, mb, mj, mc, mn, ml⟩ := h
  have e2 : ciT T n0 n1 n2 n3 2 = T 2 + 1 := upN_s _ _ _
  have e3 : ciT T n0 n1 n2 n3 3 = T 3 := by simp only [ciT, upN]; grind
  refine ⟨?_, ?_, ?_, ?_, fun d hd => ?_, fun d hd => ?_, fun i hi => ?_, fun i hi => ?_, fun d hd => ?_⟩
  · rw [show ciT T n0 n1 n2 n3 0 = T 0 from by simp only [ciT, upN]; grind, ← m0]; simp only [tciM, st2]; grind
  · rw [show ciT T n0 n1 n2 n3 1 = T 1 from by simp only [ciT, upN]; grind, ← m1]; simp only [tciM, st2]; grind
  · rw [e2]; exact st2_same _ _ _ _
  · rw [e3, ← m10]; simp only [tciM, st2]; grind
  · rw [show ciT T n0 n1 n2 n3 (10 + d) = T (10 + d) from by simp only [ciT, upN]; grind, ← mb d hd]; simp only [tciM, st2]; grind
  · rw [show ciT T n0 n1 n2 n3 (6 + d) = T (6 + d) from by simp only [ciT, upN]; grind, ← mj d hd]; simp only [tciM, st2]; grind
  · rw [e2] at hi
    by_cases e : i = T 2
    · subst e
      refine ⟨?_, ?_, ?_, ?_⟩
      · rw [show ciT T n0 n1 n2 n3 (14 + T 2) = n0 from by simp only [ciT, upN]; grind]; simp only [tciM, st2]; grind
      · rw [show ciT T n0 n1 n2 n3 (20 + T 2) = n1 from by simp only [ciT, upN]; grind]; simp only [tciM, st2]; grind
      · rw [show ciT T n0 n1 n2 n3 (26 + T 2) = n2 from by simp only [ciT, upN]; grind]; simp only [tciM, st2]; grind
      · rw [show ciT T n0 n1 n2 n3 (32 + T 2) = n3 from by simp only [ciT, upN]; grind]; simp only [tciM, st2]; grind
    · have g := mc i (by omega)
      refine ⟨?_, ?_, ?_, ?_⟩
      · rw [show ciT T n0 n1 n2 n3 (14 + i) = T (14 + i) from by simp only [ciT, upN]; grind, ← g.1]; simp only [tciM, st2]; grind
      · rw [show ciT T n0 n1 n2 n3 (20 + i) = T (20 + i) from by simp only [ciT, upN]; grind, ← g.2.1]; simp only [tciM, st2]; grind
      · rw [show ciT T n0 n1 n2 n3 (26 + i) = T (26 + i) from by simp only [ciT, upN]; grind, ← g.2.2.1]; simp only [tciM, st2]; grind
      · rw [show ciT T n0 n1 n2 n3 (32 + i) = T (32 + i) from by simp only [ciT, upN]; grind, ← g.2.2.2]; simp only [tciM, st2]; grind
  · rw [e3] at hi
    have g := mn i hi
    by_cases i6 : i < 6
    · refine ⟨?_, ?_, ?_⟩
      · rw [show ciT T n0 n1 n2 n3 (38 + i) = T (38 + i) from by simp only [ciT, upN]; grind, ← g.1]; simp only [tciM, st2]; grind
      · rw [show ciT T n0 n1 n2 n3 (44 + i) = T (44 + i) from by simp only [ciT, upN]; grind, ← g.2.1]; simp only [tciM, st2]; grind
      · rw [show ciT T n0 n1 n2 n3 (50 + i) = T (50 + i) from by simp only [ciT, upN]; grind, ← g.2.2]; simp only [tciM, st2]; grind
    · refine ⟨?_, ?_, ?_⟩
      · rw [show ciT T n0 n1 n2 n3 (38 + i) = T (38 + i) from by simp only [ciT, upN]; grind, ← g.1]; simp only [tciM, st2]; grind
      · rw [show ciT T n0 n1 n2 n3 (44 + i) = T (44 + i) from by simp only [ciT, upN]; grind, ← g.2.1]; simp only [tciM, st2]; grind
      · rw [show ciT T n0 n1 n2 n3 (50 + i) = T (50 + i) from by simp only [ciT, upN]; grind, ← g.2.2]; simp only [tciM, st2]; grind
  · have eL : liv (ciT T n0 n1 n2 n3) d = liv T d ||| (if n0 = d then 2 ^ T 2 else 0) := by
      unfold liv
      rw [e2]
      show mk _ (T 2) ||| (if (ciT T n0 n1 n2 n3 (14 + T 2) == d) = true then 2 ^ T 2 else 0) = _
      rw [show ciT T n0 n1 n2 n3 (14 + T 2) = n0 from by simp only [ciT, upN]; grind]
      congr 1
      · exact mk_congr (fun i hi => by rw [show ciT T n0 n1 n2 n3 (14 + i) = T (14 + i) from by simp only [ciT, upN]; grind])
      · simp
    rw [eL]
    by_cases e : n0 = d
    · subst e
      rw [if_pos rfl]
      simp only [tciM, st2]; grind
    · rw [if_neg e, Nat.or_zero, ← ml d hd]
      simp only [tciM, st2]; grind
theorem cy_n {M : HM} {c : Nat} {T : Nat → Nat} (h : cyT M c T) (t2 : T 2 ≤ 6) (t3 : T 3 < 6) {n0 n1 n2 : Nat} : cyT (tnoM M c (T 3) n0 n1 n2) c (noT T n0 n1 n2) := by
  obtain ⟨m0, m1, m5, m10, mb, mj, mc, mn, ml⟩ := h
  have e3 : noT T n0 n1 n2 3 = T 3 + 1 := upN_s _ _ _
  have e2 : noT T n0 n1 n2 2 = T 2 := by simp only [noT, upN]; grind
  refine ⟨?_, ?_, ?_, ?_, fun d hd => ?_, fun d hd => ?_, fun i hi => ?_, fun i hi => ?_, fun d hd => ?_⟩
  · rw [show noT T n0 n1 n2 0 = T 0 from by simp only [noT, upN]; grind, ← m0]; simp only [tnoM, st2]; grind
  · rw [show noT T n0 n1 n2 1 = T 1 from by simp only [noT, upN]; grind, ← m1]; simp only [tnoM, st2]; grind
  · rw [e2, ← m5]; simp only [tnoM, st2]; grind
  · rw [e3]; exact st2_same _ _ _ _
  · rw [show noT T n0 n1 n2 (10 + d) = T (10 + d) from by simp only [noT, upN]; grind, ← mb d hd]; simp only [tnoM, st2]; grind
  · rw [show noT T n0 n1 n2 (6 + d) = T (6 + d) from by simp only [noT, upN]; grind, ← mj d hd]; simp only [tnoM, st2]; grind
  · rw [e2] at hi
    have g := mc i hi
    refine ⟨?_, ?_, ?_, ?_⟩
    · rw [show noT T n0 n1 n2 (14 + i) = T (14 + i) from by simp only [noT, upN]; grind, ← g.1]; simp only [tnoM, st2]; grind
    · rw [show noT T n0 n1 n2 (20 + i) = T (20 + i) from by simp only [noT, upN]; grind, ← g.2.1]; simp only [tnoM, st2]; grind
    · rw [show noT T n0 n1 n2 (26 + i) = T (26 + i) from by simp only [noT, upN]; grind, ← g.2.2.1]; simp only [tnoM, st2]; grind
    · rw [show noT T n0 n1 n2 (32 + i) = T (32 + i) from by simp only [noT, upN]; grind, ← g.2.2.2]; simp only [tnoM, st2]; grind
  · rw [e3] at hi
    by_cases e : i = T 3
    · subst e
      refine ⟨?_, ?_, ?_⟩
      · rw [show noT T n0 n1 n2 (38 + T 3) = n0 from by simp only [noT, upN]; grind]; simp only [tnoM, st2]; grind
      · rw [show noT T n0 n1 n2 (44 + T 3) = n1 from by simp only [noT, upN]; grind]; simp only [tnoM, st2]; grind
      · rw [show noT T n0 n1 n2 (50 + T 3) = n2 from by simp only [noT, upN]; grind]; simp only [tnoM, st2]; grind
    · have g := mn i (by omega)
      refine ⟨?_, ?_, ?_⟩
      · rw [show noT T n0 n1 n2 (38 + i) = T (38 + i) from by simp only [noT, upN]; grind, ← g.1]; simp only [tnoM, st2]; grind
      · rw [show noT T n0 n1 n2 (44 + i) = T (44 + i) from by simp only [noT, upN]; grind, ← g.2.1]; simp only [tnoM, st2]; grind
      · rw [show noT T n0 n1 n2 (50 + i) = T (50 + i) from by simp only [noT, upN]; grind, ← g.2.2]; simp only [tnoM, st2]; grind
  · rw [liv_congr e2 (fun i hi => by simp only [noT, upN]; grind), ← ml d hd]; simp only [tnoM, st2]; grind
/-- an item told -/
def telB (T : Nat → Nat) (L n0 n1 n2 n3 : Nat) : Nat → Nat := if L = 98 then upN T (10 + n0) n1 else if L = 99 then ciT T n0 n1 n2 n3 else if L = 100 then upN T 0 n0 else if L = 101 then upN (upN T (6 + n0) (T (6 + n0) ||| 2 ^ n1)) (6 + n1) (upN T (6 + n0) (T (6 + n0) ||| 2 ^ n1) (6 + n1) ||| 2 ^ n0) else if L = 110 then noT T n0 n1 n2 else upN (upN T 1 n0) 5 1
def tel (T : Nat → Nat) (L n0 n1 n2 n3 : Nat) : Nat → Nat := upN (telB T L n0 n1 n2 n3) 4 (T 4 + 1)
def frY (c : Nat) (M M' : HM) : Prop := ∀ z, z < c ∨ c + 11 ≤ z → M' z = M z
set_option maxHeartbeats 2000000 in
set_option maxRecDepth 20000 in
theorem cX0tell_d  {c0 : Nat} (hc : c0 = 4 ∨ c0 = 16) (hn : 96 ≤ n) (rc : RCi Rf c0) {T : Nat → Nat} (hm : cyT M c0 T) (m2 : M c0 2 = nI (T 5)) {n0 n1 n2 n3 : Nat} (hq : num4 M n0 n1 n2 n3) : RetE Λ (d + 1) mX0_tell [.ref c0, .int (nI 100), .ref 3] (n, M, Rf, Lg) (pV n Rf Lg (fun M' => cyT M' c0 (tel T 100 n0 n1 n2 n3) ∧ M' c0 2 = nI (tel T 100 n0 n1 n2 n3 5) ∧ frY c0 M M')) 0 0 := by
  refine RetE.of rfl rfl rfl (fun κ o f hin => ?_)
  obtain ⟨z0, z1, z2, z3, z4, z5, z6, z7, z8, z9, z10, z11⟩ := city_shp hc
  obtain ⟨r3, r4, r6, r7, r8, r9, r11, r12, r13, r14, r15⟩ := id rc
  obtain ⟨hq1, hq2, hq3, hq4⟩ := id hq
  obtain ⟨m0, m1, m5, m10, mb, mj, mc, mn, ml⟩ := id hm
  refine g_iload_n (pc := 0) o 1 dX0_tell_0 rfl rfl ?_
  refine g_tabI (pc := 1) o 80 dX0_tell_1 (by decide) (by decide) rfl (by decide) ?_
  refine g_aload_n (pc := 80) o 0 dX0_tell_80 rfl rfl ?_
  refine g_aload_n (pc := 81) o 2 dX0_tell_81 rfl rfl ?_
  refine g_iconst (pc := 82) (v := 0) o dX0_tell_82 (by decide) ?_
  refine g_iald (pc := 83) o (0) (by first | assumption | rfl) (by first | assumption | omega) rfl (by omega) dX0_tell_83 ?_
  rw [hq.1]
  refine g_putI (pc := 84) o flRX0_45 rfl (by first | assumption | rfl) (by first | assumption | omega) rfl rfl dX0_tell_84 ?_
  refine g_goto (pc := 87) o 170 dX0_tell_87 (by decide) ?_
  exact e_vret (pc := 170) o f dX0_tell_170 (pV.of ⟨cy_4 (cy_d hm n0) _, by rw [st2_ne2 _ _ (by omega), m2]; rfl, fun z hz => st2_ne _ _ _ (by omega)⟩)

set_option maxHeartbeats 2000000 in
set_option maxRecDepth 20000 in
theorem cX0tell_q  {c0 : Nat} (hc : c0 = 4 ∨ c0 = 16) (hn : 96 ≤ n) (rc : RCi Rf c0) {T : Nat → Nat} (hm : cyT M c0 T) (m2 : M c0 2 = nI (T 5)) {n0 n1 n2 n3 : Nat} (hq : num4 M n0 n1 n2 n3) : RetE Λ (d + 1) mX0_tell [.ref c0, .int (nI 113), .ref 3] (n, M, Rf, Lg) (pV n Rf Lg (fun M' => cyT M' c0 (tel T 113 n0 n1 n2 n3) ∧ M' c0 2 = nI (tel T 113 n0 n1 n2 n3 5) ∧ frY c0 M M')) 0 0 := by
  refine RetE.of rfl rfl rfl (fun κ o f hin => ?_)
  obtain ⟨z0, z1, z2, z3, z4, z5, z6, z7, z8, z9, z10, z11⟩ := city_shp hc
  obtain ⟨r3, r4, r6, r7, r8, r9, r11, r12, r13, r14, r15⟩ := id rc
  obtain ⟨hq1, hq2, hq3, hq4⟩ := id hq
  obtain ⟨m0, m1, m5, m10, mb, mj, mc, mn, ml⟩ := id hm
  refine g_iload_n (pc := 0) o 1 dX0_tell_0 rfl rfl ?_
  refine g_tabI (pc := 1) o 90 dX0_tell_1 (by decide) (by decide) rfl (by decide) ?_
  refine g_aload_n (pc := 90) o 0 dX0_tell_90 rfl rfl ?_
  refine g_aload_n (pc := 91) o 2 dX0_tell_91 rfl rfl ?_
  refine g_iconst (pc := 92) (v := 0) o dX0_tell_92 (by decide) ?_
  refine g_iald (pc := 93) o (0) (by first | assumption | rfl) (by first | assumption | omega) rfl (by omega) dX0_tell_93 ?_
  rw [hq.1]
  refine g_putI (pc := 94) o flRX0_49 rfl (by first | assumption | rfl) (by first | assumption | omega) rfl rfl dX0_tell_94 ?_
  refine g_aload_n (pc := 97) o 0 dX0_tell_97 rfl rfl ?_
  refine g_iconst (pc := 98) (v := 1) o dX0_tell_98 (by decide) ?_
  refine g_putI (pc := 99) o flRX0_52 rfl (by first | assumption | rfl) (by first | assumption | omega) rfl rfl dX0_tell_99 ?_
  refine g_goto (pc := 102) o 170 dX0_tell_102 (by decide) ?_
  exact e_vret (pc := 170) o f dX0_tell_170 (pV.of ⟨cy_4 (cy_q hm n0) _, st2_same _ _ _ _, fun z hz => by rw [st2_ne _ _ _ (by omega), st2_ne _ _ _ (by omega)]⟩)

set_option maxHeartbeats 2000000 in
set_option maxRecDepth 20000 in
theorem cX0tell_b  {c0 : Nat} (hc : c0 = 4 ∨ c0 = 16) (hn : 96 ≤ n) (rc : RCi Rf c0) {T : Nat → Nat} (hm : cyT M c0 T) (m2 : M c0 2 = nI (T 5)) {n0 n1 n2 n3 : Nat} (hq : num4 M n0 n1 n2 n3) (h0 : n0 < 4) : RetE Λ (d + 1) mX0_tell [.ref c0, .int (nI 98), .ref 3] (n, M, Rf, Lg) (pV n Rf Lg (fun M' => cyT M' c0 (tel T 98 n0 n1 n2 n3) ∧ M' c0 2 = nI (tel T 98 n0 n1 n2 n3 5) ∧ frY c0 M M')) 0 0 := by
  refine RetE.of rfl rfl rfl (fun κ o f hin => ?_)
  obtain ⟨z0, z1, z2, z3, z4, z5, z6, z7, z8, z9, z10, z11⟩ := city_shp hc
  obtain ⟨r3, r4, r6, r7, r8, r9, r11, r12, r13, r14, r15⟩ := id rc
  obtain ⟨hq1, hq2, hq3, hq4⟩ := id hq
  obtain ⟨m0, m1, m5, m10, mb, mj, mc, mn, ml⟩ := id hm
  refine g_iload_n (pc := 0) o 1 dX0_tell_0 rfl rfl ?_
  refine g_tabI (pc := 1) o 140 dX0_tell_1 (by decide) (by decide) rfl (by decide) ?_
  refine g_aload_n (pc := 140) o 0 dX0_tell_140 rfl rfl ?_
  refine g_getR (pc := 141) o flRX0_9 (by first | assumption | rfl) (by first | assumption | omega) (by assumption) dX0_tell_141 ?_
  refine g_aload_n (pc := 144) o 2 dX0_tell_144 rfl rfl ?_
  refine g_iconst (pc := 145) (v := 0) o dX0_tell_145 (by decide) ?_
  refine g_iald (pc := 146) o (0) (by first | assumption | rfl) (by first | assumption | omega) rfl (by omega) dX0_tell_146 ?_
  rw [hq.1]
  refine g_aload_n (pc := 147) o 2 dX0_tell_147 rfl rfl ?_
  refine g_iconst (pc := 148) (v := 1) o dX0_tell_148 (by decide) ?_
  refine g_iald (pc := 149) o (1) (by first | assumption | rfl) (by first | assumption | omega) rfl (by omega) dX0_tell_149 ?_
  rw [hq.2.1]
  refine g_iast (pc := 150) o (n0) (by first | assumption | rfl) (by first | assumption | omega) rfl (by omega) dX0_tell_150 ?_
  refine g_goto (pc := 151) o 170 dX0_tell_151 (by decide) ?_
  exact e_vret (pc := 170) o f dX0_tell_170 (pV.of ⟨cy_4 (cy_b hm h0) _, by rw [st2_ne2 _ _ (by omega), m2]; show nI (T 5) = nI (upN (upN T (10 + n0) n1) 4 _ 5); rw [upN_n _ _ (by omega), upN_n _ _ (by omega)], fun z hz => st2_ne _ _ _ (by omega)⟩)

set_option maxHeartbeats 2000000 in
set_option maxRecDepth 20000 in
theorem cX0tell_e  {c0 : Nat} (hc : c0 = 4 ∨ c0 = 16) (hn : 96 ≤ n) (rc : RCi Rf c0) {T : Nat → Nat} (hm : cyT M c0 T) (m2 : M c0 2 = nI (T 5)) {n0 n1 n2 n3 : Nat} (hq : num4 M n0 n1 n2 n3) (h0 : n0 < 4) (h1 : n1 < 4) : RetE Λ (d + 1) mX0_tell [.ref c0, .int (nI 101), .ref 3] (n, M, Rf, Lg) (pV n Rf Lg (fun M' => cyT M' c0 (tel T 101 n0 n1 n2 n3) ∧ M' c0 2 = nI (tel T 101 n0 n1 n2 n3 5) ∧ frY c0 M M')) 0 0 := by
  refine RetE.of rfl rfl rfl (fun κ o f hin => ?_)
  obtain ⟨z0, z1, z2, z3, z4, z5, z6, z7, z8, z9, z10, z11⟩ := city_shp hc
  obtain ⟨r3, r4, r6, r7, r8, r9, r11, r12, r13, r14, r15⟩ := id rc
  obtain ⟨hq1, hq2, hq3, hq4⟩ := id hq
  obtain ⟨m0, m1, m5, m10, mb, mj, mc, mn, ml⟩ := id hm
  refine g_iload_n (pc := 0) o 1 dX0_tell_0 rfl rfl ?_
  refine g_tabI (pc := 1) o 105 dX0_tell_1 (by decide) (by decide) rfl (by decide) ?_
  refine g_aload_n (pc := 105) o 0 dX0_tell_105 rfl rfl ?_
  refine g_getR (pc := 106) o flRX0_15 (by first | assumption | rfl) (by first | assumption | omega) (by assumption) dX0_tell_106 ?_
  refine g_aload_n (pc := 109) o 2 dX0_tell_109 rfl rfl ?_
  refine g_iconst (pc := 110) (v := 0) o dX0_tell_110 (by decide) ?_
  refine g_iald (pc := 111) o (0) (by first | assumption | rfl) (by first | assumption | omega) rfl (by omega) dX0_tell_111 ?_
  rw [hq.1]
  refine g_dup2 (pc := 112) o dX0_tell_112 rfl rfl ?_
  refine g_iald (pc := 113) o (n0) (by first | assumption | rfl) (by first | assumption | omega) rfl (by omega) dX0_tell_113 ?_
  rw [mj n0 (by omega)]
  refine g_iconst (pc := 114) (v := 1) o dX0_tell_114 (by decide) ?_
  refine g_aload_n (pc := 115) o 2 dX0_tell_115 rfl rfl ?_
  refine g_iconst (pc := 116) (v := 1) o dX0_tell_116 (by decide) ?_
  refine g_iald (pc := 117) o (1) (by first | assumption | rfl) (by first | assumption | omega) rfl (by omega) dX0_tell_117 ?_
  rw [hq.2.1]
  refine g_ishl (pc := 118) o dX0_tell_118 ?_
  refine g_ior (pc := 119) o dX0_tell_119 ?_
  rw [n_one (by omega), n_or]
  refine g_iast (pc := 120) o (n0) (by first | assumption | rfl) (by first | assumption | omega) rfl (by omega) dX0_tell_120 ?_
  refine g_aload_n (pc := 121) o 0 dX0_tell_121 rfl rfl ?_
  refine g_getR (pc := 122) o flRX0_15 (by first | assumption | rfl) (by first | assumption | omega) (by assumption) dX0_tell_122 ?_
  refine g_aload_n (pc := 125) o 2 dX0_tell_125 rfl rfl ?_
  refine g_iconst (pc := 126) (v := 1) o dX0_tell_126 (by decide) ?_
  refine g_iald (pc := 127) o (1) (by first | assumption | rfl) (by first | assumption | omega) rfl (by omega) dX0_tell_127 ?_
  rw [show (st2 M (c0 + 2) n0 (nI (T (6 + n0) ||| 2 ^ n1))) 3 1 = nI n1 from (st2_ne2 _ _ (by omega)).trans hq.2.1]
  refine g_dup2 (pc := 128) o dX0_tell_128 rfl rfl ?_
  refine g_iald (pc := 129) o (n1) (by first | assumption | rfl) (by first | assumption | omega) rfl (by omega) dX0_tell_129 ?_
  have c1 := cy_e hm (v := T (6 + n0) ||| 2 ^ n1) h0
  rw [c1.2.2.2.2.2.1 n1 (by omega)]
  refine g_iconst (pc := 130) (v := 1) o dX0_tell_130 (by decide) ?_
  refine g_aload_n (pc := 131) o 2 dX0_tell_131 rfl rfl ?_
  refine g_iconst (pc := 132) (v := 0) o dX0_tell_132 (by decide) ?_
  refine g_iald (pc := 133) o (0) (by first | assumption | rfl) (by first | assumption | omega) rfl (by omega) dX0_tell_133 ?_
  rw [show (st2 M (c0 + 2) n0 (nI (T (6 + n0) ||| 2 ^ n1))) 3 0 = nI n0 from (st2_ne2 _ _ (by omega)).trans hq.1]
  refine g_ishl (pc := 134) o dX0_tell_134 ?_
  refine g_ior (pc := 135) o dX0_tell_135 ?_
  rw [n_one (by omega), n_or]
  refine g_iast (pc := 136) o (n1) (by first | assumption | rfl) (by first | assumption | omega) rfl (by omega) dX0_tell_136 ?_
  refine g_goto (pc := 137) o 170 dX0_tell_137 (by decide) ?_
  exact e_vret (pc := 170) o f dX0_tell_170 (pV.of ⟨cy_4 (cy_e c1 h1) _, by rw [st2_ne2 _ _ (by omega), st2_ne2 _ _ (by omega), m2]; show nI (T 5) = nI (upN (upN (upN T (6 + n0) _) (6 + n1) _) 4 _ 5); rw [upN_n _ _ (by omega), upN_n _ _ (by omega), upN_n _ _ (by omega)], fun z hz => by rw [st2_ne _ _ _ (by omega), st2_ne _ _ _ (by omega)]⟩)

set_option maxHeartbeats 2000000 in
set_option maxRecDepth 20000 in
theorem cX0tell_c  {c0 : Nat} (hc : c0 = 4 ∨ c0 = 16) (hn : 96 ≤ n) (rc : RCi Rf c0) {T : Nat → Nat} (hm : cyT M c0 T) (m2 : M c0 2 = nI (T 5)) {n0 n1 n2 n3 : Nat} (hq : num4 M n0 n1 n2 n3) (h0 : n0 < 4) (t2 : T 2 < 6) : RetE Λ (d + 1) mX0_tell [.ref c0, .int (nI 99), .ref 3] (n, M, Rf, Lg) (pV n Rf Lg (fun M' => cyT M' c0 (tel T 99 n0 n1 n2 n3) ∧ M' c0 2 = nI (tel T 99 n0 n1 n2 n3 5) ∧ frY c0 M M')) 0 0 := by
  refine RetE.of rfl rfl rfl (fun κ o f hin => ?_)
  obtain ⟨z0, z1, z2, z3, z4, z5, z6, z7, z8, z9, z10, z11⟩ := city_shp hc
  obtain ⟨r3, r4, r6, r7, r8, r9, r11, r12, r13, r14, r15⟩ := id rc
  obtain ⟨hq1, hq2, hq3, hq4⟩ := id hq
  obtain ⟨m0, m1, m5, m10, mb, mj, mc, mn, ml⟩ := id hm
  refine g_iload_n (pc := 0) o 1 dX0_tell_0 rfl rfl ?_
  refine g_tabI (pc := 1) o 154 dX0_tell_1 (by decide) (by decide) rfl (by decide) ?_
  refine g_aload_n (pc := 154) o 0 dX0_tell_154 rfl rfl ?_
  refine g_aload_n (pc := 155) o 2 dX0_tell_155 rfl rfl ?_
  refine g_V1v (pc := 156) o lkRX0_62 cmX0_tellCitizen (cX0tellCitizen hc hn rc (C := T 2) (n0 := n0) (lv := liv T n0) m5 t2 h0 (ml n0 h0) hq) (by first | assumption | rfl) (by first | assumption | omega) rfl rfl ⟨Nat.le_refl _, Nat.le_refl _⟩ dX0_tell_156 ?_
  refine g_goto (pc := 159) o 170 dX0_tell_159 (by decide) ?_
  exact e_vret (pc := 170) o f dX0_tell_170 (pV.of ⟨cy_4 (cy_c hm t2 h0) _, by show _ = nI (upN (ciT T n0 n1 n2 n3) 4 _ 5); rw [upN_n _ _ (by omega), show ciT T n0 n1 n2 n3 5 = T 5 from by simp only [ciT, upN]; grind, ← m2]; simp only [tciM, st2]; grind, fun z hz => by funext j; simp only [tciM, st2]; grind⟩)

set_option maxHeartbeats 2000000 in
set_option maxRecDepth 20000 in
theorem cX0tell_n  {c0 : Nat} (hc : c0 = 4 ∨ c0 = 16) (hn : 96 ≤ n) (rc : RCi Rf c0) {T : Nat → Nat} (hm : cyT M c0 T) (m2 : M c0 2 = nI (T 5)) {n0 n1 n2 n3 : Nat} (hq : num4 M n0 n1 n2 n3) (t2 : T 2 ≤ 6) (t3 : T 3 < 6) : RetE Λ (d + 1) mX0_tell [.ref c0, .int (nI 110), .ref 3] (n, M, Rf, Lg) (pV n Rf Lg (fun M' => cyT M' c0 (tel T 110 n0 n1 n2 n3) ∧ M' c0 2 = nI (tel T 110 n0 n1 n2 n3 5) ∧ frY c0 M M')) 0 0 := by
  refine RetE.of rfl rfl rfl (fun κ o f hin => ?_)
  obtain ⟨z0, z1, z2, z3, z4, z5, z6, z7, z8, z9, z10, z11⟩ := city_shp hc
  obtain ⟨r3, r4, r6, r7, r8, r9, r11, r12, r13, r14, r15⟩ := id rc
  obtain ⟨hq1, hq2, hq3, hq4⟩ := id hq
  obtain ⟨m0, m1, m5, m10, mb, mj, mc, mn, ml⟩ := id hm
  refine g_iload_n (pc := 0) o 1 dX0_tell_0 rfl rfl ?_
  refine g_tabI (pc := 1) o 162 dX0_tell_1 (by decide) (by decide) rfl (by decide) ?_
  refine g_aload_n (pc := 162) o 0 dX0_tell_162 rfl rfl ?_
  refine g_aload_n (pc := 163) o 2 dX0_tell_163 rfl rfl ?_
  refine g_V1v (pc := 164) o lkRX0_66 cmX0_tellNoise (cX0tellNoise hc hn rc (C := T 3) m10 t3 hq) (by first | assumption | rfl) (by first | assumption | omega) rfl rfl ⟨Nat.le_refl _, Nat.le_refl _⟩ dX0_tell_164 ?_
  refine g_goto (pc := 167) o 170 dX0_tell_167 (by decide) ?_
  exact e_vret (pc := 170) o f dX0_tell_170 (pV.of ⟨cy_4 (cy_n hm t2 t3) _, by show _ = nI (upN (noT T n0 n1 n2) 4 _ 5); rw [upN_n _ _ (by omega), show noT T n0 n1 n2 5 = T 5 from by simp only [noT, upN]; grind, ← m2]; simp only [tnoM, st2]; grind, fun z hz => by funext j; simp only [tnoM, st2]; grind⟩)

theorem cyT.kept11 {M M' : HM} {c : Nat} {T : Nat → Nat} (h : cyT M c T) (e : ∀ z, c ≤ z → z < c + 11 → M' z = M z) : cyT M' c T := by
  obtain ⟨m0, m1, m5, m10, mb, mj, mc, mn, ml⟩ := h
  refine ⟨?_, ?_, ?_, ?_, fun d hd => ?_, fun d hd => ?_, fun i hi => ?_, fun i hi => ?_, fun d hd => ?_⟩
  · rw [e c (by omega) (by omega)]; exact m0
  · rw [e c (by omega) (by omega)]; exact m1
  · rw [e c (by omega) (by omega)]; exact m5
  · rw [e c (by omega) (by omega)]; exact m10
  · rw [e _ (by omega) (by omega)]; exact mb d hd
  · rw [e _ (by omega) (by omega)]; exact mj d hd
  · rw [e _ (by omega) (by omega), e _ (by omega) (by omega), e _ (by omega) (by omega), e _ (by omega) (by omega)]; exact mc i hi
  · rw [e _ (by omega) (by omega), e _ (by omega) (by omega), e _ (by omega) (by omega)]; exact mn i hi
  · rw [e _ (by omega) (by omega)]; exact ml d hd
set_option maxHeartbeats 2000000 in
set_option maxRecDepth 20000 in
theorem cX0settle  {c0 : Nat} (hc : c0 = 4 ∨ c0 = 16) (hn : 96 ≤ n) (rc : RCi Rf c0) {T : Nat → Nat} (ht : okT T) (hm : cyT M c0 T) : RetE Λ (d + 2) mX0_settle [.ref c0] (n, M, Rf, Lg) (pV n Rf Lg (fun M' => cyT M' c0 T ∧ cyR M' c0 T ∧ ∀ z, z ≠ c0 + 11 → M' z = M z)) 0 0 := by
  refine RetE.of rfl rfl rfl (fun κ o f hin => ?_)
  obtain ⟨z0, z1, z2, z3, z4, z5, z6, z7, z8, z9, z10, z11⟩ := city_shp hc
  obtain ⟨r3, r4, r6, r7, r8, r9, r11, r12, r13, r14, r15⟩ := id rc
  obtain ⟨⟨t0, t0b⟩, t1, t2, t3, tD, tC, tN⟩ := id ht
  have outer : ∀ (k h : Nat) (d2 d3 : Option Value) (M1 : HM), cyT M1 c0 T → (∀ z, z ≠ c0 + 11 → M1 z = M z) → (∀ q, q < h → M1 (c0 + 11) q = nI (rst T q)) → h ≤ 8 → 8 < h + k → G (Λ, κ) 2 [some (.ref c0), some (.int (nI h)), d2, d3] [] (n, M1, Rf, Lg) 0 0 := by
    intro k
    induction k with
    | zero => intro h d2 d3 M1 hmx hf hrr h1 h2; exact absurd h2 (by omega)
    | succ k ih =>
      intro h d2 d3 M1 hmx hf hrr h1 h2
      refine g_iload_n (pc := 2) o 1 dX0_settle_2 rfl rfl ?_
      refine g_bipush (pc := 3) (v := 8) o dX0_settle_3 (by decide) ?_
      refine g_icmp_ge (pc := 5) o 70 dX0_settle_5 (by decide) (fun q5 => ?_) (fun q5 => ?_)
      · have eh : h = 8 := by have := (le_N (a := 8) (b := h) (by decide) (by omega) rfl rfl).mp q5; omega
        exact e_vret (pc := 70) o f dX0_settle_70 (pV.of ⟨hmx, by rw [eh] at hrr; exact hrr, hf⟩)
      · have hh8 : h < 8 := by have := mt (le_N (a := 8) (b := h) (by decide) (by omega) rfl rfl).mpr q5; omega
        have inner : ∀ kc c : Nat, c ≤ T 2 → T 2 < c + kc → G (Λ, κ) 12 [some (.ref c0), some (.int (nI h)), some (.int (nI (mk (fun i => !(T (26 + i)).testBit h) c))), some (.int (nI c))] [] (n, M1, Rf, Lg) 0 0 := by
          intro kc
          induction kc with
          | zero => intro c h1 h2; exact absurd h2 (by omega)
          | succ kc ihc =>
            intro c h1 h2
            have m5x : M1 c0 5 = nI (T 2) := hmx.2.2.1
            refine g_iload_n (pc := 12) o 3 dX0_settle_12 rfl rfl ?_
            refine g_aload_n (pc := 13) o 0 dX0_settle_13 rfl rfl ?_
            refine g_getI (pc := 14) o flRX0_56 (by first | assumption | rfl) (by first | assumption | omega) dX0_settle_14 ?_
            refine g_icmp_ge (pc := 17) o 45 dX0_settle_17 (by decide) (fun q17 => ?_) (fun q17 => ?_)
            · have ec : c = T 2 := by have := (le_N (a := T 2) (b := c) (by omega) (by omega) m5x rfl).mp q17; omega
              refine g_aload_n (pc := 45) o 0 dX0_settle_45 rfl rfl ?_
              refine g_getR (pc := 46) o flRX0_42 (by first | assumption | rfl) (by first | assumption | omega) (by assumption) dX0_settle_46 ?_
              refine g_iload_n (pc := 49) o 1 dX0_settle_49 rfl rfl ?_
              refine g_iload_n (pc := 50) o 2 dX0_settle_50 rfl rfl ?_
              refine g_aload_n (pc := 51) o 0 dX0_settle_51 rfl rfl ?_
              refine g_aload_n (pc := 52) o 0 dX0_settle_52 rfl rfl ?_
              refine g_iload_n (pc := 53) o 1 dX0_settle_53 rfl rfl ?_
              refine g_V1i (pc := 54) o lkRX0_73 cmX0_noisesOf (cX0noisesOf hc hn rc ht hmx (hh := h) (by omega)) (by first | assumption | rfl) (by first | assumption | omega) rfl rfl ⟨Nat.le_refl _, Nat.le_refl _⟩ dX0_settle_54 ?_
              refine g_V1i (pc := 57) o lkRX0_77 cmX0_wokenByAll (cX0wokenByAll hc hn rc ht hmx (w := nsO T h) (mk31 _ t3)) (by first | assumption | rfl) (by first | assumption | omega) rfl rfl ⟨Nat.le_refl _, Nat.le_refl _⟩ dX0_settle_57 ?_
              rw [ec]
              refine g_iconst (pc := 60) (v := -1) o dX0_settle_60 (by decide) ?_
              refine g_ixor (pc := 61) o dX0_settle_61 ?_
              refine g_iand (pc := 62) o dX0_settle_62 ?_
              rw [n_dif]
              refine g_iast (pc := 63) o (h) (by first | assumption | rfl) (by first | assumption | omega) rfl (by omega) dX0_settle_63 ?_
              refine g_incN (pc := 64) o (h) dX0_settle_64 rfl rfl ?_
              refine g_goto (pc := 67) o 2 dX0_settle_67 (by decide) ?_
              exact ih (h + 1) _ _ _ (hmx.kept11 (fun z g1 g2 => st2_ne _ _ _ (by omega))) (fun z hz => by rw [st2_ne _ _ _ hz]; exact hf z hz) (fun q hq => by rw [st2_row]; by_cases e : q = h; rw [if_pos e, e]; rfl; rw [if_neg e]; exact hrr q (by omega)) (by omega) (by omega)
            · have hc1 : c < T 2 := by have := mt (le_N (a := T 2) (b := c) (by omega) (by omega) m5x rfl).mpr q17; omega
              refine g_aload_n (pc := 20) o 0 dX0_settle_20 rfl rfl ?_
              refine g_getR (pc := 21) o flRX0_24 (by first | assumption | rfl) (by first | assumption | omega) (by assumption) dX0_settle_21 ?_
              refine g_iload_n (pc := 24) o 3 dX0_settle_24 rfl rfl ?_
              refine g_iald (pc := 25) o (c) (by first | assumption | rfl) (by first | assumption | omega) rfl (by omega) dX0_settle_25 ?_
              rw [(hmx.2.2.2.2.2.2.1 c hc1).2.2.1]
              refine g_iload_n (pc := 26) o 1 dX0_settle_26 rfl rfl ?_
              refine g_SN2i (pc := 27) o lkRX0_69 cmX3_has (cX3has (by have := tC c hc1; omega) (by omega)) rfl rfl ⟨Nat.le_refl _, Nat.le_refl _⟩ dX0_settle_27 ?_
              refine g_if_ne (pc := 30) o 39 dX0_settle_30 (by decide) (fun q30 => ?_) (fun q30 => ?_)
              · have e1 : mk (fun i => !(T (26 + i)).testBit h) (c + 1) = mk (fun i => !(T (26 + i)).testBit h) c := mk_f (by simp [bi_nz.mp q30])
                refine g_incN (pc := 39) o (c) dX0_settle_39 rfl rfl ?_
                refine g_goto (pc := 42) o 12 dX0_settle_42 (by decide) ?_
                first | exact ihc (c + 1) (by omega) (by omega) | (rw [← e1]; exact ihc (c + 1) (by omega) (by omega))
              · have e1 := mk_t (p := (fun i => !(T (26 + i)).testBit h)) (n := c) (by simp [ts_nt9 (bi_z.mp q30)]) (by omega)
                refine g_iload_n (pc := 33) o 2 dX0_settle_33 rfl rfl ?_
                refine g_iconst (pc := 34) (v := 1) o dX0_settle_34 (by decide) ?_
                refine g_iload_n (pc := 35) o 3 dX0_settle_35 rfl rfl ?_
                refine g_ishl (pc := 36) o dX0_settle_36 ?_
                refine g_ior (pc := 37) o dX0_settle_37 ?_
                rw [e1]
                refine g_istore_n (pc := 38) o 2 dX0_settle_38 rfl rfl ?_
                refine g_incN (pc := 39) o (c) dX0_settle_39 rfl rfl ?_
                refine g_goto (pc := 42) o 12 dX0_settle_42 (by decide) ?_
                first | exact ihc (c + 1) (by omega) (by omega) | (rw [← e1]; exact ihc (c + 1) (by omega) (by omega))
        refine g_iconst (pc := 8) (v := 0) o dX0_settle_8 (by decide) ?_
        refine g_istore_n (pc := 9) o 2 dX0_settle_9 rfl rfl ?_
        refine g_iconst (pc := 10) (v := 0) o dX0_settle_10 (by decide) ?_
        refine g_istore_n (pc := 11) o 3 dX0_settle_11 rfl rfl ?_
        exact inner (T 2 + 1) 0 (by omega) (by omega)
  refine g_iconst (pc := 0) (v := 0) o dX0_settle_0 (by decide) ?_
  refine g_istore_n (pc := 1) o 1 dX0_settle_1 rfl rfl ?_
  exact outer 9 0 none none _ hm (fun _ _ => rfl) (fun q hq => absurd hq (by omega)) (by omega) (by omega)

end M14
