section M45
variable {M M' : HM} {Rf : HR} {t b : Nat} {T S : Nat → Nat} {lat pk : Nat} {P I : Nat → Nat → Nat} {ik : Nat → Bool} {cn tl : Nat} {ch cm tx : Nat → Nat}
/-! the past -/
def psh (S : Nat → Nat) (P : Nat → Nat → Nat) : Nat → Nat → Nat := fun i => if i = 0 then S else P (i - 1)
theorem rmb_ne (lat pk : Nat) {z : Nat} (h1 : z ≠ 0) (h : z < 48 + 4 * ((lat + 1) % 10) ∨ 48 + 4 * ((lat + 1) % 10) + 3 < z) : rmbM M lat pk z = M z := by
  unfold rmbM; rw [st2_ne _ _ _ h1, bcmM_ne _ _ _ h, st2_ne _ _ _ h1]
theorem rmb_0 (lat pk : Nat) {j : Nat} (h : j ≠ 6) (h7 : j ≠ 7) : rmbM M lat pk 0 j = M 0 j := by
  unfold rmbM; rw [st2_ne2 _ _ (by omega), bcmM_ne _ _ _ (by omega), st2_ne2 _ _ (by omega)]
theorem nwS_kept28 {C a : Nat} {S : Nat → Nat} (h : nwS M 28 S C) (hC : C ≤ 6) {M2 : HM} (e : ∀ z, 28 ≤ z → z < 32 → M2 z = M z) : nwS (bcmM M2 a 28) a S C := bcm_now hC (h.kept (fun z g1 g2 => e z g1 (by omega)))
theorem IC.rmb (h : IC M Rf t b T S lat pk P I ik cn ch cm tl tx) : IC (rmbM M lat pk) Rf t b T S ((lat + 1) % 10) (min (pk + 1) 10) (psh S P) I ik cn ch cm tl tx := by
  obtain ⟨h1, h2, ⟨p1, p2, p3, p4, p5⟩, h4, h5, h6⟩ := h
  have t2 : T 2 ≤ 6 := h1.2.2.2.1.2.2.1
  refine ⟨h1.kept (fun z g1 g2 => rmbM_ne _ _ _ (by omega) (by omega)), h2, ⟨by omega, by omega, ?_, ?_, fun i hi => ?_⟩, h4.kept (rmbM_ne _ _ _ (by decide) (by omega)) (fun z g1 g2 => rmbM_ne _ _ _ (by omega) (by omega)), h5.kept (rmb_0 _ _ (by decide) (by decide)) (rmbM_ne _ _ _ (by decide) (by omega)) (rmbM_ne _ _ _ (by decide) (by omega)), txM_kept h6 (by rw [rmbM_ne _ _ _ (by decide) (by omega)]) (rmbM_ne _ _ _ (by decide) (by omega))⟩
  · unfold rmbM; rw [st2_ne2 _ _ (by omega), bcmM_ne _ _ _ (by omega), st2_row, if_pos rfl]
  · unfold rmbM; rw [st2_row, if_pos rfl]
  · unfold psh
    by_cases e : i = 0
    · subst e
      rw [if_pos rfl, show ((lat + 1) % 10 + 10 - 0) % 10 = (lat + 1) % 10 by omega]
      refine ⟨?_, h1.2.2.2.2.2.2.2.1⟩
      have q := nwS_kept28 (a := 48 + 4 * ((lat + 1) % 10)) (M2 := st2 M 0 6 (nI ((lat + 1) % 10))) h1.2.2.2.2.2.2.1 t2 (fun z g1 g2 => st2_ne _ _ _ (by omega))
      exact q.kept (fun z g1 g2 => by unfold rmbM; rw [st2_ne _ _ _ (by omega)])
    · rw [if_neg e, show ((lat + 1) % 10 + 10 - i) % 10 = (lat + 10 - (i - 1)) % 10 by omega]
      have q := p5 (i - 1) (by omega)
      exact ⟨q.1.kept (fun z g1 g2 => rmb_ne _ _ (by omega) (by omega)), q.2⟩
theorem pasN.kp (h : pasN M pk P) (hp : pk ≤ 10) (hS : mR M 100 21 S) : pasN (kpM M pk) (min (pk + 1) 10) (psh S P) := by
  obtain ⟨p1, p2⟩ := h
  refine ⟨kpM_7 _ hp, fun i hi k hk => ?_⟩
  unfold psh kpM
  by_cases c : pk = 10
  · subst c
    rw [if_pos rfl, st2_ne _ _ _ (by decide)]
    by_cases e : i = 0
    · subst e
      rw [if_pos rfl, show 21 * (min (10 + 1) 10 - 1 - 0) + k = 21 * 9 + k by omega, blkM_in _ _ _ _ hk]
      exact hS k hk
    · rw [if_neg e, blkM_out _ _ _ _ _ (by omega), st2_ne _ _ _ (by decide)]
      unfold shf
      rw [rowM_in _ _ _ (by omega)]
      have q := p2 (i - 1) (by omega) k hk
      rw [show 21 * (10 - 1 - (i - 1)) + k = 21 + (21 * (min (10 + 1) 10 - 1 - i) + k) by omega] at q
      exact q
  · rw [if_neg c, st2_ne _ _ _ (by decide)]
    by_cases e : i = 0
    · subst e
      rw [if_pos rfl, show 21 * (min (pk + 1) 10 - 1 - 0) + k = 21 * pk + k by omega, blkM_in _ _ _ _ hk]
      exact hS k hk
    · rw [if_neg e, blkM_out _ _ _ _ _ (by omega)]
      have q := p2 (i - 1) (by omega) k hk
      rw [show 21 * (pk - 1 - (i - 1)) + k = 21 * (min (pk + 1) 10 - 1 - i) + k by omega] at q
      exact q
theorem IM.kp (h : IM M Rf b T S pk P I ik cn ch cm tl tx) (hp : pk ≤ 10) : IM (kpM M pk) Rf b T S (min (pk + 1) 10) (psh S P) I ik cn ch cm tl tx := by
  obtain ⟨h1, h2, h3, h4, h5, h6⟩ := h
  exact ⟨h1.kp, h2.imp (fun _ q => q.kp), h3.kp hp h1.2.2.2.2.1, h4.kept (kpM_ne _ _ (by decide) (by decide)) (kpM_ne _ _ (by decide) (by decide)), h5.kept (kpM_96 _ _ (by decide)) (kpM_ne _ _ (by decide) (by decide)), txN_kept h6 (kpM_96 _ _ (by decide)) (kpM_ne _ _ (by decide) (by decide))⟩
/-! called -/
def clS (S : Nat → Nat) (v w : Int32) : Nat → Nat := fun k => if k = 9 + v.toNatClampNeg then w.toNatClampNeg else S k
theorem clS_at (S : Nat → Nat) (v w : Int32) (k : Nat) : clS S v w k = if k = 9 + v.toNatClampNeg then w.toNatClampNeg else S k := rfl
theorem cls_ok {C : Nat} (h : okS S C b) (hC : C ≤ 6) {v w : Int32} (hv : inn v C) (hw : inn w 256) : okS (clS S v w) C b := by
  obtain ⟨k1, k2⟩ := inn_clamp hv (by omega)
  obtain ⟨k3, k4⟩ := inn_clamp hw (by decide)
  obtain ⟨a1, a2, a3, a4⟩ := h
  refine ⟨by rw [clS_at, if_neg (by omega)]; exact a1, by rw [clS_at, if_neg (by omega)]; exact a2, by rw [clS_at, if_neg (by omega)]; exact a3, fun i hi => ?_⟩
  rw [clS_at, clS_at, clS_at, if_neg (show ¬ 3 + i = 9 + v.toNatClampNeg by omega), if_neg (show ¬ 15 + i = 9 + v.toNatClampNeg by omega)]
  refine ⟨(a4 i hi).1, ?_, (a4 i hi).2.2⟩
  by_cases e : 9 + i = 9 + v.toNatClampNeg
  · rw [if_pos e]; omega
  · rw [if_neg e]; exact (a4 i hi).2.1
theorem IC.callS (h : IC M Rf t b T S lat pk P I ik cn ch cm tl tx) {v w : Int32} (hv : inn v (T 2)) (hw : inn w 256) : IC (st2 M 30 v.toNatClampNeg w) Rf t b T (clS S v w) lat pk P I ik cn ch cm tl tx := by
  obtain ⟨⟨a1, a2, a3, a4, a5, a6, a7, a8, a9⟩, h2, h3, h4, h5, h6⟩ := h
  have t2 : T 2 ≤ 6 := a4.2.2.1
  obtain ⟨k1, k2⟩ := inn_clamp hv (by omega)
  obtain ⟨k3, k4⟩ := inn_clamp hw (by decide)
  have ne : ∀ z, z ≠ 30 → st2 M 30 v.toNatClampNeg w z = M z := fun z hz => st2_ne _ _ _ hz
  refine ⟨⟨a1, a2, a3, a4, a5.kept (fun z g1 g2 => ne z (by omega)), ?_, ?_, cls_ok a8 t2 hv hw, a9⟩, h2, h3.kept (fun j _ => by rw [ne 0 (by decide)]) (fun z g1 g2 => ne z (by omega)), h4.kept (ne 38 (by decide)) (fun z g1 g2 => ne z (by omega)), h5.kept (by rw [ne 0 (by decide)]) (ne 39 (by decide)) (ne 40 (by decide)), txM_kept h6 (by rw [ne 1 (by decide)]) (ne 2 (by decide))⟩
  · intro q hq; rw [ne (t + 11) (by omega)]; exact a6 q hq
  · obtain ⟨b1, b2, b3, b4⟩ := a7
    refine ⟨by rw [ne 28 (by decide), clS_at, if_neg (by omega)]; exact b1, by rw [ne 28 (by decide), clS_at, if_neg (by omega)]; exact b2, by rw [ne 28 (by decide), clS_at, if_neg (by omega)]; exact b3, fun i hi => ?_⟩
    rw [clS_at, clS_at, clS_at, ne (28 + 1) (by decide), ne (28 + 3) (by decide), if_neg (show ¬ 3 + i = 9 + v.toNatClampNeg by omega), if_neg (show ¬ 15 + i = 9 + v.toNatClampNeg by omega)]
    refine ⟨(b4 i hi).1, ?_, (b4 i hi).2.2⟩
    show st2 M 30 v.toNatClampNeg w 30 i = _
    rw [st2_row]
    by_cases e : i = v.toNatClampNeg
    · rw [if_pos e, if_pos (by omega)]; exact k3
    · rw [if_neg e, if_neg (by omega)]; exact (b4 i hi).2.1
theorem IM.callS (h : IM M Rf b T S pk P I ik cn ch cm tl tx) {v w : Int32} (hv : inn v (T 2)) (hw : inn w 256) : IM (st2 M 100 (9 + v.toNatClampNeg) w) Rf b T (clS S v w) pk P I ik cn ch cm tl tx := by
  obtain ⟨⟨a1, a2, a3, a4, a5, a6, a7⟩, h2, h3, h4, h5, h6⟩ := h
  have t2 : T 2 ≤ 6 := a3.2.2.1
  obtain ⟨k3, k4⟩ := inn_clamp hw (by decide)
  have ne : ∀ z, z ≠ 100 → st2 M 100 (9 + v.toNatClampNeg) w z = M z := fun z hz => st2_ne _ _ _ hz
  refine ⟨⟨a1, a2, a3, a4.kept (ne 98 (by decide)), fun k hk => ?_, cls_ok a6 t2 hv hw, a7⟩, h2.kept (fun j _ _ => by rw [ne 96 (by decide)]), h3.kept (by rw [ne 96 (by decide)]) (ne 101 (by decide)), h4.kept (ne 102 (by decide)) (ne 103 (by decide)), h5.kept (by rw [ne 96 (by decide)]) (ne 104 (by decide)), txN_kept h6 (by rw [ne 96 (by decide)]) (ne 97 (by decide))⟩
  rw [clS_at, st2_row]
  by_cases e : k = 9 + v.toNatClampNeg
  · rw [if_pos e, if_pos e]; exact k3
  · rw [if_neg e, if_neg e]; exact a5 k hk
/-! an hour goes by -/
theorem IC.pass (h : IC M Rf t b T S lat pk P I ik cn ch cm tl tx) (hb : b + 1 ≤ 1000) (w : Nat) : IC (passM M 28 w (T 2) (T 1)) Rf t (b + 1) T (stepS T S w) lat pk P I ik cn ch cm tl tx := by
  obtain ⟨⟨a1, a2, a3, a4, a5, a6, a7, a8, a9⟩, h2, ⟨p1, p2, p3, p4, p5⟩, ⟨i1, i2⟩, h5, h6⟩ := h
  have t2 : T 2 ≤ 6 := a4.2.2.1
  have ne : ∀ z, (z < 28 ∨ 31 < z) → passM M 28 w (T 2) (T 1) z = M z := fun z hz => passM_ne _ _ _ _ _ (by omega)
  have h3 : pasC M (T 2) (b + 1) lat pk P := ⟨p1, p2, p3, p4, fun i hi => ⟨(p5 i hi).1, (p5 i hi).2.up (by omega)⟩⟩
  have h4 : imgC M (T 2) (b + 1) I ik := ⟨i1, fun i hi hk => ⟨(i2 i hi hk).1, (i2 i hi hk).2.up (by omega)⟩⟩
  refine ⟨⟨a1, a2, a3, a4, a5.kept (fun z g1 g2 => ne z (by omega)), ?_, pass_now t2 (by omega) a7 a8, step_ok w t2 a8, hb⟩, h2, h3.kept (fun j _ => by rw [ne 0 (by decide)]) (fun z g1 g2 => ne z (by omega)), h4.kept (ne 38 (by decide)) (fun z g1 g2 => ne z (by omega)), h5.kept (by rw [ne 0 (by decide)]) (ne 39 (by decide)) (ne 40 (by decide)), txM_kept h6 (by rw [ne 1 (by decide)]) (ne 2 (by decide))⟩
  intro q hq; rw [ne (t + 11) (by omega)]; exact a6 q hq
theorem IM.go (h : IM M Rf b T S pk P I ik cn ch cm tl tx) (hb : b + 1 ≤ 1000) (w : Nat) : IM (goM M T S w) Rf (b + 1) T (stepS T S w) pk P I ik cn ch cm tl tx := by
  obtain ⟨⟨a1, a2, a3, a4, a5, a6, a7⟩, h2, h3, h4, h5, h6⟩ := h
  have ne : ∀ z, z ≠ 100 → goM M T S w z = M z := fun z hz => goM_ne _ _ _ _ hz
  exact ⟨⟨a1, a2, a3, a4.kept (ne 98 (by decide)), goM_row _ _ _ _, step_ok w a3.2.2.1 a6, by omega⟩, h2.kept (fun j _ _ => by rw [ne 96 (by decide)]), h3.kept (by rw [ne 96 (by decide)]) (ne 101 (by decide)), h4.kept (ne 102 (by decide)) (ne 103 (by decide)), h5.kept (by rw [ne 96 (by decide)]) (ne 104 (by decide)), txN_kept h6 (by rw [ne 96 (by decide)]) (ne 97 (by decide))⟩
/-! an hour taken back -/
theorem IC.undo (h : IC M Rf t b T S lat pk P I ik cn ch cm tl tx) (hp : pk ≠ 0) : IC (mUndo M lat pk) Rf t b T (P 0) ((lat + 9) % 10) (pk - 1) (fun i => P (i + 1)) I ik cn ch cm tl tx := by
  obtain ⟨⟨a1, a2, a3, a4, a5, a6, a7, a8, a9⟩, h2, ⟨p1, p2, p3, p4, p5⟩, h4, h5, h6⟩ := h
  have t2 : T 2 ≤ 6 := a4.2.2.1
  unfold mUndo
  rw [if_neg hp]
  have ne : ∀ z, z ≠ 0 → (z < 28 ∨ 31 < z) → st2 (st2 (bcmM M 28 (48 + 4 * lat)) 0 6 (nI ((lat + 9) % 10))) 0 7 (nI (pk - 1)) z = M z := fun z g1 g2 => by rw [st2_ne _ _ _ g1, st2_ne _ _ _ g1, bcmM_ne _ _ _ (by omega)]
  have q0 := p5 0 (by omega)
  rw [show (lat + 10 - 0) % 10 = lat by omega] at q0
  refine ⟨⟨a1, a2, a3, a4, a5.kept (fun z g1 g2 => ne z (by omega) (by omega)), ?_, ?_, q0.2, a9⟩, h2, ⟨by omega, by omega, ?_, ?_, fun i hi => ?_⟩, h4.kept (ne 38 (by decide) (by omega)) (fun z g1 g2 => ne z (by omega) (by omega)), h5.kept ?_ (ne 39 (by decide) (by omega)) (ne 40 (by decide) (by omega)), txM_kept h6 (by rw [ne 1 (by decide) (by omega)]) (ne 2 (by decide) (by omega))⟩
  · intro q hq; rw [ne (t + 11) (by omega) (by omega)]; exact a6 q hq
  · exact (bcm_now t2 q0.1).kept (fun z g1 g2 => by rw [st2_ne _ _ _ (by omega), st2_ne _ _ _ (by omega)])
  · rw [st2_ne2 _ _ (by omega), st2_row, if_pos rfl]
  · rw [st2_row, if_pos rfl]
  · have q := p5 (i + 1) (by omega)
    rw [show ((lat + 9) % 10 + 10 - i) % 10 = (lat + 10 - (i + 1)) % 10 by omega]
    exact ⟨q.1.kept (fun z g1 g2 => ne z (by omega) (by omega)), q.2⟩
  · rw [st2_ne2 _ _ (by omega), st2_ne2 _ _ (by omega), bcmM_ne _ _ _ (by omega)]
theorem IM.undo (h : IM M Rf b T S pk P I ik cn ch cm tl tx) (hp : pk ≠ 0) (os : okS (P 0) (T 2) b) : IM (unM M pk) Rf b T (P 0) (pk - 1) (fun i => P (i + 1)) I ik cn ch cm tl tx := by
  obtain ⟨⟨a1, a2, a3, a4, a5, a6, a7⟩, h2, ⟨p1, p2⟩, h4, h5, h6⟩ := h
  unfold unM
  rw [if_neg hp]
  have ne : ∀ z, z ≠ 96 → z ≠ 100 → rowM (st2 M 96 7 (nI (pk - 1))) 100 21 (fun j => M 101 (21 * (pk - 1) + j)) z = M z := fun z g1 g2 => by funext j; rw [rowM_ne _ _ _ g2, st2_ne _ _ _ g1]
  have n96 : ∀ j, j ≠ 7 → rowM (st2 M 96 7 (nI (pk - 1))) 100 21 (fun j => M 101 (21 * (pk - 1) + j)) 96 j = M 96 j := fun j g => by rw [rowM_ne _ _ _ (by decide), st2_ne2 _ _ (by omega)]
  refine ⟨⟨a1, a2, a3, a4.kept (ne 98 (by decide) (by decide)), fun k hk => ?_, os, a7⟩, h2.kept (fun j g1 g2 => n96 j (by omega)), ⟨?_, fun i hi k hk => ?_⟩, h4.kept (ne 102 (by decide) (by decide)) (ne 103 (by decide) (by decide)), h5.kept (n96 11 (by decide)) (ne 104 (by decide) (by decide)), txN_kept h6 (n96 2 (by decide)) (ne 97 (by decide) (by decide))⟩
  · rw [rowM_in _ _ _ hk]
    have q := p2 0 (by omega) k hk
    exact q
  · rw [rowM_ne _ _ _ (by decide), st2_row, if_pos rfl]
  · rw [ne 101 (by decide) (by decide)]
    have q := p2 (i + 1) (by omega) k hk
    rw [show pk - 1 - (i + 1) = pk - 1 - 1 - i by omega] at q
    exact q
/-! images -/
def nim (S : Nat → Nat) (I : Nat → Nat → Nat) (v : Int32) : Nat → Nat → Nat := fun i => if i = v.toNatClampNeg then S else I i
def nik (ik : Nat → Bool) (v : Int32) : Nat → Bool := fun i => if i = v.toNatClampNeg then true else ik i
theorem IC.keep (h : IC M Rf t b T S lat pk P I ik cn ch cm tl tx) {v : Int32} (hv : inn v 2) : IC (mKeep M v) Rf t b T S lat pk P (nim S I v) (nik ik v) cn ch cm tl tx := by
  obtain ⟨⟨a1, a2, a3, a4, a5, a6, a7, a8, a9⟩, h2, h3, ⟨i1, i2⟩, h5, h6⟩ := h
  have t2 : T 2 ≤ 6 := a4.2.2.1
  obtain ⟨k1, k2⟩ := inn_clamp hv (by decide)
  unfold mKeep
  rw [if_pos hv]
  have ne : ∀ z, z ≠ 38 → z < 88 → st2 (bcmM M (88 + 4 * v.toNatClampNeg) 28) 38 v.toNatClampNeg 1 z = M z := fun z g1 g2 => by rw [st2_ne _ _ _ g1, bcmM_ne _ _ _ (by omega)]
  refine ⟨⟨a1, a2, a3, a4, a5.kept (fun z g1 g2 => ne z (by omega) (by omega)), ?_, a7.kept (fun z g1 g2 => ne z (by omega) (by omega)), a8, a9⟩, h2, h3.kept (fun j _ => by rw [ne 0 (by decide) (by decide)]) (fun z g1 g2 => ne z (by omega) (by omega)), ⟨fun i hi => ?_, fun i hi hk => ?_⟩, h5.kept (by rw [ne 0 (by decide) (by decide)]) (ne 39 (by decide) (by decide)) (ne 40 (by decide) (by decide)), txM_kept h6 (by rw [ne 1 (by decide) (by decide)]) (ne 2 (by decide) (by decide))⟩
  · intro q hq; rw [ne (t + 11) (by omega) (by omega)]; exact a6 q hq
  · unfold nik
    rw [st2_row]
    by_cases e : i = v.toNatClampNeg
    · rw [if_pos e, if_pos e]; rfl
    · rw [if_neg e, if_neg e, bcmM_ne _ _ _ (by omega)]; exact i1 i hi
  · unfold nim
    unfold nik at hk
    by_cases e : i = v.toNatClampNeg
    · subst e
      rw [if_pos rfl]
      exact ⟨(bcm_now t2 a7).kept (fun z g1 g2 => by rw [st2_ne _ _ _ (by omega)]), a8⟩
    · rw [if_neg e] at hk ⊢
      exact ⟨(i2 i hi hk).1.kept (fun z g1 g2 => by rw [st2_ne _ _ _ (by omega), bcmM_ne _ _ _ (by omega)]), (i2 i hi hk).2⟩
theorem IM.keep (h : IM M Rf b T S pk P I ik cn ch cm tl tx) {v : Int32} (hv : inn v 2) : IM (kepM M v) Rf b T S pk P (nim S I v) (nik ik v) cn ch cm tl tx := by
  obtain ⟨⟨a1, a2, a3, a4, a5, a6, a7⟩, h2, h3, ⟨i1, i2⟩, h5, h6⟩ := h
  obtain ⟨k1, k2⟩ := inn_clamp hv (by decide)
  unfold kepM
  rw [if_pos hv]
  have ne : ∀ z, z ≠ 102 → z ≠ 103 → st2 (blkM M 102 (21 * v.toNatClampNeg) 21 (fun j => M 100 j)) 103 v.toNatClampNeg 1 z = M z := fun z g1 g2 => by rw [st2_ne _ _ _ g2]; funext j; rw [blkM_ne _ _ _ _ g1]
  refine ⟨⟨a1, a2, a3, a4.kept (ne 98 (by decide) (by decide)), a5.kept (ne 100 (by decide) (by decide)), a6, a7⟩, h2.kept (fun j _ _ => by rw [ne 96 (by decide) (by decide)]), h3.kept (by rw [ne 96 (by decide) (by decide)]) (ne 101 (by decide) (by decide)), ⟨fun i hi => ?_, fun i hi hk k hk2 => ?_⟩, h5.kept (by rw [ne 96 (by decide) (by decide)]) (ne 104 (by decide) (by decide)), txN_kept h6 (by rw [ne 96 (by decide) (by decide)]) (ne 97 (by decide) (by decide))⟩
  · unfold nik
    rw [st2_row]
    by_cases e : i = v.toNatClampNeg
    · rw [if_pos e, if_pos e]; rfl
    · rw [if_neg e, if_neg e, blkM_ne _ _ _ _ (by decide)]; exact i1 i hi
  · unfold nim
    unfold nik at hk
    rw [st2_ne _ _ _ (by decide)]
    by_cases e : i = v.toNatClampNeg
    · subst e
      rw [if_pos rfl, blkM_in _ _ _ _ hk2]
      exact a5 k hk2
    · rw [if_neg e] at hk ⊢
      rw [blkM_out _ _ _ _ _ (by omega)]
      exact i2 i hi hk k hk2
theorem IC.back (h : IC M Rf t b T S lat pk P I ik cn ch cm tl tx) {v : Int32} (hv : inn v 2 ∧ ik v.toNatClampNeg = true) : IC (mBack M ik v) Rf t b T (I v.toNatClampNeg) lat 0 P I ik cn ch cm tl tx := by
  obtain ⟨⟨a1, a2, a3, a4, a5, a6, a7, a8, a9⟩, h2, ⟨p1, p2, p3, p4, p5⟩, h4, h5, h6⟩ := h
  have t2 : T 2 ≤ 6 := a4.2.2.1
  obtain ⟨k1, k2⟩ := inn_clamp hv.1 (by decide)
  unfold mBack
  rw [if_pos hv]
  have ne : ∀ z, z ≠ 0 → (z < 28 ∨ 31 < z) → st2 (bcmM M 28 (88 + 4 * v.toNatClampNeg)) 0 7 0 z = M z := fun z g1 g2 => by rw [st2_ne _ _ _ g1, bcmM_ne _ _ _ (by omega)]
  have n0 : ∀ j, j ≠ 7 → st2 (bcmM M 28 (88 + 4 * v.toNatClampNeg)) 0 7 0 0 j = M 0 j := fun j g => by rw [st2_ne2 _ _ (by omega), bcmM_ne _ _ _ (by omega)]
  have q := h4.2 _ k2 hv.2
  refine ⟨⟨a1, a2, a3, a4, a5.kept (fun z g1 g2 => ne z (by omega) (by omega)), ?_, ?_, q.2, a9⟩, h2, ⟨p1, by omega, by rw [n0 6 (by decide)]; exact p3, by rw [st2_row, if_pos rfl]; rfl, fun i hi => by omega⟩, h4.kept (ne 38 (by decide) (by omega)) (fun z g1 g2 => ne z (by omega) (by omega)), h5.kept (n0 12 (by decide)) (ne 39 (by decide) (by omega)) (ne 40 (by decide) (by omega)), txM_kept h6 (by rw [ne 1 (by decide) (by omega)]) (ne 2 (by decide) (by omega))⟩
  · intro q hq; rw [ne (t + 11) (by omega) (by omega)]; exact a6 q hq
  · exact (bcm_now t2 q.1).kept (fun z g1 g2 => by rw [st2_ne _ _ _ (by omega)])
theorem IM.back (h : IM M Rf b T S pk P I ik cn ch cm tl tx) {v : Int32} (hv : inn v 2 ∧ ik v.toNatClampNeg = true) (os : okS (I v.toNatClampNeg) (T 2) b) : IM (bakM M ik v) Rf b T (I v.toNatClampNeg) 0 P I ik cn ch cm tl tx := by
  obtain ⟨⟨a1, a2, a3, a4, a5, a6, a7⟩, h2, h3, h4, h5, h6⟩ := h
  obtain ⟨k1, k2⟩ := inn_clamp hv.1 (by decide)
  unfold bakM
  rw [if_pos hv]
  have ne : ∀ z, z ≠ 96 → z ≠ 100 → st2 (rowM M 100 21 (fun j => M 102 (21 * v.toNatClampNeg + j))) 96 7 0 z = M z := fun z g1 g2 => by rw [st2_ne _ _ _ g1]; funext j; rw [rowM_ne _ _ _ g2]
  have n96 : ∀ j, j ≠ 7 → st2 (rowM M 100 21 (fun j => M 102 (21 * v.toNatClampNeg + j))) 96 7 0 96 j = M 96 j := fun j g => by rw [st2_ne2 _ _ (by omega), rowM_ne _ _ _ (by decide)]
  refine ⟨⟨a1, a2, a3, a4.kept (ne 98 (by decide) (by decide)), fun k hk => ?_, os, a7⟩, h2.kept (fun j g1 g2 => n96 j (by omega)), ⟨by rw [st2_row, if_pos rfl]; rfl, fun i hi => by omega⟩, h4.kept (ne 102 (by decide) (by decide)) (ne 103 (by decide) (by decide)), h5.kept (n96 11 (by decide)) (ne 104 (by decide) (by decide)), txN_kept h6 (n96 2 (by decide)) (ne 97 (by decide) (by decide))⟩
  rw [st2_ne _ _ _ (by decide), rowM_in _ _ _ hk]
  exact h4.2 _ k2 hv.2 k hk
/-! a city told anew -/
theorem bgT_at (T : Nat → Nat) (k : Nat) : bgT T k = if 3 ≤ k ∧ k < 9 then T (17 + k) else 0 := rfl
theorem bgT_ok (ht : okT T) : okS (bgT T) (T 2) 0 := by
  obtain ⟨-, -, t2, -, -, h6, -⟩ := ht
  refine ⟨Nat.le_refl _, (by decide : 0 < 8), Nat.le_refl _, fun i hi => ⟨?_, ?_, ?_⟩⟩
  · rw [bgT_at, if_pos (by omega), show 17 + (3 + i) = 20 + i by omega]; exact (h6 i hi).2.1
  · rw [bgT_at, if_neg (by omega)]; omega
  · rw [bgT_at, if_neg (by omega)]; exact Nat.le_refl _
theorem RX.sw {sp : Nat} (h : RX Rf t) : RX (swR Rf t sp) sp := by
  obtain ⟨a0, a1, a3, a4, a5, a8, a9, a10, a11, a13, a14, a15, b1, c1, c2, d1, d2, d3, e1, e2⟩ := h
  have o : ∀ z j, ¬ (z = 0 ∧ (j = 1 ∨ j = 2)) → swR Rf t sp z j = Rf z j := fun z j g => sw_o g
  refine ⟨by rw [o 0 0 (by decide)]; exact a0, ?_, by rw [o 0 3 (by decide)]; exact a3, by rw [o 0 4 (by decide)]; exact a4, by rw [o 0 5 (by decide)]; exact a5, by rw [o 0 8 (by decide)]; exact a8, by rw [o 0 9 (by decide)]; exact a9, by rw [o 0 10 (by decide)]; exact a10, by rw [o 0 11 (by decide)]; exact a11, by rw [o 0 13 (by decide)]; exact a13, by rw [o 0 14 (by decide)]; exact a14, by rw [o 0 15 (by decide)]; exact a15, fun a ha => ?_, ?_, ?_, fun i hi => by rw [o 36 i (by omega)]; exact d1 i hi, fun i hi => by rw [o 37 i (by omega)]; exact d2 i hi, fun i hi => by rw [o 42 i (by omega)]; exact d3 i hi, by rw [o 1 0 (by decide)]; exact e1, by rw [o 1 6 (by decide)]; exact e2⟩
  · unfold swR; rw [st2_ne2 _ _ (by decide), st2_row, if_pos rfl]
  · have hm := now_mod ha
    have g := b1 a ha
    unfold RNi at g ⊢
    rw [o a 3 (by omega), o a 4 (by omega), o a 5 (by omega)]
    exact g
  · unfold RCi at c1 ⊢
    rw [o 4 3 (by decide), o 4 4 (by decide), o 4 6 (by decide), o 4 7 (by decide), o 4 8 (by decide), o 4 9 (by decide), o 4 11 (by decide), o 4 12 (by decide), o 4 13 (by decide), o 4 14 (by decide), o 4 15 (by decide)]
    exact c1
  · unfold RCi at c2 ⊢
    rw [o 16 3 (by decide), o 16 4 (by decide), o 16 6 (by decide), o 16 7 (by decide), o 16 8 (by decide), o 16 9 (by decide), o 16 11 (by decide), o 16 12 (by decide), o 16 13 (by decide), o 16 14 (by decide), o 16 15 (by decide)]
    exact c2
theorem IC.fault (h : IC M Rf t b T S lat pk P I ik cn ch cm tl tx) (f : frR (20 - t) M M') (f2 : txM M' tl tx) : IC M' Rf t b T S lat pk P I ik cn ch cm tl tx := by
  obtain ⟨⟨a1, a2, a3, a4, a5, a6, a7, a8, a9⟩, h2, h3, h4, h5, h6⟩ := h
  have ne : ∀ z, z ≠ 1 → z ≠ 3 → (z < 20 - t ∨ 20 - t + 12 ≤ z) → M' z = M z := f
  refine ⟨⟨a1, a2, a3, a4, a5.kept (fun z g1 g2 => ne z (by omega) (by omega) (by omega)), ?_, a7.kept (fun z g1 g2 => ne z (by omega) (by omega) (by omega)), a8, a9⟩, h2, h3.kept (fun j _ => by rw [ne 0 (by decide) (by decide) (by omega)]) (fun z g1 g2 => ne z (by omega) (by omega) (by omega)), h4.kept (ne 38 (by decide) (by decide) (by omega)) (fun z g1 g2 => ne z (by omega) (by omega) (by omega)), h5.kept (by rw [ne 0 (by decide) (by decide) (by omega)]) (ne 39 (by decide) (by decide) (by omega)) (ne 40 (by decide) (by decide) (by omega)), f2⟩
  intro q hq; rw [ne (t + 11) (by omega) (by omega) (by omega)]; exact a6 q hq
theorem IC.told (h : IC M Rf t b T S lat pk P I ik cn ch cm tl tx) {T' : Nat → Nat} (ok : okT T') (c1 : cyT M' (20 - t) T') (c2 : cyR M' (20 - t) T') (n28 : nwS M' 28 (bgT T') (T' 2)) (e1 : M' 1 1 = 0) (e7 : M' 0 7 = 0) (e12 : M' 0 12 = 0) (e380 : M' 38 0 = 0) (e381 : M' 38 1 = 0) (e6 : M' 0 6 = M 0 6) : IC M' (swR Rf t (20 - t)) (20 - t) b T' (bgT T') lat 0 P I (fun _ => false) 0 ch cm 0 tx := by
  obtain ⟨⟨a1, a2, a3, a4, a5, a6, a7, a8, a9⟩, h2, ⟨p1, p2, p3, p4, p5⟩, h4, h5, h6⟩ := h
  refine ⟨⟨a1.sw, by omega, a3, ok, c1, c2, n28, (bgT_ok ok).up (by omega), a9⟩, ?_, ⟨p1, by omega, by rw [e6]; exact p3, by rw [e7]; rfl, fun i hi => by omega⟩, ⟨fun i hi => ?_, fun i hi hk => by cases hk⟩, ⟨by rw [e12]; rfl, by omega, fun i hi => by omega⟩, ⟨by omega, by rw [e1]; rfl, fun i hi => by omega⟩⟩
  · unfold swR
    rw [st2_row, if_pos rfl]
    congr 1
    omega
  · match i, hi with
    | 0, _ => exact e380
    | 1, _ => exact e381
theorem RM.sw {sp : Nat} (h : RM Rf) : RM (swR Rf t sp) := by
  have o : ∀ j, swR Rf t sp 96 j = Rf 96 j := fun j => sw_o (by omega)
  unfold RM at h ⊢
  simp only [o]
  exact h
theorem IM.sw {sp : Nat} (h : IM M Rf b T S pk P I ik cn ch cm tl tx) : IM M (swR Rf t sp) b T S pk P I ik cn ch cm tl tx := ⟨⟨h.1.1.sw, h.1.2⟩, h.2⟩
theorem IM.fault (h : IM M Rf b T S pk P I ik cn ch cm tl tx) (f : frK M M') : IM M' Rf b T S pk P I ik cn ch cm tl tx := h.keep2 (h.2.1.kept (fun j g _ => f.2 j (by omega))) (fun z g1 g2 g3 => f.1 z (by omega) g2) (fun j hj => f.2 j (by omega))
theorem IM.told (h : IM M Rf b T S pk P I ik cn ch cm tl tx) {T' : Nat → Nat} (ok : okT T') {M2 : HM} (f : frK M M2) (hm : mR M2 99 56 T') : IM (st2 (tlM M2) 96 2 0) Rf b T' (bgT T') 0 P I (fun _ => false) 0 ch cm 0 tx := by
  obtain ⟨⟨a1, a2, a3, a4, a5, a6, a7⟩, h2, h3, h4, h5, h6⟩ := h
  obtain ⟨o1, o2, o3, o4⟩ := tlM_o M2
  have ne : ∀ z, z ≠ 96 → st2 (tlM M2) 96 2 0 z = tlM M2 z := fun z g => st2_ne _ _ _ g
  have n96 : ∀ j, j ≠ 2 → st2 (tlM M2) 96 2 0 96 j = tlM M2 96 j := fun j g => st2_ne2 _ _ (by omega)
  refine ⟨⟨a1, a2, ok, (tlM_98 hm).kept (ne 98 (by decide)), (tlM_100 hm).kept (ne 100 (by decide)), (bgT_ok ok).up (by omega), a7⟩, h2.kept (fun j g1 g2 => by rw [n96 j (by omega), tlM_96 _ (by omega) (by omega), f.2 j (by omega)]), ⟨by rw [n96 7 (by decide), o1]; rfl, fun i hi => by omega⟩, ⟨fun i hi => ?_, fun i hi hk => by cases hk⟩, ⟨by rw [n96 11 (by decide), o2]; rfl, fun i hi => by omega⟩, ⟨by omega, by rw [st2_row, if_pos rfl]; rfl, fun i hi => by omega⟩⟩
  rw [ne 103 (by decide)]
  match i, hi with
  | 0, _ => exact o3
  | 1, _ => exact o4
end M45
