section M46
variable {M M' : HM} {Rf : HR} {Lg : HL} {t b : Nat} {T S : Nat → Nat} {lat pk : Nat} {P I : Nat → Nat → Nat} {ik : Nat → Bool} {cn tl : Nat} {ch cm tx : Nat → Nat}
/-- class and reference hold the same state, b calls behind them -/
def INV (b : Nat) (M : HM) (Rf : HR) (Lg : HL) : Prop := ∃ (t : Nat) (T S : Nat → Nat) (lat pk : Nat) (P I : Nat → Nat → Nat) (ik : Nat → Bool) (cn : Nat) (ch cm : Nat → Nat) (tl : Nat) (tx : Nat → Nat), IC M Rf t b T S lat pk P I ik cn ch cm tl tx ∧ IM M Rf b T S pk P I ik cn ch cm tl tx ∧ Lg 0 16 = Lg 96 0
theorem INV_mk {b' : Nat} (ic : IC M Rf t b T S lat pk P I ik cn ch cm tl tx) (im : IM M Rf b T S pk P I ik cn ch cm tl tx) (hb : b ≤ b') (hb2 : b' ≤ 1000) (hl : Lg 0 16 = Lg 96 0) : INV b' M Rf Lg := ⟨_, _, _, _, _, _, _, _, _, _, _, _, _, ic.up hb hb2, im.up hb hb2, hl⟩
theorem hld_keep (h : IM M Rf b T S pk P I ik cn ch cm tl tx) : IM (hldM M) Rf b T S pk P I ik cn ch cm tl tx := h.keep2 (h.2.1.kept (fun j _ _ => by rw [hld_ne _ (by decide)])) (fun z g1 g2 g3 => hld_ne _ (by omega)) (fun j _ => by rw [hld_ne _ (by decide)])
theorem inM_ne (v : Int32) {z : Nat} (h : z ≠ 105) : inM M v z = M z := by
  unfold inM; split
  · exact hld_ne _ h
  · rfl
theorem in_keep (h : IM M Rf b T S pk P I ik cn ch cm tl tx) (v : Int32) : IM (inM M v) Rf b T S pk P I ik cn ch cm tl tx := by
  unfold inM; split
  · exact hld_keep h
  · exact h
theorem drM_ne (T : Nat → Nat) (v : Int32) {z : Nat} (h : z ≠ 96) : drM M T v z = M z := by
  unfold drM; split
  · exact st2_ne _ _ _ h
  · rfl
theorem dr_keep (h : IM M Rf b T S pk P I ik cn ch cm tl tx) (v : Int32) : IM (drM M T v) Rf b T S pk P I ik cn ch cm tl tx := by
  unfold drM
  by_cases c : inn v (T 0)
  · rw [if_pos c]
    obtain ⟨dl, m1, m2, m3, m4, m5, m6, m7⟩ := h.2.1
    exact h.keep2 ⟨9, by rw [st2_ne2 _ _ (by omega)]; exact m1, m2, by rw [st2_ne2 _ _ (by omega)]; exact m3, by rw [st2_ne2 _ _ (by omega)]; exact m4, by rw [st2_ne2 _ _ (by omega)]; exact m5, by rw [st2_row, if_pos rfl], by decide⟩ (fun z g1 g2 g3 => st2_ne _ _ _ (by omega)) (fun j hj => st2_ne2 _ _ (by omega))
  · rw [if_neg c]; exact h
theorem seek_keep (h : IM M Rf b T S pk P I ik cn ch cm tl tx) (f : frS M M') (hm : mR M' 100 21 S) : IM M' Rf b T S pk P I ik cn ch cm tl tx := by
  obtain ⟨⟨a1, a2, a3, a4, a5, a6, a7⟩, h2, h3, h4, h5, h6⟩ := h
  have ne : ∀ z, z ≠ 96 → z ≠ 100 → z < 106 → M' z = M z := fun z g1 g2 g3 => f.1 z g1 g2 (by omega) (by omega) (by omega)
  exact ⟨⟨a1, a2, a3, a4.kept (ne 98 (by decide) (by decide) (by decide)), hm, a6, a7⟩, h2.kept (fun j _ _ => f.2 j (by omega)), h3.kept (f.2 7 (by decide)) (ne 101 (by decide) (by decide) (by decide)), h4.kept (ne 102 (by decide) (by decide) (by decide)) (ne 103 (by decide) (by decide) (by decide)), h5.kept (f.2 11 (by decide)) (ne 104 (by decide) (by decide) (by decide)), txN_kept h6 (f.2 2 (by decide)) (ne 97 (by decide) (by decide) (by decide))⟩
theorem mCalls_ne (v w : Int32) {z : Nat} (h : 96 ≤ z) : mCalls T M lat pk v w z = M z := by
  unfold mCalls; split
  · rw [st2_ne _ _ _ (by omega), rmbM_ne _ _ _ (by omega) (by omega)]
  · rfl
theorem nCalls_ne (v w : Int32) {z : Nat} (h : z < 96) : nCalls T M pk v w z = M z := by
  unfold nCalls; split
  · rw [st2_ne _ _ _ (by omega), kpM_ne _ _ (by omega) (by omega)]
  · rfl
theorem INV_calls (ic : IC M Rf t b T S lat pk P I ik cn ch cm tl tx) (im : IM M Rf b T S pk P I ik cn ch cm tl tx) (hb : b + 1 ≤ 1000) (hl : Lg 0 16 = Lg 96 0) (v w : Int32) : INV (b + 1) (nCalls T (mCalls T M lat pk v w) pk v w) Rf Lg := by
  have hp : pk ≤ 10 := ic.2.2.1.2.1
  have im1 : IM (mCalls T M lat pk v w) Rf b T S pk P I ik cn ch cm tl tx := im.over (fun z hz => mCalls_ne _ _ hz)
  by_cases c : inn v (T 2) ∧ inn w 256
  · have e1 : mCalls T M lat pk v w = st2 (rmbM M lat pk) 30 v.toNatClampNeg w := if_pos c
    have ic2 : IC (mCalls T M lat pk v w) Rf t b T (clS S v w) ((lat + 1) % 10) (min (pk + 1) 10) (psh S P) I ik cn ch cm tl tx := by rw [e1]; exact ic.rmb.callS c.1 c.2
    have e2 : nCalls T (mCalls T M lat pk v w) pk v w = st2 (kpM (mCalls T M lat pk v w) pk) 100 (9 + v.toNatClampNeg) w := if_pos c
    have im2 : IM (nCalls T (mCalls T M lat pk v w) pk v w) Rf b T (clS S v w) (min (pk + 1) 10) (psh S P) I ik cn ch cm tl tx := by rw [e2]; exact (im1.kp hp).callS c.1 c.2
    exact INV_mk (ic2.over (fun z hz => nCalls_ne _ _ hz)) im2 (by omega) hb hl
  · have e1 : mCalls T M lat pk v w = M := if_neg c
    have e2 : nCalls T (mCalls T M lat pk v w) pk v w = mCalls T M lat pk v w := if_neg c
    rw [e2, e1]
    exact INV_mk ic im (by omega) hb hl
theorem INV_hour (ic : IC M Rf t b T S lat pk P I ik cn ch cm tl tx) (im : IM M Rf b T S pk P I ik cn ch cm tl tx) (hb : b + 1 ≤ 99) (hl : Lg 0 16 = Lg 96 0) (dl : Nat) : INV (b + 1) (nHour T S (mHour T S M lat pk) pk dl (-9) (-9) (-9)) Rf Lg ∧ (if S 0 = 99 then -2 else nI (mSl T S 63 (-9) (-9) (-9) dl (calN T S))) = aHour T S := by
  have hp : pk ≤ 10 := ic.2.2.1.2.1
  have s0 : S 0 ≤ b := ic.1.2.2.2.2.2.2.2.1.1
  have t2 : T 2 ≤ 6 := ic.1.2.2.2.1.2.2.1
  have ew : mSl T S 63 (-9) (-9) (-9) dl (calN T S) = wA T S (-1) := mSl_wA ic.1.2.2.2.1 (fun i hi => by
    have k : ∀ i, i < 6 → (nI i = (-9 : Int32) ↔ nI i = (-1 : Int32)) := by decide
    exact k i (by omega))
  have e1 : mHour T S M lat pk = passM (rmbM M lat pk) 28 (wA T S (-1)) (T 2) (T 1) := if_pos (by omega)
  have e2 : nHour T S (mHour T S M lat pk) pk dl (-9) (-9) (-9) = goM (kpM (mHour T S M lat pk) pk) T S (wA T S (-1)) := by
    unfold nHour; rw [if_neg (by omega), ew]
  have im1 : IM (mHour T S M lat pk) Rf b T S pk P I ik cn ch cm tl tx := im.over (fun z hz => by rw [e1, passM_ne _ _ _ _ _ (by omega), rmbM_ne _ _ _ (by omega) (by omega)])
  have ic2 : IC (mHour T S M lat pk) Rf t (b + 1) T (stepS T S (wA T S (-1))) ((lat + 1) % 10) (min (pk + 1) 10) (psh S P) I ik cn ch cm tl tx := by rw [e1]; exact ic.rmb.pass (by omega) _
  have im2 : IM (nHour T S (mHour T S M lat pk) pk dl (-9) (-9) (-9)) Rf (b + 1) T (stepS T S (wA T S (-1))) (min (pk + 1) 10) (psh S P) I ik cn ch cm tl tx := by rw [e2]; exact (im1.kp hp).go (by omega) _
  refine ⟨INV_mk (ic2.over (fun z hz => by rw [e2, goM_ne _ _ _ _ (by omega), kpM_ne _ _ (by omega) (by omega)])) im2 (Nat.le_refl _) (by omega) hl, ?_⟩
  unfold aHour
  rw [if_neg (by omega), if_pos (by omega), ew]
theorem mUndo_ne (lat pk : Nat) {z : Nat} (h : 96 ≤ z) : mUndo M lat pk z = M z := by
  unfold mUndo; split
  · rfl
  · rw [st2_ne _ _ _ (by omega), st2_ne _ _ _ (by omega), bcmM_ne _ _ _ (by omega)]
theorem unM_ne (pk : Nat) {z : Nat} (h : z < 96) : unM M pk z = M z := by
  unfold unM; split
  · rfl
  · funext j; rw [rowM_ne _ _ _ (by omega), st2_ne _ _ _ (by omega)]
theorem INV_undo (ic : IC M Rf t b T S lat pk P I ik cn ch cm tl tx) (im : IM M Rf b T S pk P I ik cn ch cm tl tx) (hb : b + 1 ≤ 1000) (hl : Lg 0 16 = Lg 96 0) : INV (b + 1) (unM (mUndo M lat pk) pk) Rf Lg := by
  have im1 : IM (mUndo M lat pk) Rf b T S pk P I ik cn ch cm tl tx := im.over (fun z hz => mUndo_ne _ _ hz)
  by_cases c : pk = 0
  · have e1 : mUndo M lat pk = M := if_pos c
    have e2 : unM (mUndo M lat pk) pk = mUndo M lat pk := if_pos c
    rw [e2, e1]
    exact INV_mk ic im (by omega) hb hl
  · exact INV_mk ((ic.undo c).over (fun z hz => unM_ne _ hz)) (im1.undo c (ic.2.2.1.2.2.2.2 0 (by omega)).2) (by omega) hb hl
theorem mKeep_ne (v : Int32) {z : Nat} (h : 96 ≤ z) : mKeep M v z = M z := by
  unfold mKeep; split
  · rename_i c
    obtain ⟨k1, k2⟩ := inn_clamp c (by decide)
    rw [st2_ne _ _ _ (by omega), bcmM_ne _ _ _ (by omega)]
  · rfl
theorem kepM_ne (v : Int32) {z : Nat} (h : z < 96) : kepM M v z = M z := by
  unfold kepM; split
  · rw [st2_ne _ _ _ (by omega)]; funext j; rw [blkM_ne _ _ _ _ (by omega)]
  · rfl
theorem INV_keep (ic : IC M Rf t b T S lat pk P I ik cn ch cm tl tx) (im : IM M Rf b T S pk P I ik cn ch cm tl tx) (hb : b + 1 ≤ 1000) (hl : Lg 0 16 = Lg 96 0) (v : Int32) : INV (b + 1) (kepM (mKeep M v) v) Rf Lg := by
  have im1 : IM (mKeep M v) Rf b T S pk P I ik cn ch cm tl tx := im.over (fun z hz => mKeep_ne _ hz)
  by_cases c : inn v 2
  · exact INV_mk ((ic.keep c).over (fun z hz => kepM_ne _ hz)) (im1.keep c) (by omega) hb hl
  · have e1 : mKeep M v = M := if_neg c
    have e2 : kepM (mKeep M v) v = mKeep M v := if_neg c
    rw [e2, e1]
    exact INV_mk ic im (by omega) hb hl
theorem mBack_ne (v : Int32) {z : Nat} (h : 96 ≤ z) : mBack M ik v z = M z := by
  unfold mBack; split
  · rw [st2_ne _ _ _ (by omega), bcmM_ne _ _ _ (by omega)]
  · rfl
theorem bakM_ne (v : Int32) {z : Nat} (h : z < 96) : bakM M ik v z = M z := by
  unfold bakM; split
  · rw [st2_ne _ _ _ (by omega)]; funext j; rw [rowM_ne _ _ _ (by omega)]
  · rfl
theorem INV_back (ic : IC M Rf t b T S lat pk P I ik cn ch cm tl tx) (im : IM M Rf b T S pk P I ik cn ch cm tl tx) (hb : b + 1 ≤ 1000) (hl : Lg 0 16 = Lg 96 0) (v : Int32) : INV (b + 1) (bakM (mBack M ik v) ik v) Rf Lg := by
  have im1 : IM (mBack M ik v) Rf b T S pk P I ik cn ch cm tl tx := im.over (fun z hz => mBack_ne _ hz)
  by_cases c : inn v 2 ∧ ik v.toNatClampNeg = true
  · exact INV_mk ((ic.back c).over (fun z hz => bakM_ne _ hz)) (im1.back c (ic.2.2.2.1.2 _ (inn_clamp c.1 (by decide)).2 c.2).2) (by omega) hb hl
  · have e1 : mBack M ik v = M := if_neg c
    have e2 : bakM (mBack M ik v) ik v = mBack M ik v := if_neg c
    rw [e2, e1]
    exact INV_mk ic im (by omega) hb hl
theorem sp_of (h : t = 4 ∨ t = 16) : 20 - t = 4 ∨ 20 - t = 16 := by omega
end M46
