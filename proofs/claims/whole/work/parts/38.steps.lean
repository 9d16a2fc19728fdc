-- ===== what is done, undone, kept, and told anew, on both sides =====
section REL2
variable {L : Nat → Nat} {len nb1 : Nat} {w1 v1 w v : Nat → Nat} {n k : Nat} {M : MoT} {P : Nat → MoT} {q kn : Nat} {el fd : Nat → Nat} {m : Nat} {I : Nat → MoT} {kk : Nat → Nat} {tr : Nat} {tx to s pa im ke no : Nat → Nat} {tr2 ty kn2 nd : Nat}
theorem st_same {r1 r2 : Int} {h : HI} {S pa' : Nat → Nat} {k' : Nat} (R : REL L len nb1 w1 v1 w v n k M P q kn el fd m I kk tr tx to s pa im ke no tr2 ty kn2 nd) (h1 : r1 = r2) (h2 : h = (M, P, q, kn)) (h3 : S = s ∧ pa' = pa ∧ k' = kn2) : r1 = r2 ∧ REL L len nb1 w1 v1 w v n k h.1 h.2.1 h.2.2.1 h.2.2.2 el fd m I kk tr tx to S pa' im ke no tr2 ty k' nd := by
  obtain ⟨rfl, rfl, rfl⟩ := h3
  subst h2
  exact ⟨h1, R⟩
theorem st_walks {p d r1 r2 : Int} {h : HI} {S pa' : Nat → Nat} {k' : Nat} (R : REL L len nb1 w1 v1 w v n k M P q kn el fd m I kk tr tx to s pa im ke no tr2 ty kn2 nd) (h1 : (r1, h) = spWalks n w (M, P, q, kn) p d)
    (h2 : ((p < 0 ∨ (to 0 : Int) ≤ p ∨ d < 0 ∨ 3 < d) ∧ r2 = -1 ∧ S = s ∧ pa' = pa ∧ k' = kn2) ∨ ((0 ≤ p ∧ p < (to 0 : Int) ∧ 0 ≤ d ∧ d < 4) ∧ nb (s p.toNat) d.toNat < 0 ∧ r2 = -2 ∧ S = s ∧ pa' = pa ∧ k' = kn2) ∨ ((0 ≤ p ∧ p < (to 0 : Int) ∧ 0 ≤ d ∧ d < 4) ∧ 0 ≤ nb (s p.toNat) d.toNat ∧ KP s pa kn2 pa' k' ∧ r2 = (prR to (va_up s p.toNat (nb (s p.toNat) d.toNat).toNat) p.toNat : Nat) ∧ S = prS to (va_up s p.toNat (nb (s p.toNat) d.toNat).toNat) p.toNat d.toNat)) : r1 = r2 ∧ REL L len nb1 w1 v1 w v n k h.1 h.2.1 h.2.2.1 h.2.2.2 el fd m I kk tr tx to S pa' im ke no tr2 ty k' nd := by
  have hn := R.2.1.1
  have hw := R.2.1.2.2.2.1
  have hM := R.2.2.1
  rw [← hn.1] at h2
  unfold spWalks at h1
  dsimp only at h1
  rcases h2 with ⟨e, c1, c2⟩ | ⟨e, e2, c1, c2⟩ | ⟨e, e2, c0, c1, c2⟩
  · rw [if_neg (by omega), Prod.mk.injEq] at h1
    exact st_same R (by rw [h1.1, c1]) h1.2 c2
  · rw [hM.1 p.toNat (by omega)] at e2
    rw [if_pos e, if_pos e2, Prod.mk.injEq] at h1
    exact st_same R (by rw [h1.1, c1]) h1.2 c2
  · rw [hM.1 p.toNat (by omega)] at e2 c1 c2
    rw [if_pos e, if_neg (by omega), Prod.mk.injEq] at h1
    have hb := nb_le (d := d.toNat) (hM.2.2.2.1 p.toNat)
    have hw1 := hw p.toNat (by omega)
    have h3 := RM_prt (p := p.toNat) (d := d.toNat) (k := w p.toNat) (RM_move (x := (nb (M.1 p.toNat) d.toNat).toNat) hM (show p.toNat < 5 by omega) (by omega)) (by omega) (by omega) hw1.1 hw1.2.2
    have e3 : va_up M.1 p.toNat (nb (M.1 p.toNat) d.toNat).toNat p.toNat = (nb (M.1 p.toNat) d.toNat).toNat := by simp only [va_up]; rw [if_pos trivial]
    dsimp only at h3
    rw [e3] at h3
    refine ⟨?_, R.push ?_ c0 h1.2⟩
    · rw [h1.1, c1, h3.2]
    · rw [c2]
      exact h3.1
theorem st_stands {p d r1 r2 : Int} {h : HI} {S pa' : Nat → Nat} {k' : Nat} (R : REL L len nb1 w1 v1 w v n k M P q kn el fd m I kk tr tx to s pa im ke no tr2 ty kn2 nd) (h1 : (r1, h) = spStands n w (M, P, q, kn) p d)
    (h2 : ((p < 0 ∨ (to 0 : Int) ≤ p ∨ d < 0 ∨ 3 < d) ∧ r2 = -1 ∧ S = s ∧ pa' = pa ∧ k' = kn2) ∨ ((0 ≤ p ∧ p < (to 0 : Int) ∧ 0 ≤ d ∧ d < 4) ∧ KP s pa kn2 pa' k' ∧ r2 = (prR to s p.toNat : Nat) ∧ S = prS to s p.toNat d.toNat)) : r1 = r2 ∧ REL L len nb1 w1 v1 w v n k h.1 h.2.1 h.2.2.1 h.2.2.2 el fd m I kk tr tx to S pa' im ke no tr2 ty k' nd := by
  have hn := R.2.1.1
  have hw := R.2.1.2.2.2.1
  have hM := R.2.2.1
  rw [← hn.1] at h2
  unfold spStands at h1
  dsimp only at h1
  rcases h2 with ⟨e, c1, c2⟩ | ⟨e, c0, c1, c2⟩
  · rw [if_neg (by omega), Prod.mk.injEq] at h1
    exact st_same R (by rw [h1.1, c1]) h1.2 c2
  · rw [if_pos e, Prod.mk.injEq] at h1
    have hw1 := hw p.toNat (by omega)
    have h3 := RM_prt (p := p.toNat) (d := d.toNat) (k := w p.toNat) hM (show p.toNat < 5 by omega) (by omega) hw1.1 hw1.2.2
    refine ⟨?_, R.push ?_ c0 h1.2⟩
    · rw [h1.1, c1, h3.2]
    · rw [c2]
      exact h3.1
theorem st_rains {r1 : Int} {r2 : Nat} {h : HI} {S pa' : Nat → Nat} {k' : Nat} (R : REL L len nb1 w1 v1 w v n k M P q kn el fd m I kk tr tx to s pa im ke no tr2 ty kn2 nd) (h1 : (r1, h) = spRains k (M, P, q, kn))
    (h2 : KP s pa kn2 pa' k' ∧ r2 = cntS (fun c => s (5 + c) % 16) (to 1) 36 ∧ rnS to s S 36) : r1 = (r2 : Int) ∧ REL L len nb1 w1 v1 w v n k h.1 h.2.1 h.2.2.1 h.2.2.2 el fd m I kk tr tx to S pa' im ke no tr2 ty k' nd := by
  have hn := R.2.1.1
  have hM := R.2.2.1
  unfold spRains at h1
  rw [Prod.mk.injEq] at h1
  refine ⟨?_, R.push (RM_rain hM h2.2.2 hn.2.1 hn.2.2.2.1) h2.1 h1.2⟩
  rw [h1.1, h2.2.1, ← hn.2.1, cntS_c k 36 R.dep]
theorem st_lifts {x y r1 r2 : Int} {h : HI} {S pa' : Nat → Nat} {k' : Nat} (R : REL L len nb1 w1 v1 w v n k M P q kn el fd m I kk tr tx to s pa im ke no tr2 ty kn2 nd) (h1 : (r1, h) = spLifts (M, P, q, kn) x y)
    (h2 : ((x < 0 ∨ 4 < x ∨ y < 0 ∨ 4 < y) ∧ r2 = -1 ∧ S = s ∧ pa' = pa ∧ k' = kn2) ∨ ((0 ≤ x ∧ x < 5 ∧ 0 ≤ y ∧ y < 5) ∧ tray (fun c => s (5 + c) % 16) (6 * x.toNat + y.toNat) = 0 ∧ r2 = -2 ∧ S = s ∧ pa' = pa ∧ k' = kn2) ∨ ((0 ≤ x ∧ x < 5 ∧ 0 ≤ y ∧ y < 5) ∧ ¬ tray (fun c => s (5 + c) % 16) (6 * x.toNat + y.toNat) = 0 ∧ KP s pa kn2 pa' k' ∧ r2 = (tray (fun c => s (5 + c) % 16) (6 * x.toNat + y.toNat) : Nat) ∧ S = lfS s (6 * x.toNat + y.toNat) (tray (fun c => s (5 + c) % 16) (6 * x.toNat + y.toNat)))) : r1 = r2 ∧ REL L len nb1 w1 v1 w v n k h.1 h.2.1 h.2.2.1 h.2.2.2 el fd m I kk tr tx to S pa' im ke no tr2 ty k' nd := by
  have hM := R.2.2.1
  have hd := R.dep
  have ht : (0 ≤ x ∧ x < 5 ∧ 0 ≤ y ∧ y < 5) → tray (fun c => s (5 + c) % 16) (6 * x.toNat + y.toNat) = tray M.2.1 (6 * x.toNat + y.toNat) := fun e => by
    simp only [tray]
    rw [hd _ (by omega), hd (6 * x.toNat + y.toNat + 1) (by omega), hd (6 * x.toNat + y.toNat + 6) (by omega), hd (6 * x.toNat + y.toNat + 7) (by omega)]
  unfold spLifts at h1
  dsimp only at h1
  rcases h2 with ⟨e, c1, c2⟩ | ⟨e, e2, c1, c2⟩ | ⟨e, e2, c0, c1, c2⟩
  · rw [if_neg (by omega), Prod.mk.injEq] at h1
    exact st_same R (by rw [h1.1, c1]) h1.2 c2
  · rw [ht e] at e2
    rw [if_pos e, if_pos e2, Prod.mk.injEq] at h1
    exact st_same R (by rw [h1.1, c1]) h1.2 c2
  · rw [ht e] at e2 c1 c2
    rw [if_pos e, if_neg e2, Prod.mk.injEq] at h1
    refine ⟨by rw [h1.1, c1], R.push ?_ c0 h1.2⟩
    rw [c2]
    exact RM_lift hM (by omega) rfl
theorem st_votes {ln r1 r2 : Int} {h : HI} {S pa' : Nat → Nat} {k' : Nat} (R : REL L len nb1 w1 v1 w v n k M P q kn el fd m I kk tr tx to s pa im ke no tr2 ty kn2 nd) (h1 : (r1, h) = spVotes n v (M, P, q, kn) ln)
    (h2 : ((ln < 0 ∨ 5 < ln) ∧ r2 = -1 ∧ S = s ∧ pa' = pa ∧ k' = kn2) ∨ ((0 ≤ ln ∧ ln < 6) ∧ KP s pa kn2 pa' k' ∧ ∃ eV : Nat, eV = (if vAg s (fun j => to (9 + j)) ln.toNat (to 0) < vFor s (fun j => to (9 + j)) ln.toNat (to 0) then 1 else 0) ∧ r2 = (eV : Int) ∧ S = va_up (va_up s 42 (s 42 + 1)) 43 (s 43 + eV))) : r1 = r2 ∧ REL L len nb1 w1 v1 w v n k h.1 h.2.1 h.2.2.1 h.2.2.2 el fd m I kk tr tx to S pa' im ke no tr2 ty k' nd := by
  have hn := R.2.1.1
  have hw := R.2.1.2.2.2.1
  have hM := R.2.2.1
  rw [← hn.1] at h2
  have hc : ∀ j, j < n → s j = M.1 j ∧ (fun j => to (9 + j)) j = v j := fun j hj => ⟨hM.1 j (by omega), (hw j hj).2.1.symm⟩
  rw [vAg_c _ n hc, vFor_c _ n hc] at h2
  unfold spVotes at h1
  dsimp only at h1
  rcases h2 with ⟨e, c1, c2⟩ | ⟨e, c0, eV, c1, c2, c3⟩
  · rw [if_neg (by omega), Prod.mk.injEq] at h1
    exact st_same R (by rw [h1.1, c1]) h1.2 c2
  · rw [if_pos e] at h1
    have h3 := RM_vote (e := eV) hM
    by_cases f : vAg M.1 v ln.toNat n < vFor M.1 v ln.toNat n
    · rw [if_pos f] at c1
      rw [if_pos f, Prod.mk.injEq] at h1
      subst c1
      refine ⟨by rw [h1.1, c2]; rfl, R.push (by rw [c3]; exact h3) c0 h1.2⟩
    · rw [if_neg f] at c1
      rw [if_neg f, Prod.mk.injEq] at h1
      subst c1
      refine ⟨by rw [h1.1, c2]; rfl, R.push (by rw [c3]; exact h3) c0 h1.2⟩
theorem st_undo {r1 r2 : Int} {h : HI} {S : Nat → Nat} {k' : Nat} (R : REL L len nb1 w1 v1 w v n k M P q kn el fd m I kk tr tx to s pa im ke no tr2 ty kn2 nd) (h1 : (r1, h) = spUndo (M, P, q, kn))
    (h2 : (kn2 = 0 ∧ r2 = -2 ∧ S = s ∧ k' = kn2) ∨ (0 < kn2 ∧ r2 = (kn2 - 1 : Nat) ∧ k' = kn2 - 1 ∧ ∀ j, j < 44 → S j = pa (44 * (kn2 - 1) + j))) : r1 = r2 ∧ REL L len nb1 w1 v1 w v n k h.1 h.2.1 h.2.2.1 h.2.2.2 el fd m I kk tr tx to S pa im ke no tr2 ty k' nd := by
  have hkn := R.2.2.2.1.1
  unfold spUndo at h1
  dsimp only at h1
  rcases h2 with ⟨e, c1, c2, c3⟩ | ⟨e, c1, c2, c3⟩
  · rw [if_pos (by omega), Prod.mk.injEq] at h1
    exact st_same R (by rw [h1.1, c1]) h1.2 ⟨c2, rfl, c3⟩
  · rw [if_neg (by omega), Prod.mk.injEq] at h1
    obtain ⟨a1, a2, a3, ⟨rfl, a4⟩, a5⟩ := R
    have h3 := RK_pop a4 e c3
    obtain ⟨h1, rfl⟩ := h1
    exact ⟨by rw [h1, c1], a1, a2, h3.1, ⟨c2.symm, h3.2⟩, a5⟩
theorem st_keep {x r1 r2 : Int} {I' : Nat → MoT} {kk' im' ke' : Nat → Nat} (R : REL L len nb1 w1 v1 w v n k M P q kn el fd m I kk tr tx to s pa im ke no tr2 ty kn2 nd) (h1 : (r1, I', kk') = spKeep I kk M x)
    (h2 : ((x < 0 ∨ 1 < x) ∧ r2 = -1 ∧ im' = im ∧ ke' = ke) ∨ ((0 ≤ x ∧ x < 2) ∧ r2 = (s 41 : Nat) ∧ (∀ j, j < 44 → im' (44 * x.toNat + j) = s j) ∧ (∀ j, j < 44 → im' (44 * (1 - x.toNat) + j) = im (44 * (1 - x.toNat) + j)) ∧ ke' = va_up ke x.toNat 1)) : r1 = r2 ∧ REL L len nb1 w1 v1 w v n k M P q kn el fd m I' kk' tr tx to s pa im' ke' no tr2 ty kn2 nd := by
  obtain ⟨a1, a2, a3, a4, a5, ⟨b1, b2, b3⟩, a7⟩ := R
  unfold spKeep at h1
  rcases h2 with ⟨e, c1, rfl, rfl⟩ | ⟨e, c1, c2, c3, c4⟩
  · rw [if_neg (by omega), Prod.mk.injEq, Prod.mk.injEq] at h1
    obtain ⟨h1, rfl, rfl⟩ := h1
    exact ⟨by rw [h1, c1], a1, a2, a3, a4, a5, ⟨b1, b2, b3⟩, a7⟩
  · rw [if_pos e, Prod.mk.injEq, Prod.mk.injEq] at h1
    obtain ⟨h1, rfl, rfl⟩ := h1
    have hx : x.toNat < 2 := by omega
    refine ⟨by rw [h1, c1, a3.2.2.1.1], a1, a2, a3, a4, a5, ⟨va_up_all (Q := fun x => x ≤ 1) b1 (by omega), ?_, fun y hy hk => ?_⟩, a7⟩
    · rw [c4]
      simp only [va_up]
      rw [b2.1, b2.2]
      exact ⟨rfl, rfl⟩
    · by_cases f : y = x.toNat
      · subst f
        simp only [va_up]
        rw [if_pos trivial]
        exact RM_c (fun j hj => (c2 j hj).symm) a3
      · simp only [va_up] at hk ⊢
        rw [if_neg f] at hk ⊢
        have e2 : y = 1 - x.toNat := by omega
        refine RM_c (fun j hj => ?_) (b3 y hy hk)
        have := c3 j hj
        rw [← e2] at this
        exact this.symm
theorem st_back {x r1 r2 : Int} {M' : MoT} {kn' : Nat} {S : Nat → Nat} {k' : Nat} (R : REL L len nb1 w1 v1 w v n k M P q kn el fd m I kk tr tx to s pa im ke no tr2 ty kn2 nd) (h1 : (r1, M', kn') = spBack I kk M kn x)
    (h2 : ((x < 0 ∨ 1 < x) ∧ r2 = -1 ∧ S = s ∧ k' = kn2) ∨ ((0 ≤ x ∧ x < 2) ∧ ke x.toNat = 0 ∧ r2 = -2 ∧ S = s ∧ k' = kn2) ∨ ((0 ≤ x ∧ x < 2) ∧ ¬ ke x.toNat = 0 ∧ r2 = (im (44 * x.toNat + 41) : Nat) ∧ (∀ j, j < 44 → S j = im (44 * x.toNat + j)) ∧ k' = 0)) : r1 = r2 ∧ REL L len nb1 w1 v1 w v n k M' P q kn' el fd m I kk tr tx to S pa im ke no tr2 ty k' nd := by
  obtain ⟨a1, a2, a3, ⟨a4, a8⟩, a5, ⟨b1, b2, b3⟩, a7⟩ := R
  have hke : (0 ≤ x ∧ x < 2) → kk x.toNat = ke x.toNat := fun e => by
    rcases (show x.toNat = 0 ∨ x.toNat = 1 by omega) with f | f
    · rw [f]; exact b2.1
    · rw [f]; exact b2.2
  unfold spBack at h1
  rcases h2 with ⟨e, c1, rfl, rfl⟩ | ⟨e, e2, c1, rfl, rfl⟩ | ⟨e, e2, c1, c2, rfl⟩
  · rw [if_neg (by omega), Prod.mk.injEq, Prod.mk.injEq] at h1
    obtain ⟨h1, rfl, rfl⟩ := h1
    exact ⟨by rw [h1, c1], a1, a2, a3, ⟨a4, a8⟩, a5, ⟨b1, b2, b3⟩, a7⟩
  · rw [if_pos e, hke e, if_pos e2, Prod.mk.injEq, Prod.mk.injEq] at h1
    obtain ⟨h1, rfl, rfl⟩ := h1
    exact ⟨by rw [h1, c1], a1, a2, a3, ⟨a4, a8⟩, a5, ⟨b1, b2, b3⟩, a7⟩
  · rw [if_pos e, hke e, if_neg e2, Prod.mk.injEq, Prod.mk.injEq] at h1
    obtain ⟨h1, rfl, rfl⟩ := h1
    have h3 := b3 x.toNat (by omega) (by rw [hke e]; exact e2)
    have e3 : im (44 * x.toNat + 41) = (I x.toNat).2.2.2.1 := h3.2.2.1.1
    refine ⟨by rw [h1, c1, e3], a1, a2, RM_c (fun j hj => (c2 j hj).symm) h3, ⟨rfl, a8.1, by omega, fun i hi => absurd hi (Nat.not_lt_zero i)⟩, a5, ⟨b1, b2, b3⟩, a7⟩
theorem RM_told {D B : Nat → Nat} {T : PS} (h : PSM D B T) (hb : PB T) : RM (T.2.2.2.2.2.1, T.2.2.2.2.2.2, fun _ => -9, 0, 0, 0) B := by
  obtain ⟨h0, h1, h3, hw, hb1, hc, hz1, hz⟩ := h
  obtain ⟨g1, g2, g3, g4, g5, g6⟩ := hb
  refine ⟨hb1, fun c hc2 => ?_, ⟨hz 41 (by omega) (by omega), hz 42 (by omega) (by omega), hz 43 (by omega) (by omega)⟩, g4, g5, by show 0 ≤ 999; omega⟩
  rw [hc c hc2]
  have := g5 c
  refine ⟨by show T.2.2.2.2.2.2 c % 16 = T.2.2.2.2.2.2 c; omega, by omega, fun _ => by omega, ?_⟩
  unfold toeV
  rw [if_pos (by omega)]
theorem RW_told {D B : Nat → Nat} {T : PS} (h : PSM D B T) (hb : PB T) : RW1 T.1 T.2.1 T.2.2.1 T.2.2.2.1 D := by
  obtain ⟨h0, h1, h3, hw, hb1, hc, hz1, hz⟩ := h
  obtain ⟨g1, g2, g3, g4, g5, g6⟩ := hb
  refine ⟨⟨h0.symm, h1.symm, g2, g3.1, g3.2⟩, fun j => (g1 j).1, fun j => (g1 j).2, fun j hj => ⟨(hw j hj).1.symm, (hw j hj).2.symm, g6 j hj⟩, fun j hj => ?_, fun j hj => ?_⟩
  · rcases Nat.lt_or_ge j T.2.2.1 with z | z
    · rw [(hw j z).1]; exact (g1 j).1
    · rw [(hz1 j z hj).2.1]; omega
  · rcases Nat.lt_or_ge j T.2.2.1 with z | z
    · rw [(hw j z).2]; exact (g1 j).2
    · rw [(hz1 j z hj).2.2]; omega
end REL2
