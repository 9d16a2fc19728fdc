-- ===== what both sides say is the same: bounds, functions told only where they count =====
def PB (ps : PS) : Prop := (∀ j, ps.1 j ≤ 4 ∧ ps.2.1 j ≤ 9) ∧ ps.2.2.1 ≤ 5 ∧ (1 ≤ ps.2.2.2.1 ∧ ps.2.2.2.1 ≤ 9) ∧ (∀ j, ps.2.2.2.2.2.1 j < 36) ∧ (∀ j, ps.2.2.2.2.2.2 j ≤ 9) ∧ (∀ j, j < ps.2.2.1 → 1 ≤ ps.1 j)
theorem va_up_all {Q : Nat → Prop} {f : Nat → Nat} {i x : Nat} (h : ∀ j, Q (f j)) (hx : Q x) : ∀ j, Q (va_up f i x j) := fun j => by
  simp only [va_up]
  split
  · exact hx
  · exact h j
theorem rdN_bnd {T : Nat → Nat} {len : Nat} : ∀ (rs : List (Nat × Nat)) (p : Nat) (z : List Nat × Nat), rdN T len rs p = .inr z → ∀ (i : Nat) (r : Nat × Nat), rs[i]? = some r → r.1 ≤ z.1.getD i 0 ∧ z.1.getD i 0 ≤ r.2
  | [], p, z, h, i, r, hr => by simp at hr
  | (lo, hi) :: rs, p, z, h, i, r, hr => by
    simp only [rdN] at h
    split at h
    · rename_i hc
      cases hq : rdN T len rs (tokf T len p).2.1 with
      | inl q =>
        rw [hq] at h
        cases h
      | inr y =>
        rw [hq] at h
        have e := Sum.inr.inj h
        subst e
        cases i with
        | zero =>
          have e2 : (lo, hi) = r := by simpa using hr
          subst e2
          exact ⟨hc.2.1, hc.2.2⟩
        | succ i => exact rdN_bnd rs _ y hq i r (by simpa using hr)
    · cases h
theorem item_bnd {T : Nat → Nat} {len kd p ts : Nat} {ps : PS} {z : PS × Nat} (hp : PB ps) (h : itemf T len kd ps p ts = .inr z) : PB z.1 := by
  obtain ⟨h1, h2, h3, h4, h5, h6⟩ := hp
  unfold itemf at h
  split at h
  · split at h
    · rename_i hn
      cases hq : rdN T len rgP p with
      | inl q =>
        rw [hq] at h
        cases h
      | inr y =>
        rw [hq] at h
        have e := Sum.inr.inj h
        subst e
        have b0 := rdN_bnd _ _ _ hq 0 (0, 5) rfl
        have b1 := rdN_bnd _ _ _ hq 1 (0, 5) rfl
        have b2 := rdN_bnd _ _ _ hq 2 (1, 4) rfl
        have b3 := rdN_bnd _ _ _ hq 3 (0, 9) rfl
        dsimp only at b0 b1 b2 b3
        refine ⟨fun j => ⟨va_up_all (Q := fun x => x ≤ 4) (fun j => (h1 j).1) b2.2 j, va_up_all (Q := fun x => x ≤ 9) (fun j => (h1 j).2) b3.2 j⟩, ?_, h3, fun j => va_up_all (Q := fun x => x < 36) h4 (by omega) j, h5, fun j hj => ?_⟩
        · show ps.2.2.1 + 1 ≤ 5
          omega
        · have hj' : j < ps.2.2.1 + 1 := hj
          show 1 ≤ va_up ps.1 ps.2.2.1 _ j
          simp only [va_up]
          split
          · exact b2.1
          · exact h6 j (by omega)
    · cases h
  · split at h
    · split at h
      · cases hq : rdN T len rgS p with
        | inl q =>
          rw [hq] at h
          cases h
        | inr y =>
          rw [hq] at h
          have e := Sum.inr.inj h
          subst e
          have b0 := rdN_bnd _ _ _ hq 0 (1, 9) rfl
          exact ⟨h1, h2, b0, h4, h5, h6⟩
      · cases h
    · split at h
      · cases hq : rdN T len rgF p with
        | inl q =>
          rw [hq] at h
          cases h
        | inr y =>
          rw [hq] at h
          have e := Sum.inr.inj h
          subst e
          have b2 := rdN_bnd _ _ _ hq 2 (0, 9) rfl
          exact ⟨h1, h2, h3, h4, fun j => va_up_all (Q := fun x => x ≤ 9) h5 b2.2 j, h6⟩
      · cases h
theorem prs_bnd {T : Nat → Nat} {len : Nat} : ∀ (f it : Nat) (ps : PS) (p : Nat) (z : Nat × PS), PB ps → prs T len f it ps p = .inr z → PB z.2
  | 0, it, ps, p, z, hp, h => by
    simp only [prs] at h
    cases h
  | f + 1, it, ps, p, z, hp, h => by
    simp only [prs] at h
    split at h
    · have e := Sum.inr.inj h
      subst e
      exact hp
    · cases hq : itemf T len (tokf T len p).2.2.1 ps (tokf T len p).2.1 (tokf T len p).1 with
      | inl q =>
        rw [hq] at h
        cases h
      | inr y =>
        rw [hq] at h
        exact prs_bnd f (it + 1) y.1 y.2 z (item_bnd hp hq) h
theorem PB_0 {w v : Nat → Nat} (h : ∀ j, w j ≤ 4 ∧ v j ≤ 9) : PB (w, v, 0, 1, 0, fun _ => 0, fun _ => 0) := ⟨h, by show 0 ≤ 5; omega, by show 1 ≤ 1 ∧ 1 ≤ 9; omega, fun _ => by show 0 < 36; omega, fun _ => by show 0 ≤ 9; omega, fun j hj => absurd hj (Nat.not_lt_zero j)⟩
-- congruences
theorem clr_c {d d' : Nat → Nat} (hd : ∀ c, c < 36 → d c = d' c) {x y w : Nat} (hx : x + w ≤ 6) (hy : y + w ≤ 6) (h : clr d x y w) : clr d' x y w := fun i j h1 h2 h3 h4 => by
  rw [← hd _ (by omega)]
  exact h i j h1 h2 h3 h4
theorem sq_c {d d' : Nat → Nat} (hd : ∀ c, c < 36 → d c = d' c) {w : Nat} (h : sq d w) : sq d' w := by
  obtain ⟨x, y, h1, h2, h3⟩ := h
  exact ⟨x, y, h1, h2, clr_c hd h1 h2 h3⟩
theorem wid_c {d d' : Nat → Nat} (hd : ∀ c, c < 36 → d c = d' c) {w : Nat} (h : wid d w) : wid d' w := ⟨h.1, h.2.1.imp id (sq_c hd), fun w' a b c => h.2.2 w' a b (sq_c (fun c h => (hd c h).symm) c)⟩
theorem wid_u {d : Nat → Nat} {w w' : Nat} (h : wid d w) (h' : wid d w') : w = w' := by
  rcases Nat.lt_trichotomy w w' with z | z | z
  · exact absurd (h'.2.1.resolve_left (by omega)) (h.2.2 w' z h'.1)
  · exact z
  · exact absurd (h.2.1.resolve_left (by omega)) (h'.2.2 w z h.1)
theorem csq_c {d d' : Nat → Nat} (hd : ∀ c, c < 36 → d c = d' c) {w : Nat} {z : Int} (h : csq d w z) : csq d' w z := by
  have hd' : ∀ c, c < 36 → d' c = d c := fun c h => (hd c h).symm
  rcases h with ⟨h1, h2⟩ | ⟨h1, x, y, h2, h3, h4, h5, h6⟩
  · exact Or.inl ⟨h1, h2.imp id (fun z s => z (sq_c hd' s))⟩
  · exact Or.inr ⟨h1, x, y, h2, h3, clr_c hd h2 h3 h4, h5, fun x' y' a b c => h6 x' y' a b (clr_c hd' a b c)⟩
theorem csq_u {d : Nat → Nat} {w : Nat} {z z' : Int} (h : csq d w z) (h' : csq d w z') : z = z' := by
  rcases h with ⟨h1, h2⟩ | ⟨h1, x, y, h2, h3, h4, h5, h6⟩ <;> rcases h' with ⟨g1, g2⟩ | ⟨g1, x', y', g2, g3, g4, g5, g6⟩
  · rw [h1, g1]
  · rcases h2 with h2 | h2
    · omega
    · exact absurd ⟨x', y', g2, g3, g4⟩ h2
  · rcases g2 with g2 | g2
    · omega
    · exact absurd ⟨x, y, h2, h3, h4⟩ g2
  · have a := h6 x' y' g2 g3 g4
    have b := g6 x y h2 h3 h4
    omega
theorem rch_c {de de' : Nat → Nat} {fr : Nat} (hd : ∀ c, c < 36 → de c = de' c) : ∀ d c, rch de fr d c → rch de' fr d c
  | 0, _, h => h
  | d + 1, c, ⟨h1, h2, a, sd, h3, h4, h5, h6⟩ => ⟨h1, by rw [← hd c h1]; exact h2, a, sd, h3, h4, rch_c hd d a h5, h6⟩
theorem isD_c {de de' : Nat → Nat} {fr : Nat} {S : Nat → Int} (hd : ∀ c, c < 36 → de c = de' c) (h : isD de fr S) : isD de' fr S := fun c hc => by
  have hd' : ∀ c, c < 36 → de' c = de c := fun c h => (hd c h).symm
  rcases h c hc with ⟨h1, h2⟩ | ⟨h1, h2, h3⟩
  · exact Or.inl ⟨h1, fun d z => h2 d (rch_c hd' d c z)⟩
  · exact Or.inr ⟨h1, rch_c hd _ c h2, fun d z => h3 d (rch_c hd' d c z)⟩
theorem isD_u {de : Nat → Nat} {fr : Nat} {S S' : Nat → Int} (h : isD de fr S) (h' : isD de fr S') {c : Nat} (hc : c < 36) : S c = S' c := by
  rcases h c hc with ⟨h1, h2⟩ | ⟨h1, h2, h3⟩ <;> rcases h' c hc with ⟨g1, g2⟩ | ⟨g1, g2, g3⟩
  · rw [h1, g1]
  · exact absurd g2 (h2 _)
  · exact absurd h2 (g2 _)
  · have a := h3 _ g2
    have b := g3 _ h2
    omega
theorem bSum_c {f f' : Nat → Nat} (s : Nat) : ∀ n, (∀ j, j < n → f j = f' j) → bSum f s n = bSum f' s n
  | 0, _ => rfl
  | n + 1, h => by simp only [bSum]; rw [bSum_c s n (fun j hj => h j (by omega)), h n (by omega)]
theorem pAt_c {wh wh' : Nat → Nat} (c : Nat) : ∀ n, (∀ j, j < n → wh j = wh' j) → pAt wh c n = pAt wh' c n
  | 0, _ => rfl
  | n + 1, h => by simp only [pAt]; rw [pAt_c c n (fun j hj => h j (by omega)), h n (by omega)]
theorem vFor_c {wh wh' v v' : Nat → Nat} (l : Nat) : ∀ n, (∀ j, j < n → wh j = wh' j ∧ v j = v' j) → vFor wh v l n = vFor wh' v' l n
  | 0, _ => rfl
  | n + 1, h => by simp only [vFor]; rw [vFor_c l n (fun j hj => h j (by omega)), (h n (by omega)).1, (h n (by omega)).2]
theorem vAg_c {wh wh' v v' : Nat → Nat} (l : Nat) : ∀ n, (∀ j, j < n → wh j = wh' j ∧ v j = v' j) → vAg wh v l n = vAg wh' v' l n
  | 0, _ => rfl
  | n + 1, h => by simp only [vAg]; rw [vAg_c l n (fun j hj => h j (by omega)), (h n (by omega)).1, (h n (by omega)).2]
theorem lns_c {wh wh' v v' : Nat → Nat} {n : Nat} (h : ∀ j, j < n → wh j = wh' j ∧ v j = v' j) : ∀ k, lns wh v n k = lns wh' v' n k
  | 0 => rfl
  | k + 1 => by simp only [lns]; rw [lns_c h k, vFor_c k n h, vAg_c k n h]
theorem dSum_c {d d' : Nat → Nat} : ∀ k, (∀ c, c < k → d c = d' c) → dSum d k = dSum d' k
  | 0, _ => rfl
  | k + 1, h => by simp only [dSum]; rw [dSum_c k (fun j hj => h j (by omega)), h k (by omega)]
theorem cntS_c {d d' : Nat → Nat} (m : Nat) : ∀ k, (∀ c, c < k → d c = d' c) → cntS d m k = cntS d' m k
  | 0, _ => rfl
  | k + 1, h => by simp only [cntS]; rw [cntS_c m k (fun j hj => h j (by omega)), h k (by omega)]
theorem powN_c {v v' : Nat → Nat} {n p q : Nat} (h : ∀ j, j < n → v j = v' j) (hp : p < n) : ∀ s, powN v n p q s = powN v' n p q s
  | 0 => rfl
  | s + 1 => by simp only [powN]; rw [powN_c h hp s, bSum_c s n h, h p hp]
theorem spPower_c {v v' : Nat → Nat} {n : Nat} (h : ∀ j, j < n → v j = v' j) (p q : Int) : spPower v n p q = spPower v' n p q := by
  unfold spPower
  by_cases e : 0 ≤ p ∧ p < (n : Int) ∧ 1 ≤ q ∧ q ≤ 45
  · rw [if_pos e, if_pos e, powN_c h (by omega)]
  · rw [if_neg e, if_neg e]
theorem trT_c {d d' : Nat → Nat} (hd : ∀ c, c < 36 → d c = d' c) {t : Nat} (ht : t < 25) : trT d t = trT d' t := by
  simp only [trT, tray]
  rw [hd _ (by omega), hd (6 * (t / 5) + t % 5 + 1) (by omega), hd (6 * (t / 5) + t % 5 + 6) (by omega), hd (6 * (t / 5) + t % 5 + 7) (by omega)]
theorem tvM_c {T T' : Nat → Nat} {k t b : Nat} (h : t < k → T b = T' b) : tvM k t T b = tvM k t T' b := by
  unfold tvM
  split
  · rename_i e
    exact h e
  · rfl
theorem mBest_c {T T' : Nat → Nat} (hT : ∀ t, t < 25 → T t = T' t) (k i : Int) : mBest T k i = mBest T' k i := by
  have h3 : ∀ (k : Nat) (a b c : Nat) (X : Int × Int), a < 25 → (1 < k → b < 25) → (2 < k → c < 25) → stM T k i a b c X = stM T' k i a b c X := fun k a b c X ha hb hc => by
    unfold stM sumM
    rw [hT a ha, tvM_c (fun e => hT b (hb e)), tvM_c (fun e => hT c (hc e))]
  have h2 : ∀ (k : Nat) (a b : Nat) (X : Int × Int), a < 25 → (1 < k → b < 25) → mC T k i a b X = mC T' k i a b X := fun k a b X ha hb => by
    have g1 := hiM_c k 2
    have g2 := loM_c k 2 b
    unfold mC
    refine lpU_rel (R := fun x y => x = y) (N := hiM k 2 + (loM k 2 b - hiM k 2)) (fun c x y hc e => ?_) _ _ _ _ (by omega) rfl
    subst e
    refine h3 k a b c x ha hb (fun e => ?_)
    have := hb (by omega)
    omega
  have h1 : ∀ (k : Nat) (a : Nat) (X : Int × Int), a < 25 → mB T k i a X = mB T' k i a X := fun k a X ha => by
    have g1 := hiM_c k 1
    have g2 := loM_c k 1 a
    unfold mB
    refine lpU_rel (R := fun x y => x = y) (N := hiM k 1) (fun c x y hc e => ?_) _ _ _ _ (by omega) rfl
    subst e
    exact h2 k a c x ha (fun e => by omega)
  have h0 : ∀ k : Nat, mA T k i = mA T' k i := fun k => by
    unfold mA
    refine lpU_rel (R := fun x y => x = y) (N := 25) (fun c x y hc e => ?_) _ _ _ _ (by omega) rfl
    subst e
    exact h1 k c x hc
  unfold mBest
  rw [h0]
theorem fitF_c {w w' : Nat → Nat} {n : Nat} {el el' fd fd' : Nat → Nat} {m s : Nat} (hw : ∀ j, j < n → w j = w' j) (he : ∀ j, j < m → el j = el' j ∧ fd j = fd' j) (h : fitF w n el fd m s) : fitF w' n el' fd' m s := fun j hj => by
  have := h j hj
  rw [bSum_c _ n hw, (he j hj).1, (he j hj).2] at this
  exact this
theorem fitB_c {w w' : Nat → Nat} {n : Nat} {el el' fd fd' : Nat → Nat} {m s : Nat} (hw : ∀ j, j < n → w j = w' j) (he : ∀ j, j < m → el j = el' j ∧ fd j = fd' j) : fitB w n el fd m s = fitB w' n el' fd' m s := by
  rw [Bool.eq_iff_iff, fitB_iff, fitB_iff]
  exact ⟨fitF_c hw he, fitF_c (fun j hj => (hw j hj).symm) (fun j hj => ⟨(he j hj).1.symm, (he j hj).2.symm⟩)⟩
theorem canN_c {w w' : Nat → Nat} {n : Nat} {el el' fd fd' : Nat → Nat} {m : Nat} (hw : ∀ j, j < n → w j = w' j) (he : ∀ j, j < m → el j = el' j ∧ fd j = fd' j) (b : Nat) : ∀ s, canN w n el fd m b s = canN w' n el' fd' m b s
  | 0 => rfl
  | s + 1 => by simp only [canN]; rw [canN_c hw he b s, fitB_c hw he]
theorem inAll_c {w w' : Nat → Nat} {n : Nat} {el el' fd fd' : Nat → Nat} {m : Nat} (hw : ∀ j, j < n → w j = w' j) (he : ∀ j, j < m → el j = el' j ∧ fd j = fd' j) : ∀ s, inAll w n el fd m s = inAll w' n el' fd' m s
  | 0 => rfl
  | s + 1 => by simp only [inAll]; rw [inAll_c hw he s, fitB_c hw he]
theorem inSome_c {w w' : Nat → Nat} {n : Nat} {el el' fd fd' : Nat → Nat} {m : Nat} (hw : ∀ j, j < n → w j = w' j) (he : ∀ j, j < m → el j = el' j ∧ fd j = fd' j) : ∀ s, inSome w n el fd m s = inSome w' n el' fd' m s
  | 0 => rfl
  | s + 1 => by simp only [inSome]; rw [inSome_c hw he s, fitB_c hw he]
-- sets that can be
section SETS
variable {w : Nat → Nat} {n : Nat} {el fd : Nat → Nat} {m : Nat}
theorem pw_bit (e p : Nat) : e &&& 2 ^ p = 2 ^ p ↔ e.testBit p = true := by
  rw [and_pw, bit_iff]
  simp
theorem canN_pos (b : Nat) : ∀ s, 0 < canN w n el fd m b s ↔ ∃ e, e < s ∧ e &&& b = b ∧ fitB w n el fd m e = true
  | 0 => by simp [canN]
  | s + 1 => by
    have h := canN_pos b s
    simp only [canN]
    by_cases c : s &&& b = b ∧ fitB w n el fd m s = true
    · rw [if_pos c]
      exact ⟨fun _ => ⟨s, by omega, c⟩, fun _ => by omega⟩
    · rw [if_neg c, Nat.add_zero, h]
      constructor
      · rintro ⟨e, h1, h2⟩
        exact ⟨e, by omega, h2⟩
      · rintro ⟨e, h1, h2⟩
        by_cases g : e = s
        · subst g
          exact absurd h2 c
        · exact ⟨e, by omega, h2⟩
theorem canN_all (b : Nat) : ∀ s, canN w n el fd m b s = canN w n el fd m 0 s ↔ ∀ e, e < s → fitB w n el fd m e = true → e &&& b = b
  | 0 => by simp [canN]
  | s + 1 => by
    have h := canN_all b s
    have hl := (canN_le w n el fd m b s).1
    have z0 : s &&& 0 = 0 := Nat.and_zero s
    simp only [canN]
    by_cases f : fitB w n el fd m s = true
    · rw [if_pos (show s &&& 0 = 0 ∧ fitB w n el fd m s = true from ⟨z0, f⟩)]
      by_cases c : s &&& b = b
      · rw [if_pos ⟨c, f⟩]
        constructor
        · intro g e he hf
          by_cases q : e = s
          · rw [q]; exact c
          · exact h.mp (by omega) e (by omega) hf
        · intro g
          have := h.mpr (fun e he hf => g e (by omega) hf)
          omega
      · rw [if_neg (fun z => c z.1)]
        constructor
        · intro g
          omega
        · intro g
          exact absurd (g s (by omega) f) c
    · rw [if_neg (fun z => f z.2), if_neg (fun z => f z.2), Nat.add_zero, Nat.add_zero, h]
      constructor
      · intro g e he hf
        by_cases q : e = s
        · rw [q] at hf; exact absurd hf f
        · exact g e (by omega) hf
      · intro g e he hf
        exact g e (by omega) hf
theorem bit_big {e n p : Nat} (h : e < 2 ^ n) (hp : n ≤ p) : e.testBit p = false := Nat.testBit_lt_two_pow (Nat.lt_of_lt_of_le h (Nat.pow_le_pow_right (by decide) hp))
theorem inSome_bit (p : Nat) : ∀ s, (inSome w n el fd m s).testBit p = true ↔ ∃ e, e < s ∧ fitB w n el fd m e = true ∧ e.testBit p = true
  | 0 => by simp [inSome]
  | s + 1 => by
    have h := inSome_bit p s
    simp only [inSome]
    by_cases f : fitB w n el fd m s = true
    · rw [if_pos f, Nat.testBit_or, Bool.or_eq_true, h]
      constructor
      · rintro (⟨e, h1, h2⟩ | h1)
        · exact ⟨e, by omega, h2⟩
        · exact ⟨s, by omega, f, h1⟩
      · rintro ⟨e, h1, h2, h3⟩
        by_cases q : e = s
        · rw [q] at h3; exact Or.inr h3
        · exact Or.inl ⟨e, by omega, h2, h3⟩
    · rw [if_neg f, h]
      constructor
      · rintro ⟨e, h1, h2⟩
        exact ⟨e, by omega, h2⟩
      · rintro ⟨e, h1, h2, h3⟩
        by_cases q : e = s
        · rw [q] at h2; exact absurd h2 f
        · exact ⟨e, by omega, h2, h3⟩
theorem inSome_orS : inSome w n el fd m (2 ^ n) = orS (fun p => 0 < canN w n el fd m (2 ^ p) (2 ^ n)) n := by
  apply Nat.eq_of_testBit_eq
  intro j
  rw [orS_bit, Bool.eq_iff_iff, inSome_bit]
  simp only [decide_eq_true_eq]
  rw [canN_pos]
  constructor
  · rintro ⟨e, h1, h2, h3⟩
    refine ⟨?_, e, h1, (pw_bit e j).mpr h3, h2⟩
    rcases Nat.lt_or_ge j n with z | z
    · exact z
    · rw [bit_big h1 z] at h3
      cases h3
  · rintro ⟨-, e, h1, h2, h3⟩
    exact ⟨e, h1, h3, (pw_bit e j).mp h2⟩
theorem inAll_spec : ∀ s, ((∀ e, e < s → ¬ fitB w n el fd m e = true) ∧ inAll w n el fd m s = -9) ∨ ((∃ e, e < s ∧ fitB w n el fd m e = true) ∧ 0 ≤ inAll w n el fd m s ∧ ∀ p, (inAll w n el fd m s).toNat.testBit p = true ↔ ∀ e, e < s → fitB w n el fd m e = true → e.testBit p = true)
  | 0 => Or.inl ⟨fun e h => absurd h (Nat.not_lt_zero e), rfl⟩
  | s + 1 => by
    simp only [inAll]
    by_cases f : fitB w n el fd m s = true
    · rw [if_pos f]
      right
      refine ⟨⟨s, by omega, f⟩, ?_⟩
      rcases inAll_spec s with ⟨h1, h2⟩ | ⟨h1, h2, h3⟩
      · rw [if_pos h2]
        refine ⟨by omega, fun p => ?_⟩
        rw [Int.toNat_natCast]
        constructor
        · intro g e he hf
          by_cases q : e = s
          · rw [q]; exact g
          · exact absurd hf (h1 e (by omega))
        · intro g
          exact g s (by omega) f
      · rw [if_neg (by omega)]
        refine ⟨by omega, fun p => ?_⟩
        rw [Int.toNat_natCast, Nat.testBit_and, Bool.and_eq_true, h3]
        constructor
        · rintro ⟨g1, g2⟩ e he hf
          by_cases q : e = s
          · rw [q]; exact g2
          · exact g1 e (by omega) hf
        · intro g
          exact ⟨fun e he hf => g e (by omega) hf, g s (by omega) f⟩
    · rw [if_neg f]
      rcases inAll_spec s with ⟨h1, h2⟩ | ⟨⟨e0, h0, h1⟩, h2, h3⟩
      · refine Or.inl ⟨fun e he => ?_, h2⟩
        by_cases q : e = s
        · rw [q]; exact f
        · exact h1 e (by omega)
      · refine Or.inr ⟨⟨e0, by omega, h1⟩, h2, fun p => ?_⟩
        rw [h3]
        constructor
        · intro g e he hf
          by_cases q : e = s
          · rw [q] at hf; exact absurd hf f
          · exact g e (by omega) hf
        · intro g e he hf
          exact g e (by omega) hf
theorem inAll_orS : inAll w n el fd m (2 ^ n) = if canN w n el fd m 0 (2 ^ n) = 0 then -9 else ((orS (fun p => canN w n el fd m (2 ^ p) (2 ^ n) = canN w n el fd m 0 (2 ^ n)) n : Nat) : Int) := by
  have hp := canN_pos (w := w) (n := n) (el := el) (fd := fd) (m := m) 0 (2 ^ n)
  rcases inAll_spec (w := w) (n := n) (el := el) (fd := fd) (m := m) (2 ^ n) with ⟨h1, h2⟩ | ⟨⟨e0, h0, h1⟩, h2, h3⟩
  · rw [if_pos, h2]
    by_cases z : canN w n el fd m 0 (2 ^ n) = 0
    · exact z
    · obtain ⟨e, g1, -, g2⟩ := hp.mp (by omega)
      exact absurd g2 (h1 e g1)
  · have := hp.mpr ⟨e0, h0, Nat.and_zero _, h1⟩
    rw [if_neg (by omega)]
    have e : (inAll w n el fd m (2 ^ n)).toNat = orS (fun p => canN w n el fd m (2 ^ p) (2 ^ n) = canN w n el fd m 0 (2 ^ n)) n := by
      apply Nat.eq_of_testBit_eq
      intro j
      rw [orS_bit, Bool.eq_iff_iff, h3]
      simp only [decide_eq_true_eq]
      rw [canN_all]
      constructor
      · intro g
        refine ⟨?_, fun e he hf => (pw_bit e j).mpr (g e he hf)⟩
        rcases Nat.lt_or_ge j n with z | z
        · exact z
        · have := g e0 h0 h1
          rw [bit_big h0 z] at this
          cases this
      · rintro ⟨-, g⟩ e he hf
        exact (pw_bit e j).mp (g e he hf)
    omega
theorem canN_two : ∀ s, 2 ≤ canN w n el fd m 0 s → ∃ e1 e2, e1 < e2 ∧ e2 < s ∧ fitB w n el fd m e1 = true ∧ fitB w n el fd m e2 = true
  | 0, h => by simp [canN] at h
  | s + 1, h => by
    simp only [canN] at h
    by_cases f : fitB w n el fd m s = true
    · rw [if_pos (show s &&& 0 = 0 ∧ fitB w n el fd m s = true from ⟨Nat.and_zero s, f⟩)] at h
      obtain ⟨e, h1, -, h2⟩ := (canN_pos (w := w) (n := n) (el := el) (fd := fd) (m := m) 0 s).mp (by omega)
      exact ⟨e, s, h1, by omega, h2, f⟩
    · rw [if_neg (fun z => f z.2)] at h
      obtain ⟨e1, e2, h1, h2, h3⟩ := canN_two s h
      exact ⟨e1, e2, h1, by omega, h3⟩
theorem can_split (h : 2 ≤ canN w n el fd m 0 (2 ^ n)) : ∃ p, p < n ∧ 0 < canN w n el fd m (2 ^ p) (2 ^ n) ∧ canN w n el fd m (2 ^ p) (2 ^ n) < canN w n el fd m 0 (2 ^ n) := by
  obtain ⟨e1, e2, h1, h2, h3, h4⟩ := canN_two _ h
  have hne : ∃ p, ¬ e1.testBit p = e2.testBit p := Classical.byContradiction fun z => by
    have : e1 = e2 := Nat.eq_of_testBit_eq fun p => Classical.byContradiction fun y => z ⟨p, y⟩
    omega
  obtain ⟨p, hp⟩ := hne
  have hpn : p < n := by
    rcases Nat.lt_or_ge p n with z | z
    · exact z
    · rw [bit_big (show e1 < 2 ^ n by omega) z, bit_big h2 z] at hp
      exact absurd rfl hp
  have hl := (canN_le w n el fd m (2 ^ p) (2 ^ n)).1
  have ha := canN_all (w := w) (n := n) (el := el) (fd := fd) (m := m) (2 ^ p) (2 ^ n)
  have hq := canN_pos (w := w) (n := n) (el := el) (fd := fd) (m := m) (2 ^ p) (2 ^ n)
  refine ⟨p, hpn, ?_, ?_⟩
  · refine hq.mpr ?_
    cases b1 : e1.testBit p
    · cases b2 : e2.testBit p
      · rw [b1, b2] at hp; exact absurd rfl hp
      · exact ⟨e2, h2, (pw_bit _ _).mpr b2, h4⟩
    · exact ⟨e1, by omega, (pw_bit _ _).mpr b1, h3⟩
  · have hno : ¬ canN w n el fd m (2 ^ p) (2 ^ n) = canN w n el fd m 0 (2 ^ n) := fun z => by
      have g := ha.mp z
      have g1 := (pw_bit _ _).mp (g e1 (by omega) h3)
      have g2 := (pw_bit _ _).mp (g e2 h2 h4)
      rw [g1, g2] at hp
      exact hp rfl
    omega
theorem ask_rel {cn : Nat → Nat} {al : Nat} : ∀ p, (al ≤ (askM cn al p).1 ∧ askS cn al p = (al, -9) ∧ ∀ j, j < p → al ≤ max (cn j) (al - cn j)) ∨ (askM cn al p = askS cn al p ∧ (askS cn al p).1 < al)
  | 0 => Or.inl ⟨by simp [askM], rfl, fun j h => absurd h (Nat.not_lt_zero j)⟩
  | p + 1 => by
    simp only [askM, askS]
    rcases ask_rel (cn := cn) (al := al) p with ⟨h1, h2, h3⟩ | ⟨h1, h2⟩
    · rw [h2]
      by_cases g : max (cn p) (al - cn p) < al
      · right
        rw [if_pos (by omega), if_pos g]
        exact ⟨rfl, g⟩
      · left
        refine ⟨?_, by rw [if_neg g], fun j hj => ?_⟩
        · split
          · show al ≤ max (cn p) (al - cn p)
            omega
          · exact h1
        · by_cases q : j = p
          · rw [q]; omega
          · exact h3 j (by omega)
    · right
      rw [h1]
      refine ⟨rfl, ?_⟩
      split
      · show max (cn p) (al - cn p) < al
        omega
      · exact h2
theorem ask_same (h : 2 ≤ canN w n el fd m 0 (2 ^ n)) : (askM (fun p => canN w n el fd m (2 ^ p) (2 ^ n)) (canN w n el fd m 0 (2 ^ n)) n).2 = (askS (fun p => canN w n el fd m (2 ^ p) (2 ^ n)) (canN w n el fd m 0 (2 ^ n)) n).2 := by
  obtain ⟨p, h1, h2, h3⟩ := can_split h
  rcases ask_rel (cn := fun p => canN w n el fd m (2 ^ p) (2 ^ n)) (al := canN w n el fd m 0 (2 ^ n)) n with ⟨-, -, g⟩ | ⟨g, -⟩
  · have := g p h1
    omega
  · rw [g]
end SETS
