-- ===== a field told anew, on both sides; what the contracts ask of the relation =====
section REL3
variable {L : Nat → Nat} {len nb1 : Nat} {w1 v1 w v : Nat → Nat} {n k : Nat} {P : Nat → MoT} {q kn : Nat} {el fd : Nat → Nat} {m : Nat} {I : Nat → MoT} {kk : Nat → Nat} {tr : Nat} {tx to s pa im ke no : Nat → Nat} {tr2 ty kn2 nd : Nat} {wh de : Nat → Nat} {t : Nat → Int32} {sv vt ps : Nat}
theorem st_field {r1 r2 : Int} {w' v' wh' de' w1' v1' K' T S K2 : Nat → Nat} {n' k' sv' vt' ps' kn' m' l' x' k2' d' y' : Nat} {t' : Nat → Int32} (R : REL L len nb1 w1 v1 w v n k (wh, de, t, sv, vt, ps) P q kn el fd m I kk tr tx to s pa im ke no tr2 ty kn2 nd)
    (h1 : ((∃ itx sx, prs L len 101 0 (w1, v1, 0, 1, 0, fun _ => 0, fun _ => 0) 0 = .inr (itx, (w', v', n', k', sx, wh', de')) ∧ r1 = ((itx : Nat) : Int) ∧ t' = (fun _ => (-9)) ∧ sv' = 0 ∧ vt' = 0 ∧ ps' = 0 ∧ kn' = 0 ∧ m' = 0 ∧ (∀ j, K' j = 0) ∧ l' = 0) ∨ (∃ qx : Nat, prs L len 101 0 (w1, v1, 0, 1, 0, fun _ => 0, fun _ => 0) 0 = .inl qx ∧ r1 = -10 - (qx : Int) ∧ w' = w ∧ v' = v ∧ n' = n ∧ k' = k ∧ wh' = wh ∧ de' = de ∧ t' = t ∧ sv' = sv ∧ vt' = vt ∧ ps' = ps ∧ kn' = kn ∧ m' = m ∧ K' = kk ∧ l' = len)) ∧ x' ≤ 100 ∧ (∀ j, w1' j ≤ 4 ∧ v1' j ≤ 9))
    (h2 : (∃ (P : PS) (it : Nat) (D B : Nat → Nat), prs0 tx ty w1 v1 = .inr (it, P) ∧ PSM D B P ∧ (P.2.2.1 ≤ 5 ∧ P.2.2.2.2.1 ≤ 1 ∧ it ≤ 100) ∧ r2 = (it : Int) ∧ D 2 = it ∧ T = D ∧ S = B ∧ k2' = 0 ∧ d' = 0 ∧ y' = 0 ∧ K2 0 = 0 ∧ K2 1 = 0) ∨ (∃ q : Nat, prs0 tx ty w1 v1 = .inl q ∧ r2 = -10 - (q : Int) ∧ q ≤ 100 ∧ T = to ∧ S = s ∧ k2' = kn2 ∧ d' = nd ∧ y' = ty ∧ K2 = ke)) :
    r1 = r2 ∧ REL L l' x' w1' v1' w' v' n' k' (wh', de', t', sv', vt', ps') P q kn' el fd m' I K' tr tx T S pa im K2 no tr2 y' k2' d' := by
  obtain ⟨⟨rfl, rfl, e1, e2, e3, e4⟩, a2, a3, ⟨rfl, a4⟩, a5, a6, a7⟩ := R
  obtain ⟨h1, hx, hw⟩ := h1
  rcases h1 with ⟨itx, sx, b1, b2, b3, b4, b5, b6, b7, b8, b9, b10⟩ | ⟨qx, b1, b2, b3, b4, b5, b6, b7, b8, b9, b10, b11, b12, b13, b14, b15, b16⟩ <;> rcases h2 with ⟨T0, it, D, B, c1, c2, c3, c4, c5, c6, c7, c8, c9, c10, c11, c12⟩ | ⟨qy, c1, c2, c3, c4, c5, c6, c7, c8, c9⟩
  · have e := Sum.inr.inj (b1.symm.trans c1)
    rw [Prod.mk.injEq] at e
    obtain ⟨rfl, rfl⟩ := e
    have hb := prs_bnd _ _ _ _ _ (PB_0 e4) b1
    have g1 := RW_told c2 hb
    have g2 := RM_told c2 hb
    subst b3 b4 b5 b6 b7 b8 b10 c6 c7 c8 c9 c10
    exact ⟨by rw [b2, c4], ⟨rfl, rfl, by omega, e2, hx, hw⟩, g1, g2, ⟨rfl, a4.1, by omega, fun i hi => absurd hi (Nat.not_lt_zero i)⟩, ⟨rfl, by omega, fun j hj => absurd hj (Nat.not_lt_zero j)⟩, ⟨fun j => by rw [b9]; omega, ⟨by rw [b9, c11], by rw [b9, c12]⟩, fun x _ hx => absurd (b9 x) hx⟩, a7⟩
  · have e := b1.symm.trans c1
    cases e
  · have e := b1.symm.trans c1
    cases e
  · have e := Sum.inl.inj (b1.symm.trans c1)
    subst e
    subst b3 b4 b5 b6 b7 b8 b9 b10 b11 b12 b13 b14 b15 b16 c4 c5 c6 c7 c8 c9
    exact ⟨by rw [b2, c2], ⟨rfl, rfl, e1, e2, hx, hw⟩, a2, a3, ⟨rfl, a4⟩, a5, a6, a7⟩
theorem REL.facts1 (R : REL L len nb1 w1 v1 w v n k (wh, de, t, sv, vt, ps) P q kn el fd m I kk tr tx to s pa im ke no tr2 ty kn2 nd) :
    (len ≤ 100 ∧ (∀ j, L j < 256) ∧ nb1 ≤ 100 ∧ (∀ j, w1 j ≤ 4 ∧ v1 j ≤ 9)) ∧ (n ≤ 5 ∧ (1 ≤ k ∧ k ≤ 9) ∧ (∀ j, w j ≤ 4) ∧ (∀ j, v j ≤ 9)) ∧ ((∀ j, wh j < 36) ∧ (∀ j, de j ≤ 9) ∧ sv ≤ 999) ∧ (q < 10 ∧ kn ≤ 10) ∧ (m ≤ 6 ∧ (∀ j, j < m → el j < 32) ∧ (∀ j, j < m → fd j ≤ 9)) ∧ (∀ j, kk j ≤ 1) := by
  obtain ⟨⟨-, -, e1, e2, e3, e4⟩, ⟨⟨-, -, f1, f2⟩, f3, f4, -⟩, ⟨-, -, -, g1, g2, g3⟩, ⟨-, i1, i2, -⟩, ⟨-, j1, j2⟩, ⟨o1, -⟩, -⟩ := R
  exact ⟨⟨e1, e2, e3, e4⟩, ⟨f1, f2, f3, f4⟩, ⟨g1, g2, g3⟩, ⟨i1, i2⟩, ⟨j1, fun j hj => (j2 j hj).2.2.1, fun j hj => (j2 j hj).2.2.2⟩, o1⟩
theorem REL.facts2 (R : REL L len nb1 w1 v1 w v n k (wh, de, t, sv, vt, ps) P q kn el fd m I kk tr tx to s pa im ke no tr2 ty kn2 nd) :
    (ty ≤ 100 ∧ (∀ j, tx j < 256)) ∧ (to 0 ≤ 5 ∧ (1 ≤ to 1 ∧ to 1 ≤ 9) ∧ (∀ j, j < 5 → to (4 + j) ≤ 4) ∧ (∀ j, j < 5 → to (9 + j) ≤ 9)) ∧ ((∀ j, j < 5 → s j < 36) ∧ (∀ c, c < 36 → s (5 + c) < 80 ∧ s (5 + c) % 16 ≤ 9) ∧ s 41 ≤ 999) ∧ kn2 ≤ 10 ∧ (nd ≤ 6 ∧ (∀ j, j < nd → no j / 16 < 32 ∧ no j % 16 ≤ 9)) ∧ (ke 0 ≤ 1 ∧ ke 1 ≤ 1) := by
  obtain ⟨⟨rfl, rfl, e1, e2, e3, e4⟩, ⟨⟨rfl, rfl, f1, f2⟩, f3, f4, f5, f6, f7⟩, ⟨g4, g5, g6, g1, g2, g3⟩, ⟨rfl, i1, i2, -⟩, ⟨rfl, j1, j2⟩, ⟨o1, o2, -⟩, -⟩ := R
  refine ⟨⟨e1, e2⟩, ⟨f1, f2, f6, f7⟩, ⟨fun j hj => by rw [g4 j hj]; exact g1 j, fun c hc => ?_, by rw [g6.1]; exact g3⟩, i2, ⟨j1, fun j hj => ?_⟩, ?_⟩
  · have h := g5 c hc
    have h2 := g2 c
    exact ⟨h.2.1, by rw [h.1]; exact h2⟩
  · have h := j2 j hj
    rw [← h.1, ← h.2.1]
    exact ⟨h.2.2.1, h.2.2.2⟩
  · rw [← o2.1, ← o2.2]
    exact ⟨o1 0, o1 1⟩
end REL3
-- ===== the law's rows =====
def SC (C : Cx) (b L : Nat) (xs : Nat → Int32) : Prop := va_X b L xs (Cs C) (Cs C).heap ∧ b < (Cs C).heap.size ∧ ¬ CA C b
theorem i32_of (x : Int32) : ∃ y : Int, x = iI y ∧ (-2147483648 ≤ y ∧ y < 2147483648) := ⟨x.toInt, iI_of x, Int32.le_toInt x, Int32.toInt_lt x⟩
section VLAW
variable {C : Cx} {cc : ByteArray} {own : String} {nL : Nat} {R : Room} {G : mvG} {kc ks : Nat} {gs : List va_W} {pc : Nat} {lv : List (Option Value)} {st : List Value}
theorem V_sld {b L j : Nat} {xs : Nat → Int32} {x y : Int32} (X : OK C cc own nL R G) (S : SC C b L xs) (hx : x = nI j) (hj : j < L) (hL : L < 2 ^ 31) (hv : xs j = y) (d : decode cc pc = .ok (.iaload, 1)) (k : V C kc ks gs (pc + 1) lv (.int y :: st)) : V C kc ks gs pc lv (.int x :: .ref b :: st) := fun H locs ls hP hD hS hl => by
  subst hx
  refine va_sld X.1 X.2.1 S.1 S.2.1 S.2.2 hS (vp_in_nI hj hL) d ?_
  rw [nI_clamp (by omega), hv]
  exact k H locs ls hP hD hS hl
theorem V_slenN {b L : Nat} {xs : Nat → Int32} (X : OK C cc own nL R G) (S : SC C b L xs) (d : decode cc pc = .ok (.arraylength, 1)) (k : V C kc ks gs (pc + 1) lv (.int (nI L) :: st)) : V C kc ks gs pc lv (.ref b :: st) := fun H locs ls hP hD hS hl => va_slen X.1 X.2.1 S.1 S.2.1 S.2.2 hS d (k H locs ls hP hD hS hl)
theorem V_eqT {x y : Int32} {o : Int} (tgt : Nat) (X : OK C cc own nL R G) (h : x = y) (d : decode cc pc = .ok (.if_icmp .eq o, 3)) (ht : (pc : Int) + o = (tgt : Int)) (k : V C kc ks gs tgt lv st) : V C kc ks gs pc lv (.int y :: .int x :: st) := fun H locs ls hP hD hS hl => lv_icmp_eq X.1 X.2.1 d ht (fun _ => k H locs ls hP hD hS hl) (fun z => absurd h z)
theorem V_leqT {x y : Int64} {o : Int} (tgt : Nat) (X : OK C cc own nL R G) (h : x = y) (d : decode cc pc = .ok (.lcmp, 1)) (d2 : decode cc (pc + 1) = .ok (.ifCond .eq o, 3)) (ht : ((pc + 1 : Nat) : Int) + o = (tgt : Int)) (k : V C kc ks gs tgt lv st) : V C kc ks gs pc lv (.long y :: .long x :: st) := V_lcmp X d (V_if_eq X tgt d2 ht (fun _ => k) (fun z => absurd (by subst h; simp [lg_cmp]) z))
end VLAW
