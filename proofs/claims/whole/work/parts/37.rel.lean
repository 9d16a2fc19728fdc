-- ===== the relation between the two sides, and what each call does to it =====
def toeV (x : Nat) : Int32 := if x < 16 then -9 else nI (x / 16 - 1)
def cellR (v d : Nat) (t : Int32) : Prop := v % 16 = d ∧ v < 80 ∧ (16 ≤ v → 1 ≤ v % 16) ∧ t = toeV v
def RM (M : MoT) (f : Nat → Nat) : Prop := (∀ j, j < 5 → f j = M.1 j) ∧ (∀ c, c < 36 → cellR (f (5 + c)) (M.2.1 c) (M.2.2.1 c)) ∧ (f 41 = M.2.2.2.1 ∧ f 42 = M.2.2.2.2.1 ∧ f 43 = M.2.2.2.2.2) ∧ (∀ j, M.1 j < 36) ∧ (∀ j, M.2.1 j ≤ 9) ∧ M.2.2.2.1 ≤ 999
theorem RM_c {M : MoT} {f g : Nat → Nat} (h : ∀ j, j < 44 → f j = g j) (hM : RM M f) : RM M g := by
  obtain ⟨h1, h2, ⟨h3, h4, h5⟩, h6⟩ := hM
  refine ⟨fun j hj => ?_, fun c hc => ?_, ⟨?_, ?_, ?_⟩, h6⟩
  · rw [← h j (by omega)]; exact h1 j hj
  · rw [← h (5 + c) (by omega)]; exact h2 c hc
  · rw [← h 41 (by omega)]; exact h3
  · rw [← h 42 (by omega)]; exact h4
  · rw [← h 43 (by omega)]; exact h5
theorem RM_move {M : MoT} {f : Nat → Nat} {p x : Nat} (hM : RM M f) (hp : p < 5) (hx : x < 36) : RM (va_up M.1 p x, M.2) (va_up f p x) := by
  obtain ⟨h1, h2, ⟨h3, h4, h5⟩, h6, h7, h8⟩ := hM
  refine ⟨fun j hj => ?_, fun c hc => ?_, ⟨?_, ?_, ?_⟩, va_up_all (Q := fun x => x < 36) h6 hx, h7, h8⟩
  · show va_up f p x j = va_up M.1 p x j
    simp only [va_up]
    rw [h1 j hj]
  · simp only [va_up]
    rw [if_neg (by omega)]
    exact h2 c hc
  · simp only [va_up]; rw [if_neg (by omega)]; exact h3
  · simp only [va_up]; rw [if_neg (by omega)]; exact h4
  · simp only [va_up]; rw [if_neg (by omega)]; exact h5
theorem RM_set {M : MoT} {f : Nat → Nat} {c v d : Nat} {t : Int32} (hM : RM M f) (hc : c < 36) (hv : cellR v d t) (hd : d ≤ 9) : RM (M.1, va_up M.2.1 c d, upd M.2.2.1 c t, M.2.2.2) (va_up f (5 + c) v) := by
  obtain ⟨h1, h2, ⟨h3, h4, h5⟩, h6, h7, h8⟩ := hM
  refine ⟨fun j hj => ?_, fun x hx => ?_, ⟨?_, ?_, ?_⟩, h6, va_up_all (Q := fun x => x ≤ 9) h7 hd, h8⟩
  · simp only [va_up]
    rw [if_neg (by omega)]
    exact h1 j hj
  · show cellR (va_up f (5 + c) v (5 + x)) (va_up M.2.1 c d x) (upd M.2.2.1 c t x)
    simp only [va_up, upd]
    by_cases e : x = c
    · rw [if_pos (by omega), if_pos e, if_pos e]
      exact hv
    · rw [if_neg (by omega), if_neg e, if_neg e]
      exact h2 x hx
  · simp only [va_up]; rw [if_neg (by omega)]; exact h3
  · simp only [va_up]; rw [if_neg (by omega)]; exact h4
  · simp only [va_up]; rw [if_neg (by omega)]; exact h5
theorem RM_prt {M : MoT} {s to : Nat → Nat} {p d k : Nat} (hM : RM M s) (hp : p < 5) (hd : d < 4) (hk : k = to (4 + p)) (hk1 : 1 ≤ k) : RM (prt M (M.1 p) k d) (prS to s p d) ∧ prR to s p = min 9 (M.2.1 (M.1 p) + k) := by
  have hc : M.1 p < 36 := hM.2.2.2.1 p
  have hs : s p = M.1 p := hM.1 p hp
  obtain ⟨g1, g2, g3, g4⟩ := hM.2.1 (M.1 p) hc
  have hr : prR to s p = min 9 (M.2.1 (M.1 p) + k) := by
    simp only [prR]
    rw [hs, g1, hk]
  have hm : min 9 (M.2.1 (M.1 p) + k) ≤ 9 := Nat.min_le_left _ _
  have hm1 : 1 ≤ min 9 (M.2.1 (M.1 p) + k) := by omega
  refine ⟨?_, hr⟩
  have := RM_set (c := M.1 p) (v := prR to s p + 16 * (d + 1)) (d := min 9 (M.2.1 (M.1 p) + k)) (t := nI d) hM hc ⟨by rw [hr]; omega, by rw [hr]; omega, fun _ => by rw [hr]; omega, by rw [hr]; unfold toeV; rw [if_neg (by omega)]; congr 1; omega⟩ hm
  unfold prS
  rw [hs]
  exact this
theorem RM_rain {M : MoT} {to s S : Nat → Nat} {k : Nat} (hM : RM M s) (hS : rnS to s S 36) (hk : k = to 1) (hk1 : 1 ≤ k) : RM (M.1, soakD M.2.1 k, soakT M.2.1 k M.2.2.1, M.2.2.2) S := by
  obtain ⟨h1, h2, ⟨h3, h4, h5⟩, h6, h7, h8⟩ := hM
  refine ⟨fun j hj => ?_, fun c hc => ?_, ⟨?_, ?_, ?_⟩, h6, fun j => ?_, h8⟩
  · rw [hS.2 j (by omega)]; exact h1 j hj
  · show cellR (S (5 + c)) (M.2.1 c - k) (if 0 < M.2.1 c ∧ M.2.1 c ≤ k then -9 else M.2.2.1 c)
    rw [hS.1 c hc]
    obtain ⟨g1, g2, g3, g4⟩ := h2 c hc
    unfold rnV
    rw [← hk]
    by_cases e : k < s (5 + c) % 16
    · rw [if_pos e, if_neg (by omega), g4]
      have q1 := Nat.div_add_mod (s (5 + c)) 16
      refine ⟨by omega, by omega, fun _ => by omega, ?_⟩
      unfold toeV
      by_cases f : s (5 + c) < 16
      · rw [if_pos f, if_pos (by omega)]
      · rw [if_neg f, if_neg (by omega)]
        congr 1
        omega
    · rw [if_neg e]
      refine ⟨by omega, by omega, fun _ => by omega, ?_⟩
      by_cases f : 0 < M.2.1 c ∧ M.2.1 c ≤ k
      · rw [if_pos f]; rfl
      · rw [if_neg f, g4]
        unfold toeV
        rw [if_pos (by omega), if_pos (by omega)]
  · rw [hS.2 41 (by omega)]; exact h3
  · rw [hS.2 42 (by omega)]; exact h4
  · rw [hS.2 43 (by omega)]; exact h5
  · show M.2.1 j - k ≤ 9
    have := h7 j
    omega
theorem RM_lift {M : MoT} {s : Nat → Nat} {c m : Nat} (hM : RM M s) (hc : c + 7 < 36) (hm : m = tray M.2.1 c) : RM (lifted M c) (lfS s c m) := by
  obtain ⟨h1, h2, ⟨h3, h4, h5⟩, h6, h7, h8⟩ := hM
  have ev : ∀ x, x < 36 → lfS s c m (5 + x) = if x = c ∨ x = c + 1 ∨ x = c + 6 ∨ x = c + 7 then 0 else s (5 + x) := fun x hx => by
    simp only [lfS, va_up]
    rw [if_neg (show ¬ 5 + x = 41 by omega)]
    by_cases e : x = c ∨ x = c + 1 ∨ x = c + 6 ∨ x = c + 7
    · rw [if_pos e]
      (repeat' split) <;> first | rfl | omega
    · rw [if_neg e]
      (repeat' split) <;> first | rfl | omega
  have ed : ∀ x, (lifted M c).2.1 x = if x = c ∨ x = c + 1 ∨ x = c + 6 ∨ x = c + 7 then 0 else M.2.1 x := fun x => by
    simp only [lifted, va_up]
    by_cases e : x = c ∨ x = c + 1 ∨ x = c + 6 ∨ x = c + 7
    · rw [if_pos e]
      (repeat' split) <;> first | rfl | omega
    · rw [if_neg e]
      (repeat' split) <;> first | rfl | omega
  have et : ∀ x, (lifted M c).2.2.1 x = if x = c ∨ x = c + 1 ∨ x = c + 6 ∨ x = c + 7 then -9 else M.2.2.1 x := fun x => by
    simp only [lifted, upd]
    by_cases e : x = c ∨ x = c + 1 ∨ x = c + 6 ∨ x = c + 7
    · rw [if_pos e]
      (repeat' split) <;> first | rfl | omega
    · rw [if_neg e]
      (repeat' split) <;> first | rfl | omega
  refine ⟨fun j hj => ?_, fun x hx => ?_, ⟨?_, ?_, ?_⟩, h6, fun j => ?_, ?_⟩
  · simp only [lfS, va_up]
    (repeat rw [if_neg (by omega)])
    exact h1 j hj
  · rw [ev x hx, ed, et]
    by_cases e : x = c ∨ x = c + 1 ∨ x = c + 6 ∨ x = c + 7
    · rw [if_pos e, if_pos e, if_pos e]
      exact ⟨rfl, by decide, fun z => absurd z (by decide), rfl⟩
    · rw [if_neg e, if_neg e, if_neg e]
      exact h2 x hx
  · show lfS s c m 41 = min 999 (M.2.2.2.1 + tray M.2.1 c)
    simp only [lfS, va_up]
    rw [if_pos trivial, h3, hm]
  · simp only [lfS, va_up]
    (repeat rw [if_neg (by omega)])
    exact h4
  · simp only [lfS, va_up]
    (repeat rw [if_neg (by omega)])
    exact h5
  · rw [ed]
    split
    · omega
    · exact h7 j
  · exact Nat.min_le_left _ _
theorem RM_vote {M : MoT} {s : Nat → Nat} {e : Nat} (hM : RM M s) : RM (M.1, M.2.1, M.2.2.1, M.2.2.2.1, M.2.2.2.2.1 + 1, M.2.2.2.2.2 + e) (va_up (va_up s 42 (s 42 + 1)) 43 (s 43 + e)) := by
  obtain ⟨h1, h2, ⟨h3, h4, h5⟩, h6, h7, h8⟩ := hM
  refine ⟨fun j hj => ?_, fun x hx => ?_, ⟨?_, ?_, ?_⟩, h6, h7, h8⟩
  · simp only [va_up]
    rw [if_neg (by omega), if_neg (by omega)]
    exact h1 j hj
  · simp only [va_up]
    rw [if_neg (by omega), if_neg (by omega)]
    exact h2 x hx
  · simp only [va_up]
    rw [if_neg (by omega), if_neg (by omega)]
    exact h3
  · simp only [va_up]
    rw [if_neg (by omega), if_pos trivial, h4]
  · simp only [va_up]
    rw [if_pos trivial, h5]
def RK (P : Nat → MoT) (q kn : Nat) (pa : Nat → Nat) : Prop := q < 10 ∧ kn ≤ 10 ∧ ∀ i, i < kn → RM (P ((q + 10 - kn + i) % 10)) (fun j => pa (44 * i + j))
theorem RK_push {M : MoT} {P : Nat → MoT} {q kn : Nat} {s pa pa' : Nat → Nat} {k : Nat} (hM : RM M s) (hR : RK P q kn pa) (hK : KP s pa kn pa' k) : RK (fun j => if j = q then M else P j) ((q + 1) % 10) (min 10 (kn + 1)) pa' ∧ k = min 10 (kn + 1) := by
  obtain ⟨h1, h2, h3⟩ := hR
  obtain ⟨g1, g2, g3⟩ := hK
  refine ⟨⟨by omega, Nat.min_le_left _ _, fun i hi => ?_⟩, g1⟩
  dsimp only
  by_cases e : i = min 10 (kn + 1) - 1
  · rw [if_pos (by omega)]
    refine RM_c (fun j hj => ?_) hM
    have := g2 j hj
    rw [g1, ← e] at this
    exact this.symm
  · rw [if_neg (by omega)]
    have hj : ∀ j, j < 44 → pa' (44 * i + j) = pa (44 * (i + (if kn = 10 then 1 else 0)) + j) := fun j hj => g3 i j (by omega) hj
    by_cases f : kn = 10
    · have h4 := h3 (i + 1) (by omega)
      rw [show ((q + 1) % 10 + 10 - min 10 (kn + 1) + i) % 10 = (q + 10 - kn + (i + 1)) % 10 by omega]
      refine RM_c (fun j hj' => ?_) h4
      have := hj j hj'
      rw [if_pos f] at this
      exact this.symm
    · have h4 := h3 i (by omega)
      rw [show ((q + 1) % 10 + 10 - min 10 (kn + 1) + i) % 10 = (q + 10 - kn + i) % 10 by omega]
      refine RM_c (fun j hj' => ?_) h4
      have := hj j hj'
      rw [if_neg f] at this
      exact this.symm
theorem RK_pop {P : Nat → MoT} {q kn : Nat} {pa S : Nat → Nat} (hR : RK P q kn pa) (hk : 0 < kn) (hS : ∀ j, j < 44 → S j = pa (44 * (kn - 1) + j)) : RM (P ((q + 9) % 10)) S ∧ RK P ((q + 9) % 10) (kn - 1) pa := by
  obtain ⟨h1, h2, h3⟩ := hR
  refine ⟨?_, by omega, by omega, fun i hi => ?_⟩
  · have := h3 (kn - 1) (by omega)
    rw [show (q + 10 - kn + (kn - 1)) % 10 = (q + 9) % 10 by omega] at this
    exact RM_c (fun j hj => (hS j hj).symm) this
  · rw [show ((q + 9) % 10 + 10 - (kn - 1) + i) % 10 = (q + 10 - kn + i) % 10 by omega]
    exact h3 i (by omega)
def RW1 (w v : Nat → Nat) (n k : Nat) (to : Nat → Nat) : Prop := (n = to 0 ∧ k = to 1 ∧ n ≤ 5 ∧ 1 ≤ k ∧ k ≤ 9) ∧ (∀ j, w j ≤ 4) ∧ (∀ j, v j ≤ 9) ∧ (∀ j, j < n → w j = to (4 + j) ∧ v j = to (9 + j) ∧ 1 ≤ w j) ∧ (∀ j, j < 5 → to (4 + j) ≤ 4) ∧ (∀ j, j < 5 → to (9 + j) ≤ 9)
def RF (el fd : Nat → Nat) (m : Nat) (no : Nat → Nat) (nd : Nat) : Prop := m = nd ∧ m ≤ 6 ∧ ∀ j, j < m → el j = no j / 16 ∧ fd j = no j % 16 ∧ el j < 32 ∧ fd j ≤ 9
def RI (I : Nat → MoT) (kk im ke : Nat → Nat) : Prop := (∀ j, kk j ≤ 1) ∧ (kk 0 = ke 0 ∧ kk 1 = ke 1) ∧ ∀ x, x < 2 → ¬ kk x = 0 → RM (I x) (fun j => im (44 * x + j))
def RT1 (L : Nat → Nat) (len nb1 : Nat) (w1 v1 tx : Nat → Nat) (ty : Nat) : Prop := L = tx ∧ len = ty ∧ len ≤ 100 ∧ (∀ j, L j < 256) ∧ nb1 ≤ 100 ∧ ∀ j, w1 j ≤ 4 ∧ v1 j ≤ 9
def REL (L : Nat → Nat) (len nb1 : Nat) (w1 v1 w v : Nat → Nat) (n k : Nat) (M : MoT) (P : Nat → MoT) (q kn : Nat) (el fd : Nat → Nat) (m : Nat) (I : Nat → MoT) (kk : Nat → Nat) (tr : Nat) (tx to s pa im ke no : Nat → Nat) (tr2 ty kn2 nd : Nat) : Prop :=
  RT1 L len nb1 w1 v1 tx ty ∧ RW1 w v n k to ∧ RM M s ∧ (kn = kn2 ∧ RK P q kn pa) ∧ RF el fd m no nd ∧ RI I kk im ke ∧ tr = tr2
section REL1
variable {L : Nat → Nat} {len nb1 : Nat} {w1 v1 w v : Nat → Nat} {n k : Nat} {M : MoT} {P : Nat → MoT} {q kn : Nat} {el fd : Nat → Nat} {m : Nat} {I : Nat → MoT} {kk : Nat → Nat} {tr : Nat} {tx to s pa im ke no : Nat → Nat} {tr2 ty kn2 nd : Nat}
theorem st_type {x r1 r2 : Int} {L' tx' : Nat → Nat} {len' ty' : Nat} (R : REL L len nb1 w1 v1 w v n k M P q kn el fd m I kk tr tx to s pa im ke no tr2 ty kn2 nd) (h1 : (r1, L', len') = spType L len x) (h2 : (r2, tx', ty') = spType tx ty x) : r1 = r2 ∧ REL L' len' nb1 w1 v1 w v n k M P q kn el fd m I kk tr tx' to s pa im ke no tr2 ty' kn2 nd := by
  obtain ⟨⟨rfl, rfl, e1, e2, e3⟩, R⟩ := R
  have h3 := h1.trans h2.symm
  rw [Prod.mk.injEq, Prod.mk.injEq] at h3
  obtain ⟨rfl, rfl, rfl⟩ := h3
  refine ⟨rfl, ⟨rfl, rfl, ?_, ?_, e3⟩, R⟩
  · unfold spType at h1
    (repeat' split at h1) <;> (rw [Prod.mk.injEq, Prod.mk.injEq] at h1; omega)
  · unfold spType at h1
    (repeat' split at h1) <;> (rw [Prod.mk.injEq, Prod.mk.injEq] at h1; rw [h1.2.1]; first | exact e2 | exact va_up_all (Q := fun x => x < 256) e2 (by omega))
theorem st_clear (R : REL L len nb1 w1 v1 w v n k M P q kn el fd m I kk tr tx to s pa im ke no tr2 ty kn2 nd) : len = ty ∧ REL L 0 nb1 w1 v1 w v n k M P q kn el fd m I kk tr tx to s pa im ke no tr2 0 kn2 nd := by
  obtain ⟨⟨rfl, rfl, e1, e2, e3⟩, R⟩ := R
  exact ⟨rfl, ⟨rfl, rfl, by omega, e2, e3⟩, R⟩
theorem st_cell {c y : Int} (R : REL L len nb1 w1 v1 w v n k M P q kn el fd m I kk tr tx to s pa im ke no tr2 ty kn2 nd) : spCell M.1 M.2.1 M.2.2.1 n k c y = spCell s (fun c => s (5 + c) % 16) (toeM s) (to 0) (to 1) c y := by
  obtain ⟨-, ⟨⟨rfl, rfl, hn, hk⟩, -⟩, ⟨h1, h2, -⟩, -⟩ := R
  unfold spCell
  by_cases e : 0 ≤ c ∧ c / 10 < 6 ∧ c % 10 < 6
  · have h3 := h2 (6 * (c / 10) + c % 10).toNat (by omega)
    rw [if_pos e, if_pos e, pAt_c _ _ (fun j hj => (h1 j (by omega)).symm), ← h3.1, h3.2.2.2]
    rfl
  · rw [if_neg e, if_neg e]
theorem st_person {p y : Int} (R : REL L len nb1 w1 v1 w v n k M P q kn el fd m I kk tr tx to s pa im ke no tr2 ty kn2 nd) : spPerson w v M.1 n p y = spPerson (fun j => to (4 + j)) (fun j => to (9 + j)) s (to 0) p y := by
  obtain ⟨-, ⟨⟨rfl, rfl, hn, hk⟩, -, -, hw, -⟩, ⟨h1, -⟩, -⟩ := R
  unfold spPerson
  by_cases e : 0 ≤ p ∧ p < ((to 0 : Nat) : Int)
  · rw [if_pos e, if_pos e, h1 p.toNat (by omega), (hw p.toNat (by omega)).1, (hw p.toNat (by omega)).2.1]
  · rw [if_neg e, if_neg e]
theorem st_now {y : Int} {r1 r2 : Int32} (R : REL L len nb1 w1 v1 w v n k M P q kn el fd m I kk tr tx to s pa im ke no tr2 ty kn2 nd)
    (h1 : (y = 0 ∧ r1 = nI (dSum M.2.1 36)) ∨ (y = 1 ∧ r1 = nI M.2.2.2.1) ∨ (y = 2 ∧ r1 = nI M.2.2.2.2.1) ∨ (y = 3 ∧ r1 = nI M.2.2.2.2.2) ∨ (y = 4 ∧ r1 = nI (lns M.1 v n 6)) ∨ (y = 5 ∧ ∃ x, wid M.2.1 x ∧ r1 = nI x) ∨ (y = 6 ∧ ∃ x z, wid M.2.1 x ∧ csq M.2.1 x z ∧ r1 = iI z) ∨ (y = 7 ∧ r1 = nI kn) ∨ ((y < 0 ∨ 7 < y) ∧ r1 = -1))
    (h2 : (y = 0 ∧ r2 = nI (dSum (fun c => s (5 + c) % 16) 36)) ∨ (y = 1 ∧ r2 = nI (s 41)) ∨ (y = 2 ∧ r2 = nI (s 42)) ∨ (y = 3 ∧ r2 = nI (s 43)) ∨ (y = 4 ∧ r2 = nI (lns s (fun j => to (9 + j)) (to 0) 6)) ∨ (y = 5 ∧ ∃ xV : Nat, wid (fun c => s (5 + c) % 16) xV ∧ r2 = nI xV) ∨ (y = 6 ∧ ∃ (xV : Nat) (zV : Int), wid (fun c => s (5 + c) % 16) xV ∧ csq (fun c => s (5 + c) % 16) xV zV ∧ r2 = iI zV) ∨ (y = 7 ∧ r2 = nI kn2) ∨ ((y < 0 ∨ 7 < y) ∧ r2 = -1)) : r1 = r2 := by
  obtain ⟨-, ⟨⟨rfl, rfl, hn, hk⟩, -, -, hw, -⟩, ⟨g1, g2, ⟨g3, g4, g5⟩, -⟩, ⟨rfl, -⟩, -⟩ := R
  have hd : ∀ c, c < 36 → M.2.1 c = (fun c => s (5 + c) % 16) c := fun c hc => (g2 c hc).1.symm
  rcases h1 with ⟨e, h1⟩ | ⟨e, h1⟩ | ⟨e, h1⟩ | ⟨e, h1⟩ | ⟨e, h1⟩ | ⟨e, h1⟩ | ⟨e, h1⟩ | ⟨e, h1⟩ | ⟨e, h1⟩ <;> rcases h2 with ⟨f, h2⟩ | ⟨f, h2⟩ | ⟨f, h2⟩ | ⟨f, h2⟩ | ⟨f, h2⟩ | ⟨f, h2⟩ | ⟨f, h2⟩ | ⟨f, h2⟩ | ⟨f, h2⟩ <;> first
    | (exfalso; omega)
    | rw [h1, h2, dSum_c 36 hd]
    | rw [h1, h2, g3]
    | rw [h1, h2, g4]
    | rw [h1, h2, g5]
    | rw [h1, h2, lns_c (fun j hj => ⟨(g1 j (by omega)).symm, (hw j hj).2.1⟩) 6]
    | rw [h1, h2]
    | (obtain ⟨a, a1, a2⟩ := h1; obtain ⟨b, b1, b2⟩ := h2; rw [a2, b2, wid_u (wid_c hd a1) b1])
    | (obtain ⟨a, z, a1, a2, a3⟩ := h1; obtain ⟨b, z', b1, b2, b3⟩ := h2; have e2 := wid_u (wid_c hd a1) b1; subst e2; rw [a3, b3, csq_u (csq_c hd a2) b2])
theorem st_power {p y : Int} (R : REL L len nb1 w1 v1 w v n k M P q kn el fd m I kk tr tx to s pa im ke no tr2 ty kn2 nd) : spPower v n p y = spPower (fun j => to (9 + j)) (to 0) p y := by
  obtain ⟨-, ⟨⟨rfl, rfl, hn, hk⟩, -, -, hw, -⟩, -⟩ := R
  exact spPower_c (fun j hj => (hw j hj).2.1) p y
theorem REL.dep (R : REL L len nb1 w1 v1 w v n k M P q kn el fd m I kk tr tx to s pa im ke no tr2 ty kn2 nd) : ∀ c, c < 36 → M.2.1 c = (fun c => s (5 + c) % 16) c := fun c hc => (R.2.2.1.2.1 c hc).1.symm
theorem st_best {x y r1 : Int} {B : Nat → Int} (R : REL L len nb1 w1 v1 w v n k M P q kn el fd m I kk tr tx to s pa im ke no tr2 ty kn2 nd) (h1 : r1 = spBest M.2.1 B x y) : r1 = mBest (trT (fun c => s (5 + c) % 16)) x y := by
  rw [h1, mBest_eq]
  exact mBest_c (fun t ht => trT_c R.dep ht) x y
theorem st_way {p x r1 r2 : Int} {S : Nat → Int} (R : REL L len nb1 w1 v1 w v n k M P q kn el fd m I kk tr tx to s pa im ke no tr2 ty kn2 nd)
    (h1 : (¬ (0 ≤ p ∧ p < (n : Int) ∧ 0 ≤ x ∧ x / 10 < 6 ∧ x % 10 < 6) ∧ r1 = -1) ∨ ((0 ≤ p ∧ p < (n : Int) ∧ 0 ≤ x ∧ x / 10 < 6 ∧ x % 10 < 6) ∧ isD M.2.1 (M.1 p.toNat) S ∧ r1 = S (6 * (x / 10) + x % 10).toNat))
    (h2 : (¬ (0 ≤ p ∧ p < (to 0 : Int) ∧ 0 ≤ x ∧ x / 10 < 6 ∧ x % 10 < 6) ∧ r2 = -1) ∨ ((0 ≤ p ∧ p < (to 0 : Int) ∧ 0 ≤ x ∧ x / 10 < 6 ∧ x % 10 < 6) ∧ ∃ SX : Nat → Int, isD (fun c => s (5 + c) % 16) (s p.toNat) SX ∧ r2 = SX (6 * (x / 10) + x % 10).toNat)) : r1 = r2 := by
  have hd := R.dep
  obtain ⟨-, ⟨⟨rfl, rfl, hn, hk⟩, -⟩, ⟨g1, -⟩, -⟩ := R
  rcases h1 with ⟨e, h1⟩ | ⟨e, h1, h3⟩ <;> rcases h2 with ⟨f, h2⟩ | ⟨f, SX, h2, h4⟩
  · rw [h1, h2]
  · exact absurd f e
  · exact absurd e f
  · rw [g1 p.toNat (by omega)] at h2
    rw [h3, h4]
    exact isD_u (isD_c hd h1) h2 (by omega)
theorem st_odds {x y z u : Int} (R : REL L len nb1 w1 v1 w v n k M P q kn el fd m I kk tr tx to s pa im ke no tr2 ty kn2 nd) : spOdds M.2.1 k x y z u = spOdds (fun c => s (5 + c) % 16) (to 1) x y z u := by
  have hd := R.dep
  obtain ⟨-, ⟨⟨rfl, rfl, hn, hk⟩, -⟩, -⟩ := R
  unfold spOdds
  by_cases e : 0 ≤ x ∧ x / 10 < 6 ∧ x % 10 < 6 ∧ 0 ≤ y ∧ y ≤ 10 ∧ 0 ≤ z ∧ z ≤ 8 ∧ 0 ≤ u ∧ u ≤ 1
  · rw [if_pos e, if_pos e, hd _ (by omega)]
  · rw [if_neg e, if_neg e]
theorem st_rate {x p : Int} (R : REL L len nb1 w1 v1 w v n k M P q kn el fd m I kk tr tx to s pa im ke no tr2 ty kn2 nd) : spRate w v n M.1 M.2.1 M.2.2.2.2.1 x p = spRate (fun j => to (4 + j)) (fun j => to (9 + j)) (to 0) s (fun c => s (5 + c) % 16) (s 42) x p := by
  have hd := R.dep
  obtain ⟨-, ⟨⟨rfl, rfl, hn, hk⟩, -, -, hw, -⟩, ⟨g1, g2, ⟨g3, g4, g5⟩, g6, -⟩, -⟩ := R
  unfold spRate
  by_cases e : 0 ≤ x ∧ x < 6 ∧ 0 ≤ p ∧ p < ((to 0 : Nat) : Int)
  · rw [if_pos e, if_pos e, hd _ (g6 _), (hw p.toNat (by omega)).1, (hw p.toNat (by omega)).2.1, g4, g1 p.toNat (by omega)]
  · rw [if_neg e, if_neg e]
theorem st_rate2 {x p : Int} {t1 t2 : Nat} (R : REL L len nb1 w1 v1 w v n k M P q kn el fd m I kk tr tx to s pa im ke no tr2 ty kn2 nd) (h1 : t1 = tr + spTr n x p) (h2 : t2 = tr2 + spTr (to 0) x p) : REL L len nb1 w1 v1 w v n k M P q kn el fd m I kk t1 tx to s pa im ke no t2 ty kn2 nd := by
  obtain ⟨a1, a2, a3, a4, a5, a6, rfl⟩ := R
  exact ⟨a1, a2, a3, a4, a5, a6, by rw [h1, h2, a2.1.1]⟩
theorem st_count {y : Int} (R : REL L len nb1 w1 v1 w v n k M P q kn el fd m I kk tr tx to s pa im ke no tr2 ty kn2 nd) : spCount n k m len y = spCount (to 0) (to 1) nd ty y := by
  obtain ⟨⟨-, rfl, -⟩, ⟨⟨rfl, rfl, -⟩, -⟩, -, -, ⟨rfl, -⟩, -⟩ := R
  rfl
theorem st_can {y r2 : Int} (R : REL L len nb1 w1 v1 w v n k M P q kn el fd m I kk tr tx to s pa im ke no tr2 ty kn2 nd)
    (h2 : ((y < 0 ∨ 2 < y) ∧ r2 = -1) ∨ (y = 0 ∧ r2 = ((canN (fun j => to (4 + j)) (to 0) (fun j => no j / 16) (fun j => no j % 16) nd 0 (2 ^ to 0)) : Nat)) ∨ (y = 2 ∧ r2 = (orS (fun p => 0 < canN (fun j => to (4 + j)) (to 0) (fun j => no j / 16) (fun j => no j % 16) nd (2 ^ p) (2 ^ to 0)) (to 0) : Nat)) ∨ (y = 1 ∧ (canN (fun j => to (4 + j)) (to 0) (fun j => no j / 16) (fun j => no j % 16) nd 0 (2 ^ to 0)) = 0 ∧ r2 = -9) ∨ (y = 1 ∧ ¬ (canN (fun j => to (4 + j)) (to 0) (fun j => no j / 16) (fun j => no j % 16) nd 0 (2 ^ to 0)) = 0 ∧ r2 = (orS (fun p => canN (fun j => to (4 + j)) (to 0) (fun j => no j / 16) (fun j => no j % 16) nd (2 ^ p) (2 ^ to 0) = (canN (fun j => to (4 + j)) (to 0) (fun j => no j / 16) (fun j => no j % 16) nd 0 (2 ^ to 0))) (to 0) : Nat))) : spCan w n el fd m y = r2 := by
  obtain ⟨-, ⟨⟨rfl, rfl, -⟩, -, -, hw, -⟩, -, -, ⟨rfl, -, hf⟩, -⟩ := R
  have hw' : ∀ j, j < to 0 → w j = (fun j => to (4 + j)) j := fun j hj => (hw j hj).1
  have hf' : ∀ j, j < m → el j = (fun j => no j / 16) j ∧ fd j = (fun j => no j % 16) j := fun j hj => ⟨(hf j hj).1, (hf j hj).2.1⟩
  unfold spCan
  rw [canN_c hw' hf', inAll_c hw' hf', inSome_c hw' hf', inAll_orS, inSome_orS]
  rcases h2 with ⟨e, h⟩ | ⟨e, h⟩ | ⟨e, h⟩ | ⟨e, e2, h⟩ | ⟨e, e2, h⟩
  · rw [if_neg (by omega), if_neg (by omega), if_neg (by omega), h]
  · rw [if_pos e, h]
  · rw [if_neg (by omega), if_neg (by omega), if_pos e, h]
  · rw [if_neg (by omega), if_pos e, if_pos e2, h]
  · rw [if_neg (by omega), if_pos e, if_neg e2, h]
theorem st_ask (R : REL L len nb1 w1 v1 w v n k M P q kn el fd m I kk tr tx to s pa im ke no tr2 ty kn2 nd) : spAsk w n el fd m = if (canN (fun j => to (4 + j)) (to 0) (fun j => no j / 16) (fun j => no j % 16) nd 0 (2 ^ to 0)) ≤ 1 then -9 else (askM (fun p => canN (fun j => to (4 + j)) (to 0) (fun j => no j / 16) (fun j => no j % 16) nd (2 ^ p) (2 ^ to 0)) (canN (fun j => to (4 + j)) (to 0) (fun j => no j / 16) (fun j => no j % 16) nd 0 (2 ^ to 0)) (to 0)).2 := by
  obtain ⟨-, ⟨⟨rfl, rfl, -⟩, -, -, hw, -⟩, -, -, ⟨rfl, -, hf⟩, -⟩ := R
  have hw' : ∀ j, j < to 0 → w j = (fun j => to (4 + j)) j := fun j hj => (hw j hj).1
  have hf' : ∀ j, j < m → el j = (fun j => no j / 16) j ∧ fd j = (fun j => no j % 16) j := fun j hj => ⟨(hf j hj).1, (hf j hj).2.1⟩
  unfold spAsk
  have e1 : (fun p => canN w (to 0) el fd m (2 ^ p) (2 ^ to 0)) = (fun p => canN (fun j => to (4 + j)) (to 0) (fun j => no j / 16) (fun j => no j % 16) m (2 ^ p) (2 ^ to 0)) := funext fun p => canN_c hw' hf' _ _
  rw [e1, canN_c hw' hf']
  by_cases e : canN (fun j => to (4 + j)) (to 0) (fun j => no j / 16) (fun j => no j % 16) m 0 (2 ^ to 0) ≤ 1
  · rw [if_pos e, if_pos e]
  · rw [if_neg e, if_neg e]
    exact (ask_same (by omega)).symm
theorem st_found {x y r1 r2 : Int} {el' fd' no' : Nat → Nat} {m' nd' : Nat} (R : REL L len nb1 w1 v1 w v n k M P q kn el fd m I kk tr tx to s pa im ke no tr2 ty kn2 nd)
    (h1 : r1 = spFound n m x y ∧ (((0 ≤ x ∧ x < ((2 ^ n : Nat) : Int) ∧ 1 ≤ y ∧ y ≤ 9) ∧ m < 6 ∧ el' = va_up el m x.toNat ∧ fd' = va_up fd m y.toNat ∧ m' = m + 1) ∨ (¬ ((0 ≤ x ∧ x < ((2 ^ n : Nat) : Int) ∧ 1 ≤ y ∧ y ≤ 9) ∧ m < 6) ∧ el' = el ∧ fd' = fd ∧ m' = m)))
    (h2 : ((x < 0 ∨ ((2 ^ to 0 : Nat) : Int) ≤ x ∨ y < 1 ∨ 9 < y) ∧ r2 = -1 ∧ no' = no ∧ nd' = nd) ∨ ((0 ≤ x ∧ x < ((2 ^ to 0 : Nat) : Int) ∧ 1 ≤ y ∧ y ≤ 9) ∧ nd = 6 ∧ r2 = -3 ∧ no' = no ∧ nd' = nd) ∨ ((0 ≤ x ∧ x < ((2 ^ to 0 : Nat) : Int) ∧ 1 ≤ y ∧ y ≤ 9) ∧ nd < 6 ∧ r2 = (nd + 1 : Nat) ∧ no' = va_up no nd (16 * x.toNat + y.toNat) ∧ nd' = nd + 1)) : r1 = r2 ∧ REL L len nb1 w1 v1 w v n k M P q kn el' fd' m' I kk tr tx to s pa im ke no' tr2 ty kn2 nd' := by
  obtain ⟨a1, a2, a3, a4, a5, a6, a7⟩ := R
  have hn := a2.1.1
  have hn5 : 2 ^ n ≤ 32 := pow5 a2.1.2.2.1
  rw [← hn] at h2
  obtain ⟨rfl, b2, b3⟩ := a5
  obtain ⟨h1, h3⟩ := h1
  unfold spFound at h1
  rcases h2 with ⟨e, c1, c2, c3⟩ | ⟨e, e2, c1, c2, c3⟩ | ⟨e, e2, c1, c2, c3⟩
  · rw [if_neg (by omega)] at h1
    rcases h3 with h3 | ⟨-, d1, d2, d3⟩
    · exfalso; omega
    · rw [d1, d2, d3, c2, c3]
      exact ⟨by rw [h1, c1], a1, a2, a3, a4, ⟨rfl, b2, b3⟩, a6, a7⟩
  · rw [if_pos e, if_neg (by omega)] at h1
    rcases h3 with h3 | ⟨-, d1, d2, d3⟩
    · exfalso; omega
    · rw [d1, d2, d3, c2, c3]
      exact ⟨by rw [h1, c1], a1, a2, a3, a4, ⟨rfl, b2, b3⟩, a6, a7⟩
  · rw [if_pos e, if_pos e2] at h1
    rcases h3 with ⟨-, -, d1, d2, d3⟩ | h3
    · rw [d1, d2, d3, c2, c3]
      refine ⟨by rw [h1, c1]; rfl, a1, a2, a3, a4, ⟨rfl, by omega, fun j hj => ?_⟩, a6, a7⟩
      simp only [va_up]
      by_cases f : j = m
      · rw [if_pos f, if_pos f, if_pos f]
        omega
      · rw [if_neg f, if_neg f, if_neg f]
        exact b3 j (by omega)
    · exact absurd ⟨e, e2⟩ h3.1
theorem st_forget (R : REL L len nb1 w1 v1 w v n k M P q kn el fd m I kk tr tx to s pa im ke no tr2 ty kn2 nd) : m = nd ∧ REL L len nb1 w1 v1 w v n k M P q kn el fd 0 I kk tr tx to s pa im ke no tr2 ty kn2 0 := by
  obtain ⟨a1, a2, a3, a4, a5, a6, a7⟩ := R
  exact ⟨a5.1, a1, a2, a3, a4, ⟨rfl, by omega, fun j hj => absurd hj (Nat.not_lt_zero j)⟩, a6, a7⟩
/-- what a call that is kept does to both sides -/
theorem REL.push {M' : MoT} {S pa' : Nat → Nat} {k' : Nat} {h : HI} (R : REL L len nb1 w1 v1 w v n k M P q kn el fd m I kk tr tx to s pa im ke no tr2 ty kn2 nd) (hM : RM M' S) (hK : KP s pa kn2 pa' k') (hh : h = hpush (M, P, q, kn) M') : REL L len nb1 w1 v1 w v n k h.1 h.2.1 h.2.2.1 h.2.2.2 el fd m I kk tr tx to S pa' im ke no tr2 ty k' nd := by
  obtain ⟨a1, a2, a3, ⟨rfl, a4⟩, a5⟩ := R
  subst hh
  have := RK_push a3 a4 hK
  exact ⟨a1, a2, hM, ⟨this.2.symm, this.1⟩, a5⟩
end REL1
