def gObj (x ci : Nat) : va_W := [(x, .inr (ci, []))]
section VSUP
variable {C : Cx} {cc : ByteArray} {own : String} {nL : Nat} {R : Room} {G : mvG} {kc ks : Nat} {gs : List va_W} {pc : Nat} {lv : List (Option Value)} {st : List Value} {S : Type} {y x : MethodName} {b : ByteArray} {n : Nat} {ret : Option FieldType} {rm : Nat × Nat} {As : List Value} {w0 : List va_W} {rv : S → Option Value} {post : S → Prop} {w1 : S → List va_W} {np idx : Nat} {rest : List Value}
theorem V_callSup {bb : Nat} {g : va_W} {ci : Nat} {fs : List Value} {q : vw_C} {rf rl : Nat} (X : OK C cc own nL { frames := rf, locals := rl } G) (hM : KQ (Cl C) y b n ret rm G (.ref bb :: As) w0 rv post w1) (M : MI y b n ret np) (hlk : Cond.methodLink own idx y ∈ TB) (hi : Cond.instanceMethod y ∈ TB) (hsm0 : Cond.sameMethod y.cls y.cls y.name y.desc ∈ TB) (hsu : Cond.superclass own y.cls ∈ TB) (hno : y.name ≠ "<init>")
    (d : decode cc pc = .ok (.invokespecial idx, 3)) (is : List Nat) (his : is.map (fun i => gs[i]?) = w0.map some) (hnd : is.Nodup) (ig jg : Nat) (hg : gs[ig]? = some g) (hj : g[jg]? = some (bb, .inr (ci, fs))) (hc : vwCl[ci]? = some q) (hst : st = As.reverse ++ .ref bb :: rest) (hn : As.length = np) (hroom : rm.1 + 1 ≤ rf ∧ 8 + (n + 11) + rm.2 ≤ rl) (hsm : (rest.map fun v => v.category).sum ≤ 8) (h0 : kc = 0 ∧ ks = 0)
    (kk : ∀ u, post u → V C kc ks (gput gs is (w1 u)) (pc + 3) lv ((rv u).toList ++ rest)) : V C kc ks gs pc lv st := by
  refine V_run (a := (Value.ref bb :: As).toArray) X hM.1 is his hnd (fun H locs ls hP hD hS hl => ?_) kk
  have hG : CG C = G := X.2.2.2.2.2.2.2.2.2.2.2
  have hR : CR C = { frames := rf, locals := rl } := X.2.2.2.2.2.2.2.2.2.2.1
  obtain ⟨m1, e1, -⟩ := mv_flat hg hj
  subst hst
  have hts := X.2.2.2.2.1
  have cw : va_CS (CR C) (Cs C) (Ca C) own idx y b n ret (Cond.code y b n ret :: TB) { frames := rm.1, locals := rm.2 } 0 0 np := by
    rw [hR]
    exact ⟨⟨rfl, rfl, hroom.1, hroom.2, wgood M.1 hts, List.mem_cons_self⟩, hts _ hlk, hts _ hsm0, hts _ hsu, hts _ hi, hts _ M.2.1, hts _ M.1, hno, M.sig⟩
  refine va_runSU (As := As) (rest := rest) (C := q.1) (X.2.2.2.2.2.1.1 ci q hc).2 ⟨X.1, X.2.1, X.2.2.1, X.2.2.2.1, hts⟩ (hM.2 H.size) cw ⟨blind_pre, ?_, sub_pre X his hnd hP hD hS⟩ rfl hn hl.1 rfl (lv_room hsm) d ⟨by rw [h0.1]; exact Nat.zero_le _, by rw [h0.2]; exact Nat.zero_le _⟩
  rw [hG] at hP
  exact va_recv X.2.2.2.2.2.1 hP hc e1
theorem V_callVO {bb : Nat} {g : va_W} {ci : Nat} {fs : List Value} {q : vw_C} {rf rl np' : Nat} {b0 : ByteArray} {m0 : Nat} {r0 : Option FieldType} (X : OK C cc own nL { frames := rf, locals := rl } G) (hM : KQ (Cl C) y b n ret rm G (.ref bb :: As) w0 rv post w1) (M : MI y b n ret np') (Mx : MI x b0 m0 r0 np) (hlk : Cond.methodLink own idx x ∈ TB) (hix : Cond.instanceMethod x ∈ TB) (hi : Cond.instanceMethod y ∈ TB) (hs : Cond.selects q.1 x y ∈ TB) (hsm0 : Cond.sameMethod x.cls x.cls x.name x.desc ∈ TB)
    (d : decode cc pc = .ok (.invokevirtual idx, 3)) (is : List Nat) (his : is.map (fun i => gs[i]?) = w0.map some) (hnd : is.Nodup) (ig jg : Nat) (hg : gs[ig]? = some g) (hj : g[jg]? = some (bb, .inr (ci, fs))) (hc : vwCl[ci]? = some q) (hst : st = As.reverse ++ .ref bb :: rest) (hn : As.length = np) (hroom : rm.1 + 1 ≤ rf ∧ 8 + (n + 11) + rm.2 ≤ rl) (hsm : (rest.map fun v => v.category).sum ≤ 8) (h0 : kc = 0 ∧ ks = 0)
    (kk : ∀ u, post u → V C kc ks (gput gs is (w1 u)) (pc + 3) lv ((rv u).toList ++ rest)) : V C kc ks gs pc lv st := by
  refine V_run (a := (Value.ref bb :: As).toArray) X hM.1 is his hnd (fun H locs ls hP hD hS hl => ?_) kk
  have hG : CG C = G := X.2.2.2.2.2.2.2.2.2.2.2
  have hR : CR C = { frames := rf, locals := rl } := X.2.2.2.2.2.2.2.2.2.2.1
  obtain ⟨m1, e1, -⟩ := mv_flat hg hj
  subst hst
  have hts := X.2.2.2.2.1
  have cw : va_CU (CR C) (Cs C) (Ca C) own q.1 x.cls idx x y b n ret (Cond.code y b n ret :: TB) { frames := rm.1, locals := rm.2 } 0 0 np := by
    rw [hR]
    exact ⟨⟨rfl, rfl, hroom.1, hroom.2, wgood M.1 hts, List.mem_cons_self⟩, hts _ M.1, hts _ M.2.1, ⟨Mx.2.2.1, Mx.2.2.2.1⟩, Mx.sig, hts _ hlk, hts _ hsm0, va_Decl.of (hts _ hix) (hts _ Mx.1), hts _ hs, hts _ hi⟩
  refine va_runU (As := As) (rest := rest) (C := q.1) ⟨X.1, X.2.1, X.2.2.1, X.2.2.2.1, hts⟩ (hM.2 H.size) cw ⟨blind_pre, ?_, sub_pre X his hnd hP hD hS⟩ rfl hn hl.1 rfl (lv_room hsm) d ⟨by rw [h0.1]; exact Nat.zero_le _, by rw [h0.2]; exact Nat.zero_le _⟩
  rw [hG] at hP
  exact va_recv X.2.2.2.2.2.1 hP hc e1
theorem V_ldcw (X : OK C cc own nL R G) {i : Nat} {v : Int32} (hc : Cond.constant own i v ∈ TB) (d : decode cc pc = .ok (.ldc_w i, 3)) (k : V C kc ks gs (pc + 3) lv (.int v :: st)) : V C kc ks gs pc lv st := fun H locs ls hP hD hS hl => lv_ldcw X.1 X.2.1 X.2.2.2.1 (X.2.2.2.2.1 _ hc) d (k H locs ls hP hD hS hl)
end VSUP
theorem eucl_pos : ∀ (f x y : Nat), 0 < x → 0 < eucl f x y
  | 0, x, y, h => h
  | f + 1, x, y, h => by
    simp only [eucl]
    split
    · exact h
    · exact eucl_pos f y (x % y) (by omega)
