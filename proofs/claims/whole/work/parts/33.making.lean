-- ===== making: constructors, their contracts KA, rows that make cells =====
def gOb (x ci : Nat) (fs : List Value) : va_W := [(x, .inr (ci, fs))]
def gAr (G : mvG) (x t n : Nat) (f : Nat → Int32) : va_W := [(x, .inl (G.2.1 t, n, .inl f))]
def gRf (G : mvG) (x t n : Nat) (f : Nat → Option Nat) : va_W := [(x, .inl (G.2.1 t, n, .inr (.inr (.inr (.inr f)))))]
def mvAO (U : State) : Prop := va_AO "MudMoot$Moment" U ∧ va_AO "MudMoot$One" U
theorem mvAO.moved {u U : State} (hvm : u.vm.Alike U.vm) (h : mvAO u) : mvAO U := ⟨h.1.moved hvm, h.2.moved hvm⟩
def IN (C : Cx) : Prop := (Cme C).name = "<init>" ∧ mvAO (Cs C)
/-- a constructor's contract: from the groups w0 it comes to the groups w1 u, with new cells -/
def KA {S : Type} (l : Launch) (y : MethodName) (b : ByteArray) (n : Nat) (rm : Room) (G : mvG) (As : List Value) (w0 : List va_W) (post : S → Prop) (w1 : S → List va_W) : Prop :=
  ∀ sz, Met l y (Cond.code y b n none :: TB) rm (va_Pc As (fun U => mvPre G w0 sz U ∧ mvAO U)) (mvQ (fun _ : S => none) post (fun u t => va_P G.1 vwCl (w1 u).flatten t.heap ∧ va_D (va_A w0.flatten sz) (w1 u).flatten) (va_A w0.flatten sz)) rm.cells rm.slots (va_A w0.flatten sz)
def RA {S : Type} (C : Cx) (R : Room) (G : mvG) (post : S → Prop) (w1 : S → List va_W) : Prop :=
  (Cme C).sig.returnType = none ∧ (Cme C).locks = false ∧ ∃ (Qc : Array Value → State → Outcome → State → Prop) (free : Addr → Prop), CQ C = MQ (Cb C) Qc (Ca C) (Cs C) R.cells R.slots free ∧ (∀ q, CA C q → free q) ∧ ∀ (u : S) (t : State) (locs : List Loc), post u → va_P G.1 vwCl (w1 u).flatten t.heap → va_D (CA C) (w1 u).flatten → va_S (CA C) (Cs C).heap t.heap locs → Qc (Ca C) (Cs C) (.returned none) t
theorem KA.mk {S : Type} {l : Launch} {y : MethodName} {b : ByteArray} {n : Nat} {rm : Room} {G : mvG} {As : List Value} {w0 : List va_W} {post : S → Prop} {w1 : S → List va_W} (hy : plainName y.cls = true) (hi : y.name = "<init>") (lv0 : List (Option Value)) (hn : (lg_sl As).length ≤ n) (hlv : lvA 0 lv0 = lv_args 0 As)
    (h : ∀ C : Cx, OK C b y.cls n rm G → RA C rm G post w1 → IN C → Cl C = l → V C 0 0 w0 0 lv0 []) : KA l y b n rm G As w0 post w1 := by
  intro sz
  refine Met.ofW (cc := b) (maxL := n) (ret := none) hy rfl ?_
  intro p e s m args below meth c s₁ B hml hv
  obtain ⟨rfl, ⟨hsz, hP, hK, hD0, hN, hZ⟩, hAO⟩ := hv
  subst hsz
  have hts : ∀ w ∈ TB, w.before As.toArray s = true := fun w hw => atoms_spec (ws := Cond.code y b n none :: TB) B.pre w (List.mem_cons_of_mem _ hw)
  have hD := hD0.self (sz := s.heap.size)
  rw [lg_entry_eq]
  have hl := lv_entry As hn
  let C : Cx := (p, l, e, (headSpec (Cond.code y b n none :: TB) rm).room, s, m, As.toArray, below, meth, c, MQ below (mvQ (fun _ : S => none) post (fun u t => va_P G.1 vwCl (w1 u).flatten t.heap ∧ va_D (va_A w0.flatten s.heap.size) (w1 u).flatten) (va_A w0.flatten s.heap.size)) As.toArray s rm.cells rm.slots (va_A w0.flatten s.heap.size), G, va_A w0.flatten s.heap.size, n)
  exact h C ⟨B.exec, B.bytes, hml, findClass_of_methodNamed B.named, hts, hK, hN, hZ, fun q hq => Or.inr hq, rfl, rfl, rfl⟩ ⟨B.returns, B.notSynchronized, _, _, rfl, fun q hq => hq, fun u t locs hp hPt hDt hSt => ⟨⟨u, rfl, hp, hPt, hDt⟩, hSt.F rfl⟩⟩ ⟨(name_of_methodNamed B.named B.method).1.trans hi, hAO⟩ rfl s.heap [] _ hP hD va_S.rf (by rw [hlv]; exact hl)
theorem gset_nil_sub : ∀ (gs : List va_W) (i : Nat), ((gs.set i []).flatten).Sublist gs.flatten
  | [], i => by simp
  | x :: r, 0 => by
    simp only [List.set_cons_zero, List.flatten_cons, List.nil_append]
    exact List.sublist_append_right _ _
  | x :: r, i + 1 => by
    simp only [List.set_cons_succ, List.flatten_cons]
    exact (List.Sublist.refl x).append (gset_nil_sub r i)
theorem gset_nil_mem {gs : List va_W} {i : Nat} {q : Nat × va_E} (h : q ∈ (gs.set i []).flatten) : ∃ j g, j ≠ i ∧ gs[j]? = some g ∧ q ∈ g := by
  obtain ⟨g, hg, hq⟩ := List.mem_flatten.mp h
  obtain ⟨j, hj⟩ := List.getElem?_of_mem hg
  rw [List.getElem?_set] at hj
  by_cases e : i = j
  · rw [if_pos e] at hj
    split at hj
    · cases hj
      cases hq
    · cases hj
  · rw [if_neg e] at hj
    exact ⟨j, g, fun z => e z.symm, hj, hq⟩
section VMAKE
variable {C : Cx} {cc : ByteArray} {own : String} {nL : Nat} {R : Room} {G : mvG} {kc ks : Nat} {gs : List va_W} {pc : Nat} {lv : List (Option Value)} {st : List Value} {S : Type} {y : MethodName} {b : ByteArray} {n : Nat} {ret : Option FieldType} {As : List Value} {w0 : List va_W} {rv : S → Option Value} {post : S → Prop} {w1 : S → List va_W} {np idx : Nat} {rest : List Value}
theorem V_sel {gs' : List va_W} (is : List Nat) (his : is.map (fun i => gs[i]?) = gs'.map some) (hnd : is.Nodup) (k : V C kc ks gs' pc lv st) : V C kc ks gs pc lv st := fun H locs ls hP hD hS hl => k H locs ls (va_P_mem.mpr fun q hq => by
  obtain ⟨i, g, -, e, hg⟩ := gsub_mem his hq
  exact va_P_mem.mp hP q (List.mem_flatten.mpr ⟨g, List.mem_of_getElem? e, hg⟩)) (gsub_D his hnd hD) hS hl
theorem V_flat {gs' : List va_W} (h : gs.flatten = gs'.flatten) (k : V C kc ks gs' pc lv st) : V C kc ks gs pc lv st := fun H locs ls hP hD hS hl => k H locs ls (by rw [← h]; exact hP) (by rw [← h]; exact hD) hS hl
theorem V_aret (X : OK C cc own nL R G) (Y : RA C R G post w1) (u : S) (hp : post u) (hc : kc ≤ R.cells) (hs : ks ≤ R.slots) (hw : gs.flatten = (w1 u).flatten) (d : decode cc pc = .ok (.return_, 1)) : V C kc ks gs pc lv [] := V_widen hc hs (fun H locs ls hP hD hS hl => by
  have hG : CG C = G := X.2.2.2.2.2.2.2.2.2.2.2
  obtain ⟨hr, hlocks, Qc, free, hQ, hf, hq⟩ := Y
  rw [hG, hw] at hP
  rw [hw] at hD
  rw [hQ]
  exact W.vret X.1 X.2.1 hr (fun t ht hW => hq u t locs hp (by rw [ht]; exact hP) hD (by rw [ht]; exact hS)) (fun q h => hf _ (hS.2.2 q h)) d hlocks)
theorem V_objInit {a : Nat} (X : OK C cc own nL R G) (hl0 : Cond.methodLink own idx Lib.objectInit ∈ TB) (hi : Cond.instanceMethod Lib.objectInit ∈ TB) (hc : Cond.code Lib.objectInit ⟨#[0xb1]⟩ 1 none ∈ TB) (d : decode cc pc = .ok (.invokespecial idx, 3)) (hf : 1 ≤ R.frames) (hlo : (st.map fun v => v.category).sum + 12 ≤ R.locals) (k : V C kc ks gs (pc + 3) lv st) : V C kc ks gs pc lv (.ref a :: st) := fun H locs ls hP hD hS hl => by
  have hR : CR C = R := X.2.2.2.2.2.2.2.2.2.2.1
  refine W.objInit X.1 X.2.1 X.2.2.2.1 (X.2.2.2.2.1 _ hl0) (X.2.2.2.2.1 _ hi) (X.2.2.2.2.1 _ hc) rfl (hl.1.trans X.2.2.1.symm) rfl d (by rw [hR]; exact hf) ?_ ?_
  · rw [hR]
    show 2 * 0 + _ + 12 ≤ _
    omega
  · exact W.eq (g2 := F0 (Cm C) (pc + 3) ls st) rfl (k H locs ls hP hD hS hl)
theorem V_new {ci N : Nat} {Cn : String} {T : u_T} {fs : List Value} (ty : Nat → FieldType) (X : OK C cc own nL R G) (hc : vwCl[ci]? = some (Cn, T, N)) (hin : ∀ w ∈ u_ws Cn T N, w ∈ TB) (hty : ∀ k, k < N → parseFieldDescriptor (T k).2.2.1 = some (ty k)) (hfs : ∀ j, j < N → defaultValue (ty j) = vp_V fs j) (hcl : Cond.classLink own idx Cn ∈ TB) (hinst : Cond.instantiable Cn N ∈ TB) (hini : Cond.initialized Cn ∈ TB) (d : decode cc pc = .ok (.new idx, 3)) (h1 : kc + 1 ≤ R.cells) (h2 : ks + N ≤ R.slots) (k : ∀ q : Nat, V C (kc + 1) (ks + N) (gs ++ [gOb q ci fs]) (pc + 3) lv (.ref q :: st)) : V C kc ks gs pc lv st := fun H locs ls hP hD hS hl => by
  have hG : CG C = G := X.2.2.2.2.2.2.2.2.2.2.2
  have hR : CR C = R := X.2.2.2.2.2.2.2.2.2.2.1
  have hP' := hP
  rw [hG] at hP'
  refine va_new X.1 X.2.1 X.2.2.2.2.1 hin ty hty X.2.2.2.1 (X.2.2.2.2.1 _ hcl) (X.2.2.2.2.1 _ hinst) (X.2.2.2.2.1 _ hini) X.2.2.2.2.2.1 hP' hD hS X.2.2.2.2.2.2.2.2.1 hc hfs (by rw [hR]; exact h1) (by rw [hR]; exact h2) d (fun q H1 p1 d1 s1 => k q H1 locs ls ?_ ?_ s1 hl)
  · rw [hG]
    simpa [gOb, gAr, gRf] using p1
  · simpa [gOb, gAr, gRf] using d1
theorem V_newa {aty : ArrayType} {ty : FieldType} {N : Nat} {x : Int32} {f : Nat → Int32} (t0 : Nat) (X : OK C cc own nL R G) (hty : newarray.typeOf aty = ty) (ht : (TY G.2.1)[t0]? = some (G.2.1 t0, ty)) (hra : ∀ (U : State) (c : ClassId), va_RA U c ty → U.vm.findClass ("[" ++ ty.toString) = some c) (hw : Cond.arrayClass ty ∈ TB) (hN : x.toNatClampNeg = N) (h0 : ¬ x < 0) (hb : N * componentBytes ty ≤ 536870912) (hdef : ∀ c : ClassId, vp_cell c (N, .inl f) = arrV c N (fun _ => defaultValue ty)) (d : decode cc pc = .ok (.newarray aty, 2)) (h1 : kc + 1 ≤ R.cells) (h2 : ks + N ≤ R.slots)
    (k : ∀ q : Nat, V C (kc + 1) (ks + N) (gs ++ [gAr G q t0 N f]) (pc + 2) lv (.ref q :: st)) : V C kc ks gs pc lv (.int x :: st) := fun H locs ls hP hD hS hl => by
  have hG : CG C = G := X.2.2.2.2.2.2.2.2.2.2.2
  have hR : CR C = R := X.2.2.2.2.2.2.2.2.2.2.1
  have hP' := hP
  rw [hG] at hP'
  subst hty
  refine va_newa X.1 X.2.1 (X.2.2.2.2.1 _ hw) rfl X.2.2.2.2.2.1 hP' hD hS X.2.2.2.2.2.2.2.2.1 hdef h0 hN hb (by rw [hR]; exact h1) (by rw [hR]; exact h2) d (fun q c H1 k1 p1 d1 s1 => ?_)
  have e1 := hra _ _ (k1.2 (TY G.2.1).length (c, newarray.typeOf aty) (by simp)).2
  have e2 := hra _ _ (X.2.2.2.2.2.1.2 t0 _ ht).2
  have e3 : c = G.2.1 t0 := Option.some.inj (e1.symm.trans e2)
  subst e3
  refine k q H1 locs ls ?_ ?_ s1 hl
  · rw [hG]
    simpa [gOb, gAr, gRf] using p1
  · simpa [gOb, gAr, gRf] using d1
theorem V_anew {Cn : String} {N : Nat} {x : Int32} (t0 : Nat) (X : OK C cc own nL R G) (ht : (TY G.2.1)[t0]? = some (G.2.1 t0, .object Cn)) (hcl : Cond.classLink own idx Cn ∈ TB) (hov : va_AO Cn (Cs C)) (hN : x.toNatClampNeg = N) (h0 : ¬ x < 0) (hb : N * 4 ≤ 536870912) (d : decode cc pc = .ok (.anewarray idx, 3)) (h1 : kc + 1 ≤ R.cells) (h2 : ks + N ≤ R.slots)
    (k : ∀ q : Nat, V C (kc + 1) (ks + N) (gs ++ [gRf G q t0 N (fun _ => none)]) (pc + 3) lv (.ref q :: st)) : V C kc ks gs pc lv (.int x :: st) := fun H locs ls hP hD hS hl => by
  have hG : CG C = G := X.2.2.2.2.2.2.2.2.2.2.2
  have hR : CR C = R := X.2.2.2.2.2.2.2.2.2.2.1
  have hP' := hP
  rw [hG] at hP'
  refine va_newq X.1 X.2.1 X.2.2.2.1 (X.2.2.2.2.1 _ hcl) hov X.2.2.2.2.2.1 hP' hD hS X.2.2.2.2.2.2.2.2.1 h0 hN hb (by rw [hR]; exact h1) (by rw [hR]; exact h2) d (fun q c H1 k1 p1 d1 s1 => ?_)
  obtain ⟨_, _, _, _, _, e1⟩ := (k1.2 (TY G.2.1).length (c, .object Cn) (by simp)).2
  obtain ⟨_, _, _, _, _, e2⟩ := (X.2.2.2.2.2.1.2 t0 _ ht).2
  have e3 : c = G.2.1 t0 := Option.some.inj (e1.symm.trans e2)
  subst e3
  refine k q H1 locs ls ?_ ?_ s1 hl
  · rw [hG]
    simpa [gOb, gAr, gRf] using p1
  · simpa [gOb, gAr, gRf] using d1
theorem V_astO {g g2 : va_W} {a N v ci : Nat} {vs : List Value} {f : Nat → Option Nat} {r : vw_C} {E : String} {cA : ClassId} (t0 j : Nat) (X : OK C cc own nL R G) (i1 j1 i2 j2 : Nat) (hg : gs[i1]? = some g) (hj : g[j1]? = some (a, .inl (cA, N, .inr (.inr (.inr (.inr f)))))) (ht : (TY G.2.1)[t0]? = some (cA, .object E)) (hg2 : gs[i2]? = some g2) (hj2 : g2[j2]? = some (v, .inr (ci, vs))) (hc : vwCl[ci]? = some r) (hca : r.1 = E ∨ Cond.castable r.1 E ∈ NB) (hin : j < N) (hN : N < 2 ^ 31) (d : decode cc pc = .ok (.aastore, 1))
    (k : V C kc ks (gs.set i1 (g.set j1 (a, .inl (cA, N, .inr (.inr (.inr (.inr (va_up f j (some v))))))))) (pc + 1) lv st) : V C kc ks gs pc lv (.ref v :: .int (nI j) :: .ref a :: st) := fun H locs ls hP hD hS hl => by
  obtain ⟨m1, e1, e2⟩ := mv_flat hg hj
  obtain ⟨m2, e3, -⟩ := mv_flat hg2 hj2
  have hG : CG C = G := X.2.2.2.2.2.2.2.2.2.2.2
  have hP' := hP
  rw [hG] at hP'
  have hcl : (nI j).toNatClampNeg = j := nI_clamp (by omega)
  rcases hca with rfl | hca
  · exact va_astq X.1 X.2.1 X.2.2.2.2.2.1 hP' hD hS m1 t0 m2 ci e1 ht e3 hc (vp_in_nI hin hN) d (fun H1 locs1 p1 d1 s1 => k H1 locs1 ls (by rw [hG, ← e2]; rw [hcl] at p1; exact p1) (by rw [← e2]; rw [hcl] at d1; exact d1) s1 hl)
  · exact va_astqO X.1 X.2.1 X.2.2.2.2.2.1 hP' hD hS m1 t0 m2 ci e1 ht (X.2.2.2.2.2.2.1 _ hca) e3 hc (vp_in_nI hin hN) d (fun H1 locs1 p1 d1 s1 => k H1 locs1 ls (by rw [hG, ← e2]; rw [hcl] at p1; exact p1) (by rw [← e2]; rw [hcl] at d1; exact d1) s1 hl)
theorem V_putF {ci kf N : Nat} {T : u_T} {ty : FieldType} {g : va_W} {a : Nat} {fs : List Value} {v : Value} (X : OK C cc own nL R G) (Z : IN C) (F : FLK own idx ci kf ty true) (hc : vwCl[ci]? = some (own, T, N)) (hlk : Cond.fieldLink own idx own (T kf).2.1 (T kf).2.2.1 ∈ TB) (i j : Nat) (hg : gs[i]? = some g) (hj : g[j]? = some (a, .inr (ci, fs))) (hn : narrow ty v = v) (hf : fits ty v = true) (hl0 : kf < fs.length) (d : decode cc pc = .ok (.putfield idx, 3)) (k : V C kc ks (gs.set i (g.set j (a, .inr (ci, fs.set kf v)))) (pc + 3) lv st) : V C kc ks gs pc lv (v :: .ref a :: st) := fun H locs ls hP hD hS hl => by
  obtain ⟨Cn, T1, N1, ty0, h1, h2, h3, h4, h5, h6, h7, h8, h9⟩ := F
  have e := Option.some.inj (h1.symm.trans hc)
  rw [Prod.mk.injEq, Prod.mk.injEq] at e
  obtain ⟨rfl, rfl, rfl⟩ := e
  obtain ⟨n, e1, e2⟩ := mv_flat hg hj
  have hG : CG C = G := X.2.2.2.2.2.2.2.2.2.2.2
  have hP' := hP
  rw [hG] at hP'
  have hd : parseFieldDescriptor (T1 kf).2.2.1 = some ty := by rw [h4 kf h2, h6]
  exact va_putF X.1 X.2.1 X.2.2.2.2.1 h3 ty0 h4 h5 X.2.2.2.1 X.2.2.2.2.2.1 hP' hD hS n e1 h1 kf h2 (X.2.2.2.2.1 _ hlk) (fun x hx => by rw [h8] at hx; exact hx) h7 Z.1 h8 hd hn hf hl0 d (fun H1 locs1 p1 d1 s1 => k H1 locs1 ls (by rw [hG, ← e2]; exact p1) (by rw [← e2]; exact d1) s1 hl)
theorem V_arrq {g : va_W} {a N : Nat} {f : Nat → Option Nat} {cA : ClassId} (f' : Nat → Option Nat) (i j : Nat) (hg : gs[i]? = some g) (hj : g[j]? = some (a, .inl (cA, N, .inr (.inr (.inr (.inr f)))))) (h : ∀ j, j < N → f j = f' j) (k : V C kc ks (gs.set i (g.set j (a, .inl (cA, N, .inr (.inr (.inr (.inr f'))))))) pc lv st) : V C kc ks gs pc lv st := fun H locs ls hP hD hS hl => by
  obtain ⟨m, e1, e2⟩ := mv_flat hg hj
  have hcell : vp_cell cA (N, .inr (.inr (.inr (.inr f)))) = vp_cell cA (N, .inr (.inr (.inr (.inr f')))) := by
    rw [vp_cell_q, vp_cell_q]
    simp only [arrV]
    congr 1
    apply Array.ext
    · simp
    · intro i h1 h2
      simp at h1
      simp [h i h1]
  have hat := va_P_mem.mp hP _ (List.mem_of_getElem? e1)
  refine k H locs ls ?_ ?_ hS hl
  · rw [← e2]
    refine hP.set hD e1 ?_ (fun _ _ => rfl)
    show H[a]? = some (vp_cell cA _)
    rw [← hcell]
    exact hat
  · rw [← e2]
    exact hD.set e1
theorem blind_preA {As : List Value} {sz : Nat} : FrameBlind (va_Pc As (fun U => mvPre G w0 sz U ∧ mvAO U)) := fun a U g mk q => by
  obtain ⟨q1, q2, q3⟩ := q
  have h := blind_pre (G := G) (w0 := w0) (As := As) (sz := sz) a U g mk ⟨q1, q2⟩
  exact ⟨h.1, h.2, mvAO.moved (u := U) (U := U.calling g mk a) (Vm.Alike.refl U.vm) q3⟩
theorem V_callI {x i : Nat} {g : va_W} {rm : Room} (X : OK C cc own nL R G) (Z : mvAO (Cs C)) (hM : KA (Cl C) y b n rm G [.ref x] [g] post w1) (M : MI y b n none 0) (hlk : Cond.methodLink own idx y ∈ TB ∨ ∃ host, Cond.methodLinkNest own idx y host ∈ NB) (hini : y.name = "<init>") (hi : Cond.instanceMethod y ∈ TB) (d : decode cc pc = .ok (.invokespecial idx, 3)) (hg : gs[i]? = some g) (hroom : rm.frames + 1 ≤ R.frames ∧ 8 + (n + 11) + rm.locals ≤ R.locals) (hcs : kc + rm.cells ≤ R.cells ∧ ks + rm.slots ≤ R.slots) (hsm : (st.map fun v => v.category).sum ≤ 8)
    (kk : ∀ u, post u → V C (kc + rm.cells) (ks + rm.slots) (gs.set i [] ++ w1 u) (pc + 3) lv st) : V C kc ks gs pc lv (.ref x :: st) := fun H locs ls hP hD hS hl => by
  have hG : CG C = G := X.2.2.2.2.2.2.2.2.2.2.2
  have hR : CR C = R := X.2.2.2.2.2.2.2.2.2.2.1
  have hts := X.2.2.2.2.1
  have his : [i].map (fun i => gs[i]?) = [g].map some := by simp [hg]
  have hpre : ∀ U : State, U.heap = H → (Cs C).WarmedH U.vm → va_Pc [.ref x] (fun U => mvPre G [g] H.size U ∧ mvAO U) [Value.ref x].toArray U := fun U hU hW => by
    have h := sub_pre (As := [.ref x]) X his (by simp) hP hD hS U hU hW
    exact ⟨h.1, h.2, Z.moved hW.alike⟩
  have hrun : va_Run (Cp C) (Cl C) (Ce C) (CR C) (Cs C) (Cm C) (Ca C) (Cb C) (Cme C) (Cc C) H locs kc ks rm.cells rm.slots (F0 (Cm C) pc ls (.ref x :: st)) st (mvQ (fun _ : S => none) post (fun u t => va_P G.1 vwCl (w1 u).flatten t.heap ∧ va_D (va_A [g].flatten H.size) (w1 u).flatten) (va_A [g].flatten H.size) (Value.ref x :: []).toArray) (va_A [g].flatten H.size) := by
    rcases hlk with hlk | ⟨host, hlk⟩
    · have cw : CallB (CR C) (Cs C) (Ca C) own idx y b n none (Cond.code y b n none :: TB) rm rm.cells rm.slots 0 := by
        rw [hR]
        exact ⟨rfl, rfl, hroom.1, hroom.2, wgood M.1 hts, List.mem_cons_self, hts _ M.1, hts _ M.2.1, ⟨M.2.2.1, M.2.2.2.1⟩, M.sig, hts _ hlk⟩
      exact va_runI (As := []) (rest := st) ⟨X.1, X.2.1, X.2.2.1, X.2.2.2.1, hts⟩ (hM H.size) ⟨cw, hini, hts _ hi⟩ ⟨blind_preA, hpre⟩ rfl rfl hl.1 rfl (lv_room hsm) d (by rw [hR]; exact hcs)
    · have cw : va_CN (CR C) (Cs C) (Ca C) own idx y host b n none (Cond.code y b n none :: TB) rm rm.cells rm.slots 0 := by
        rw [hR]
        exact ⟨⟨rfl, rfl, hroom.1, hroom.2, wgood M.1 hts, List.mem_cons_self⟩, hts _ M.1, hts _ M.2.1, ⟨M.2.2.1, M.2.2.2.1⟩, M.sig, va_Nw.use rfl (X.2.2.2.2.2.2.1 _ hlk)⟩
      exact va_runIN (As := []) (rest := st) ⟨X.1, X.2.1, X.2.2.1, X.2.2.2.1, hts⟩ (hM H.size) ⟨cw, hini, hts _ hi⟩ ⟨blind_preA, hpre⟩ rfl rfl hl.1 rfl (lv_room hsm) d (by rw [hR]; exact hcs)
  intro T hT Y
  obtain ⟨v, st₀, t, T', L, h0, X', hL, e1, e2, ⟨⟨u, hv, hp, hb, hbd⟩, hz, hk⟩, stp⟩ := hrun T hT Y
  cases hv
  rw [h0] at hz hk
  have hF : ∀ q, va_A [g].flatten H.size q → CA C q := fun q hq => by
    rcases va_A_mem hq with ⟨x, hx, e⟩ | h
    · obtain ⟨i, g, -, e2, hg⟩ := gsub_mem his hx
      rw [← e]
      exact (va_D_mem.mp hD).2 x (List.mem_flatten.mpr ⟨g, List.mem_of_getElem? e2, hg⟩)
    · exact X.2.2.2.2.2.2.2.2.1 q (Nat.le_trans hS.1 h)
  have hapart : ∀ q ∈ (gs.set i []).flatten, ¬ va_A [g].flatten H.size q.1 := fun q hq hA => by
    obtain ⟨j, g', h1, h2, h3⟩ := gset_nil_mem hq
    rcases va_A_mem hA with ⟨z, hz, e⟩ | h
    · exact gdis hD h2 hg h1 h3 (by simpa using hz) e.symm
    · have := (va_P_mem.mp hP q (List.mem_flatten.mpr ⟨g', List.mem_of_getElem? h2, h3⟩)).lt
      omega
  have hP1 : va_P (CG C).1 vwCl (gs.set i [] ++ w1 u).flatten T'.heap := by
    rw [hG, e1, List.flatten_append]
    refine va_P_mem.mpr fun q hq => ?_
    rcases List.mem_append.mp hq with h | h
    · obtain ⟨j, g', h1, h2, h3⟩ := gset_nil_mem h
      rw [hG] at hP
      have hat := va_P_mem.mp hP q (List.mem_flatten.mpr ⟨g', List.mem_of_getElem? h2, h3⟩)
      exact hat.kept (hk q.1 hat.lt (hapart q h))
    · exact va_P_mem.mp hb q h
  have hD1 : va_D (CA C) (gs.set i [] ++ w1 u).flatten := by
    rw [List.flatten_append]
    have hd0 := va_D_mem.mp hD
    have hd1 := va_D_mem.mp hbd
    refine va_D_mem.mpr ⟨List.pairwise_append.mpr ⟨hd0.1.sublist (gset_nil_sub gs i), hd1.1, fun p hp q hq e => ?_⟩, fun q hq => ?_⟩
    · exact hapart p hp (by rw [e]; exact hd1.2 q hq)
    · rcases List.mem_append.mp hq with h | h
      · exact hd0.2 q ((gset_nil_sub gs i).subset h)
      · exact hF _ (hd1.2 q h)
  have hS1 : va_S (CA C) (Cs C).heap T'.heap (locs ++ L) := ⟨Nat.le_trans hS.1 (by rw [e1]; exact hz), fun q h1 h2 => by rw [e1, hk q (Nat.lt_of_lt_of_le h1 hS.1) (fun z => h2 (hF q z))]; exact hS.2.1 q h1 h2, fun q hq => by
    rcases List.mem_append.mp hq with h | h
    · exact hS.2.2 q h
    · exact hF _ (hL q h)⟩
  obtain ⟨t2, a1, b1⟩ := kk u hp T'.heap (locs ++ L) ls hP1 hD1 hS1 hl T' rfl X'
  exact ⟨t2, stp t2 a1, b1⟩
theorem V_callVR {rm : Nat × Nat} {bb : Nat} {g : va_W} {ci : Nat} {fs : List Value} {q : vw_C} (X : OK C cc own nL R G) (hM : KQ (Cl C) y b n ret rm G (.ref bb :: As) w0 rv post w1) (M : MI y b n ret np) (hlk : Cond.methodLink own idx y ∈ TB) (hi : Cond.instanceMethod y ∈ TB) (hs : Cond.selects y.cls y y ∈ TB)
    (d : decode cc pc = .ok (.invokevirtual idx, 3)) (is : List Nat) (his : is.map (fun i => gs[i]?) = w0.map some) (hnd : is.Nodup) (ig jg : Nat) (hg : gs[ig]? = some g) (hj : g[jg]? = some (bb, .inr (ci, fs))) (hc : vwCl[ci]? = some q) (hq : q.1 = y.cls) (hst : st = As.reverse ++ .ref bb :: rest) (hn : As.length = np) (hroom : rm.1 + 1 ≤ R.frames ∧ 8 + (n + 11) + rm.2 ≤ R.locals) (hsm : (rest.map fun v => v.category).sum ≤ 8) (hcs : kc ≤ R.cells ∧ ks ≤ R.slots)
    (kk : ∀ u, post u → V C kc ks (gput gs is (w1 u)) (pc + 3) lv ((rv u).toList ++ rest)) : V C kc ks gs pc lv st := by
  refine V_run (a := (Value.ref bb :: As).toArray) X hM.1 is his hnd (fun H locs ls hP hD hS hl => ?_) kk
  have hG : CG C = G := X.2.2.2.2.2.2.2.2.2.2.2
  have hR : CR C = R := X.2.2.2.2.2.2.2.2.2.2.1
  obtain ⟨m1, e1, -⟩ := mv_flat hg hj
  subst hst
  have hts := X.2.2.2.2.1
  have cw : CallW (CR C) (Cs C) (Ca C) own y.cls idx y b n ret (Cond.code y b n ret :: TB) { frames := rm.1, locals := rm.2 } 0 0 np := by
    rw [hR]
    exact ⟨⟨rfl, rfl, hroom.1, hroom.2, wgood M.1 hts, List.mem_cons_self, hts _ M.1, hts _ M.2.1, ⟨M.2.2.1, M.2.2.2.1⟩, M.sig, hts _ hlk⟩, hts _ hi, hts _ hs⟩
  refine va_runV (As := As) (rest := rest) (C := y.cls) ⟨X.1, X.2.1, X.2.2.1, X.2.2.2.1, hts⟩ (hM.2 H.size) cw ⟨blind_pre, ?_, sub_pre X his hnd hP hD hS⟩ rfl hn hl.1 rfl (lv_room hsm) d (by rw [hR]; exact hcs)
  rw [hG] at hP
  have := va_recv X.2.2.2.2.2.1 hP hc e1
  rw [hq] at this
  exact this
end VMAKE
