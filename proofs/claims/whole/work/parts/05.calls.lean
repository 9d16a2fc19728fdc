-- ===== contracts KQ, their entry and end, calls at the level of groups =====
def mvPre (G : mvG) (gs : List va_W) (sz : Nat) (U : State) : Prop :=
  U.heap.size = sz ∧ va_P G.1 vwCl gs.flatten U.heap ∧ va_K G.1 vwCl (TY G.2.1) U ∧ va_D (fun _ => True) gs.flatten ∧ mvNT U ∧ mvSZ G.2.2 (va_A gs.flatten sz) U U.heap
def mvQ {S : Type} (rv : S → Option Value) (post : S → Prop) (B : S → State → Prop) (A : Nat → Prop) : Array Value → State → Outcome → State → Prop := fun _ st oc t => (∃ u : S, oc = .returned (rv u) ∧ post u ∧ B u t) ∧ va_F A st t
def sameA (w w' : List va_W) : Prop := w.map (List.map Prod.fst) = w'.map (List.map Prod.fst)
/-- a method's contract: from the groups w0, with the arguments As, it returns rv u and leaves the groups w1 u, for a u of which post says what it says -/
def KQ {S : Type} (l : Launch) (y : MethodName) (b : ByteArray) (n : Nat) (ret : Option FieldType) (rm : Nat × Nat) (G : mvG) (As : List Value) (w0 : List va_W) (rv : S → Option Value) (post : S → Prop) (w1 : S → List va_W) : Prop :=
  (∀ u, post u → sameA (w1 u) w0) ∧ ∀ sz, Met l y (Cond.code y b n ret :: TB) { frames := rm.1, locals := rm.2 } (va_Pc As (mvPre G w0 sz)) (mvQ rv post (fun u t => va_P G.1 vwCl (w1 u).flatten t.heap) (va_A w0.flatten sz)) 0 0 (va_A w0.flatten sz)
theorem va_P_mem {D : va_G} {cl : List vw_C} {ws : va_W} {H : Heap} : va_P D cl ws H ↔ ∀ q ∈ ws, va_at D cl q H := ⟨fun h q hq => by
  obtain ⟨k, hk⟩ := List.getElem?_of_mem hq
  exact h k q hk, fun h k q hk => h q (List.mem_of_getElem? hk)⟩
theorem va_D_mem {A : Nat → Prop} {ws : va_W} : va_D A ws ↔ ws.Pairwise (fun p q => p.1 ≠ q.1) ∧ ∀ q ∈ ws, A q.1 := by
  constructor
  · intro h
    refine ⟨List.pairwise_iff_getElem.mpr fun i j hi hj hij e => ?_, fun q hq => ?_⟩
    · have := h.1 i j ws[i] ws[j] (List.getElem?_eq_getElem hi) (List.getElem?_eq_getElem hj) e
      omega
    · obtain ⟨k, hk⟩ := List.getElem?_of_mem hq
      exact h.2 k q hk
  · intro h
    refine ⟨fun i j p q hi hj e => ?_, fun k q hk => h.2 q (List.mem_of_getElem? hk)⟩
    obtain ⟨hi1, hi2⟩ := List.getElem?_eq_some_iff.mp hi
    obtain ⟨hj1, hj2⟩ := List.getElem?_eq_some_iff.mp hj
    rcases Nat.lt_trichotomy i j with z | z | z
    · exact absurd (by rw [hi2, hj2]; exact e) (List.pairwise_iff_getElem.mp h.1 i j hi1 hj1 z)
    · exact z
    · exact absurd (by rw [hi2, hj2]; exact e.symm) (List.pairwise_iff_getElem.mp h.1 j i hj1 hi1 z)
theorem va_D_addr {A : Nat → Prop} {gs gs' : List va_W} (h : sameA gs' gs) (hD : va_D A gs.flatten) : va_D A gs'.flatten := by
  have e : gs'.flatten.map Prod.fst = gs.flatten.map Prod.fst := by rw [List.map_flatten, List.map_flatten]; exact congrArg List.flatten h
  obtain ⟨h1, h2⟩ := va_D_mem.mp hD
  have p1 : (gs.flatten.map Prod.fst).Pairwise (fun a b => a ≠ b) := List.pairwise_map.mpr h1
  rw [← e] at p1
  refine va_D_mem.mpr ⟨List.pairwise_map.mp p1, fun q hq => ?_⟩
  have : q.1 ∈ gs'.flatten.map Prod.fst := List.mem_map_of_mem hq
  rw [e] at this
  obtain ⟨r, hr, hr2⟩ := List.mem_map.mp this
  rw [← hr2]
  exact h2 r hr
def gput : List va_W → List Nat → List va_W → List va_W
  | gs, i :: is, w :: ws => gput (gs.set i w) is ws
  | gs, _, _ => gs
theorem gput_mem : ∀ (is : List Nat) (gs ws : List va_W), is.length = ws.length → ∀ g ∈ gput gs is ws, g ∈ ws ∨ ∃ i, i ∉ is ∧ gs[i]? = some g
  | [], gs, [], _, g, hg => by
    obtain ⟨k, hk⟩ := List.getElem?_of_mem hg
    exact Or.inr ⟨k, by simp, hk⟩
  | [], gs, w :: ws, h, _, _ => by simp at h
  | i :: is, gs, [], h, _, _ => by simp at h
  | i :: is, gs, w :: ws, h, g, hg => by
    rcases gput_mem is (gs.set i w) ws (by simpa using h) g hg with h1 | ⟨k, h1, h2⟩
    · exact Or.inl (List.mem_cons_of_mem _ h1)
    · rw [List.getElem?_set] at h2
      by_cases e : i = k
      · subst e
        rw [if_pos rfl] at h2
        split at h2
        · cases h2
          exact Or.inl List.mem_cons_self
        · cases h2
      · rw [if_neg e] at h2
        exact Or.inr ⟨k, by simp; exact ⟨fun z => e z.symm, h1⟩, h2⟩
theorem gset_addr {gs : List va_W} {i : Nat} {w g : va_W} (hg : gs[i]? = some g) (h : w.map Prod.fst = g.map Prod.fst) : sameA (gs.set i w) gs := by
  unfold sameA
  rw [List.map_set, h, ← List.map_set]
  congr 1
  apply List.ext_getElem?
  intro k
  rw [List.getElem?_set]
  split
  · rename_i e
    subst e
    split
    · exact hg.symm
    · rename_i hl
      rw [List.getElem?_eq_none (by omega)]
  · rfl
theorem gput_addr : ∀ (is : List Nat) (gs ws w0 : List va_W), is.map (fun i => (gs.map (List.map Prod.fst))[i]?) = w0.map (fun w => some (w.map Prod.fst)) → sameA ws w0 → sameA (gput gs is ws) gs
  | [], gs, ws, w0, h, h2 => by cases ws <;> rfl
  | i :: is, gs, [], w0, h, h2 => rfl
  | i :: is, gs, w :: ws, [], h, h2 => by simp at h
  | i :: is, gs, w :: ws, v :: w0, h, h2 => by
    simp only [sameA, List.map_cons, List.cons.injEq] at h h2
    have h3 := h.1
    rw [List.getElem?_map] at h3
    cases hg : gs[i]? with
    | none => rw [hg] at h3; simp at h3
    | some g =>
      rw [hg] at h3
      simp at h3
      have e1 : sameA (gs.set i w) gs := gset_addr hg (by rw [h2.1, h3])
      have e2 : sameA (gput (gs.set i w) is ws) (gs.set i w) := gput_addr is (gs.set i w) ws w0 (by rw [show (gs.set i w).map (List.map Prod.fst) = gs.map (List.map Prod.fst) from e1]; exact h.2) h2.2
      exact e2.trans e1
theorem gsub_get {gs w0 : List va_W} {is : List Nat} (his : is.map (fun i => gs[i]?) = w0.map some) {k : Nat} {g : va_W} (hk : w0[k]? = some g) : ∃ i, is[k]? = some i ∧ gs[i]? = some g := by
  have h1 : (is.map (fun i => gs[i]?))[k]? = some (some g) := by rw [his, List.getElem?_map, hk]; rfl
  rw [List.getElem?_map] at h1
  cases hi : is[k]? with
  | none => rw [hi] at h1; cases h1
  | some i => rw [hi] at h1; exact ⟨i, rfl, Option.some.inj h1⟩
theorem gsub_mem {gs w0 : List va_W} {is : List Nat} (his : is.map (fun i => gs[i]?) = w0.map some) {q : Nat × va_E} (hq : q ∈ w0.flatten) : ∃ i g, i ∈ is ∧ gs[i]? = some g ∧ q ∈ g := by
  obtain ⟨g, hg, hqg⟩ := List.mem_flatten.mp hq
  obtain ⟨k, hk⟩ := List.getElem?_of_mem hg
  obtain ⟨i, h1, h2⟩ := gsub_get his hk
  exact ⟨i, g, List.mem_of_getElem? h1, h2, hqg⟩
theorem gdis {A : Nat → Prop} {gs : List va_W} (hD : va_D A gs.flatten) {i j : Nat} {g h : va_W} (hi : gs[i]? = some g) (hj : gs[j]? = some h) (hne : i ≠ j) {p q : Nat × va_E} (hp : p ∈ g) (hq : q ∈ h) : p.1 ≠ q.1 := by
  have h1 := (List.pairwise_flatten.mp (va_D_mem.mp hD).1).2
  obtain ⟨hi1, hi2⟩ := List.getElem?_eq_some_iff.mp hi
  obtain ⟨hj1, hj2⟩ := List.getElem?_eq_some_iff.mp hj
  rcases Nat.lt_or_ge i j with z | z
  · exact List.pairwise_iff_getElem.mp h1 i j hi1 hj1 z p (by rw [hi2]; exact hp) q (by rw [hj2]; exact hq)
  · exact fun e => List.pairwise_iff_getElem.mp h1 j i hj1 hi1 (by omega) q (by rw [hj2]; exact hq) p (by rw [hi2]; exact hp) e.symm
theorem gsub_D {A : Nat → Prop} {gs w0 : List va_W} {is : List Nat} (his : is.map (fun i => gs[i]?) = w0.map some) (hnd : is.Nodup) (hD : va_D A gs.flatten) : va_D A w0.flatten := by
  obtain ⟨h1, h2⟩ := va_D_mem.mp hD
  refine va_D_mem.mpr ⟨List.pairwise_flatten.mpr ⟨fun g hg => ?_, List.pairwise_iff_getElem.mpr fun a b ha hb hab => ?_⟩, fun q hq => ?_⟩
  · obtain ⟨k, hk⟩ := List.getElem?_of_mem hg
    obtain ⟨i, -, e⟩ := gsub_get his hk
    exact (List.pairwise_flatten.mp h1).1 g (List.mem_of_getElem? e)
  · obtain ⟨i, i1, i2⟩ := gsub_get his (List.getElem?_eq_getElem ha)
    obtain ⟨j, j1, j2⟩ := gsub_get his (List.getElem?_eq_getElem hb)
    intro p hp q hq
    refine gdis hD i2 j2 ?_ hp hq
    obtain ⟨ia, ib⟩ := List.getElem?_eq_some_iff.mp i1
    obtain ⟨ja, jb⟩ := List.getElem?_eq_some_iff.mp j1
    have := List.pairwise_iff_getElem.mp hnd a b ia ja hab
    rw [ib, jb] at this
    exact this
  · obtain ⟨i, g, -, e, hg⟩ := gsub_mem his hq
    exact h2 q (List.mem_flatten.mpr ⟨g, List.mem_of_getElem? e, hg⟩)
theorem va_A_mem {ws : va_W} {sz q : Nat} (h : va_A ws sz q) : (∃ x ∈ ws, x.1 = q) ∨ sz ≤ q := by
  rcases h with ⟨k, e, h⟩ | h
  · exact Or.inl ⟨(q, e), List.mem_of_getElem? h, rfl⟩
  · exact Or.inr h
theorem va_A_of {ws : va_W} {sz : Nat} {x : Nat × va_E} (h : x ∈ ws) : va_A ws sz x.1 := by
  obtain ⟨k, hk⟩ := List.getElem?_of_mem h
  exact Or.inl ⟨k, x.2, hk⟩
theorem wgood {y : MethodName} {b : ByteArray} {n : Nat} {ret : Option FieldType} {s : State} {args : Array Value} (hc : Cond.code y b n ret ∈ TB) (hts : ∀ w ∈ TB, w.before args s = true) : ∀ w ∈ (Cond.code y b n ret :: TB), ∀ (a' : Array Value) (U : State), s.WarmedH U.vm → w.before a' U = true := fun w hw a' U hW => by
  have h1 : w ∈ TB := by
    rcases List.mem_cons.mp hw with e | e
    · rw [e]; exact hc
    · exact e
  exact word_at hW (good_of_word (List.mem_filter.mp h1).2) (hts w h1)
/-- what the tables say of a method: its code, its class, how many parameters -/
def MI (y : MethodName) (b : ByteArray) (n : Nat) (ret : Option FieldType) (k : Nat) : Prop :=
  Cond.code y b n ret ∈ TB ∧ Cond.initialized y.cls ∈ TB ∧ y.cls ≠ "java/lang/invoke/MethodHandle" ∧ y.cls ≠ "java/lang/invoke/VarHandle" ∧ (parseMethodDescriptor y.desc).map (fun d => d.parameters.length) = some k
theorem MI.sig {y : MethodName} {b : ByteArray} {n : Nat} {ret : Option FieldType} {k : Nat} (h : MI y b n ret k) : ∀ sig, parseMethodDescriptor y.desc = some sig → k = sig.parameters.length := fun sig h2 => by
  have h3 := h.2.2.2.2
  rw [h2] at h3
  exact (Option.some.inj h3).symm
section VCALL
variable {C : Cx} {cc : ByteArray} {own : String} {nL : Nat} {R : Room} {G : mvG} {kc ks : Nat} {gs : List va_W} {pc : Nat} {lv : List (Option Value)} {st : List Value} {S : Type} {y : MethodName} {b : ByteArray} {n : Nat} {ret : Option FieldType} {rm : Nat × Nat} {As : List Value} {w0 : List va_W} {rv : S → Option Value} {post : S → Prop} {w1 : S → List va_W} {np idx : Nat} {rest : List Value}
theorem blind_pre {As : List Value} {sz : Nat} : FrameBlind (va_Pc As (mvPre G w0 sz)) := fun a U g mk q => by
  obtain ⟨q1, q2, q3, q4, q5, q6, q7⟩ := q
  exact ⟨q1, q2, q3, va_K.moved (u := U) (U := U.calling g mk a) (Vm.Alike.refl U.vm) q4, q5, mvNT.same (s := U) (U := U.calling g mk a) rfl q6, mvSZ.moved (u := U) (U := U.calling g mk a) (Vm.Alike.refl U.vm) q7⟩
theorem sub_pre (X : OK C cc own nL R G) {is : List Nat} (his : is.map (fun i => gs[i]?) = w0.map some) (hnd : is.Nodup) {H : Heap} {locs : List Loc} (hP : va_P (CG C).1 vwCl gs.flatten H) (hD : va_D (CA C) gs.flatten) (hS : va_S (CA C) (Cs C).heap H locs) : ∀ U : State, U.heap = H → (Cs C).WarmedH U.vm → va_Pc As (mvPre G w0 H.size) As.toArray U := fun U hU hW => by
  have hG : CG C = G := X.2.2.2.2.2.2.2.2.2.2.2
  rw [hG] at hP
  refine ⟨rfl, by rw [hU], ?_, va_K.moved hW.alike X.2.2.2.2.2.1, (gsub_D his hnd hD).weaken (fun _ _ _ _ => trivial), mvNT.warm hW X.2.2.2.2.2.2.1, ?_⟩
  · rw [hU]
    refine va_P_mem.mpr fun q hq => ?_
    obtain ⟨i, g, -, e, hg⟩ := gsub_mem his hq
    exact va_P_mem.mp hP q (List.mem_flatten.mpr ⟨g, List.mem_of_getElem? e, hg⟩)
  · rw [hU]
    refine mvSZ.narrow (mvSZ.moved hW.alike (mvSZ.kept X.2.2.2.2.2.2.2.1 hS.2.1)) fun q hq => ?_
    rcases va_A_mem hq with ⟨x, hx, e⟩ | h
    · obtain ⟨i, g, -, e2, hg⟩ := gsub_mem his hx
      rw [← e]
      exact (va_D_mem.mp hD).2 x (List.mem_flatten.mpr ⟨g, List.mem_of_getElem? e2, hg⟩)
    · exact X.2.2.2.2.2.2.2.2.1 q (Nat.le_trans hS.1 h)
theorem V_run {a : Array Value} (X : OK C cc own nL R G) (hsame : ∀ u, post u → sameA (w1 u) w0) (is : List Nat) (his : is.map (fun i => gs[i]?) = w0.map some) (hnd : is.Nodup)
    (hr : ∀ (H : Heap) (locs : List Loc) (ls : Array Slot), va_P (CG C).1 vwCl gs.flatten H → va_D (CA C) gs.flatten → va_S (CA C) (Cs C).heap H locs → lv_has ls (CL C) (lvA 0 lv) → va_Run (Cp C) (Cl C) (Ce C) (CR C) (Cs C) (Cm C) (Ca C) (Cb C) (Cme C) (Cc C) H locs kc ks 0 0 (F0 (Cm C) pc ls st) rest (mvQ rv post (fun u t => va_P G.1 vwCl (w1 u).flatten t.heap) (va_A w0.flatten H.size) a) (va_A w0.flatten H.size))
    (kk : ∀ u, post u → V C kc ks (gput gs is (w1 u)) (pc + 3) lv ((rv u).toList ++ rest)) : V C kc ks gs pc lv st := fun H locs ls hP hD hS hl => by
  have hG : CG C = G := X.2.2.2.2.2.2.2.2.2.2.2
  intro T hT Y
  obtain ⟨v, st₀, t, T', L, h0, X', hL, e1, e2, ⟨⟨u, hv, hp, hb⟩, hz, hk⟩, stp⟩ := hr H locs ls hP hD hS hl T hT Y
  cases hv
  rw [h0] at hz hk
  have hF : ∀ q, va_A w0.flatten H.size q → CA C q := fun q hq => by
    rcases va_A_mem hq with ⟨x, hx, e⟩ | h
    · obtain ⟨i, g, -, e2, hg⟩ := gsub_mem his hx
      rw [← e]
      exact (va_D_mem.mp hD).2 x (List.mem_flatten.mpr ⟨g, List.mem_of_getElem? e2, hg⟩)
    · exact X.2.2.2.2.2.2.2.2.1 q (Nat.le_trans hS.1 h)
  have hsa := hsame u hp
  have hlen : is.length = (w1 u).length := by
    have h1 := congrArg List.length his
    have h2 := congrArg List.length hsa
    simp at h1 h2
    omega
  have hP1 : va_P (CG C).1 vwCl (gput gs is (w1 u)).flatten T'.heap := by
    rw [hG, e1]
    refine va_P_mem.mpr fun q hq => ?_
    obtain ⟨g, hg, hqg⟩ := List.mem_flatten.mp hq
    rcases gput_mem is gs (w1 u) hlen g hg with h1 | ⟨i, h1, h2⟩
    · exact va_P_mem.mp hb q (List.mem_flatten.mpr ⟨g, h1, hqg⟩)
    · rw [hG] at hP
      have hat := va_P_mem.mp hP q (List.mem_flatten.mpr ⟨g, List.mem_of_getElem? h2, hqg⟩)
      refine hat.kept (hk q.1 hat.lt fun hA => ?_)
      rcases va_A_mem hA with ⟨x, hx, e⟩ | h
      · obtain ⟨j, g', hj, e2, hg'⟩ := gsub_mem his hx
        exact gdis hD h2 e2 (fun z => h1 (z ▸ hj)) hqg hg' e.symm
      · have := hat.lt
        omega
  have hD1 : va_D (CA C) (gput gs is (w1 u)).flatten := va_D_addr (gput_addr is gs (w1 u) w0 (by
    have h1 := congrArg (List.map (Option.map (List.map Prod.fst))) his
    simpa [List.map_map, Function.comp_def] using h1) hsa) hD
  have hS1 : va_S (CA C) (Cs C).heap T'.heap (locs ++ L) := ⟨Nat.le_trans hS.1 (by rw [e1]; exact hz), fun q h1 h2 => by rw [e1, hk q (Nat.lt_of_lt_of_le h1 hS.1) (fun z => h2 (hF q z))]; exact hS.2.1 q h1 h2, fun q hq => by
    rcases List.mem_append.mp hq with h | h
    · exact hS.2.2 q h
    · exact hF _ (hL q h)⟩
  obtain ⟨t2, a1, b1⟩ := kk u hp T'.heap (locs ++ L) ls hP1 hD1 hS1 hl T' rfl X'
  exact ⟨t2, stp t2 a1, b1⟩
theorem V_callV {bb : Nat} {g : va_W} {ci : Nat} {fs : List Value} {q : vw_C} {rf rl : Nat} (X : OK C cc own nL { frames := rf, locals := rl } G) (hM : KQ (Cl C) y b n ret rm G (.ref bb :: As) w0 rv post w1) (M : MI y b n ret np) (hlk : Cond.methodLink own idx y ∈ TB) (hi : Cond.instanceMethod y ∈ TB) (hs : Cond.selects y.cls y y ∈ TB)
    (d : decode cc pc = .ok (.invokevirtual idx, 3)) (is : List Nat) (his : is.map (fun i => gs[i]?) = w0.map some) (hnd : is.Nodup) (ig jg : Nat) (hg : gs[ig]? = some g) (hj : g[jg]? = some (bb, .inr (ci, fs))) (hc : vwCl[ci]? = some q) (hq : q.1 = y.cls) (hst : st = As.reverse ++ .ref bb :: rest) (hn : As.length = np) (hroom : rm.1 + 1 ≤ rf ∧ 8 + (n + 11) + rm.2 ≤ rl) (hsm : (rest.map fun v => v.category).sum ≤ 8) (h0 : kc = 0 ∧ ks = 0)
    (kk : ∀ u, post u → V C kc ks (gput gs is (w1 u)) (pc + 3) lv ((rv u).toList ++ rest)) : V C kc ks gs pc lv st := by
  refine V_run (a := (Value.ref bb :: As).toArray) X hM.1 is his hnd (fun H locs ls hP hD hS hl => ?_) kk
  have hG : CG C = G := X.2.2.2.2.2.2.2.2.2.2.2
  have hR : CR C = { frames := rf, locals := rl } := X.2.2.2.2.2.2.2.2.2.2.1
  obtain ⟨m1, e1, -⟩ := mv_flat hg hj
  subst hst
  have hts := X.2.2.2.2.1
  have cw : CallW (CR C) (Cs C) (Ca C) own y.cls idx y b n ret (Cond.code y b n ret :: TB) { frames := rm.1, locals := rm.2 } 0 0 np := by
    rw [hR]
    exact ⟨⟨rfl, rfl, hroom.1, hroom.2, wgood M.1 hts, List.mem_cons_self, hts _ M.1, hts _ M.2.1, ⟨M.2.2.1, M.2.2.2.1⟩, M.sig, hts _ hlk⟩, hts _ hi, hts _ hs⟩
  refine va_runV (As := As) (rest := rest) (C := y.cls) ⟨X.1, X.2.1, X.2.2.1, X.2.2.2.1, hts⟩ (hM.2 H.size) cw ⟨blind_pre, ?_, sub_pre X his hnd hP hD hS⟩ rfl hn hl.1 rfl (lv_room hsm) d ⟨by rw [h0.1]; exact Nat.zero_le _, by rw [h0.2]; exact Nat.zero_le _⟩
  rw [hG] at hP
  have := va_recv X.2.2.2.2.2.1 hP hc e1
  rw [hq] at this
  exact this
theorem V_callS {rf rl : Nat} (X : OK C cc own nL { frames := rf, locals := rl } G) (hM : KQ (Cl C) y b n ret rm G As w0 rv post w1) (M : MI y b n ret np) (hlk : Cond.methodLink own idx y ∈ TB) (hi : Cond.static y ∈ TB)
    (d : decode cc pc = .ok (.invokestatic idx, 3)) (is : List Nat) (his : is.map (fun i => gs[i]?) = w0.map some) (hnd : is.Nodup) (hst : st = As.reverse ++ rest) (hn : As.length = np) (hroom : rm.1 + 1 ≤ rf ∧ 8 + (n + 11) + rm.2 ≤ rl) (hsm : (rest.map fun v => v.category).sum ≤ 8) (h0 : kc = 0 ∧ ks = 0)
    (kk : ∀ u, post u → V C kc ks (gput gs is (w1 u)) (pc + 3) lv ((rv u).toList ++ rest)) : V C kc ks gs pc lv st := by
  refine V_run (a := As.toArray) X hM.1 is his hnd (fun H locs ls hP hD hS hl => ?_) kk
  have hR : CR C = { frames := rf, locals := rl } := X.2.2.2.2.2.2.2.2.2.2.1
  subst hst
  have hts := X.2.2.2.2.1
  have cw : CallB (CR C) (Cs C) (Ca C) own idx y b n ret (Cond.code y b n ret :: TB) { frames := rm.1, locals := rm.2 } 0 0 np := by
    rw [hR]
    exact ⟨rfl, rfl, hroom.1, hroom.2, wgood M.1 hts, List.mem_cons_self, hts _ M.1, hts _ M.2.1, ⟨M.2.2.1, M.2.2.2.1⟩, M.sig, hts _ hlk⟩
  exact va_runS (As := As) (rest := rest) ⟨X.1, X.2.1, X.2.2.1, X.2.2.2.1, hts⟩ (hM.2 H.size) ⟨cw, hts _ hi⟩ ⟨blind_pre, sub_pre X his hnd hP hD hS⟩ rfl hn hl.1 rfl (lv_room hsm) d ⟨by rw [h0.1]; exact Nat.zero_le _, by rw [h0.2]; exact Nat.zero_le _⟩
theorem V_callSN {rf rl : Nat} {host : String} (X : OK C cc own nL { frames := rf, locals := rl } G) (hM : KQ (Cl C) y b n ret rm G As w0 rv post w1) (M : MI y b n ret np) (hlk : Cond.methodLinkNest own idx y host ∈ NB) (hi : Cond.static y ∈ TB)
    (d : decode cc pc = .ok (.invokestatic idx, 3)) (is : List Nat) (his : is.map (fun i => gs[i]?) = w0.map some) (hnd : is.Nodup) (hst : st = As.reverse ++ rest) (hn : As.length = np) (hroom : rm.1 + 1 ≤ rf ∧ 8 + (n + 11) + rm.2 ≤ rl) (hsm : (rest.map fun v => v.category).sum ≤ 8) (h0 : kc = 0 ∧ ks = 0)
    (kk : ∀ u, post u → V C kc ks (gput gs is (w1 u)) (pc + 3) lv ((rv u).toList ++ rest)) : V C kc ks gs pc lv st := by
  refine V_run (a := As.toArray) X hM.1 is his hnd (fun H locs ls hP hD hS hl => ?_) kk
  have hR : CR C = { frames := rf, locals := rl } := X.2.2.2.2.2.2.2.2.2.2.1
  subst hst
  have hts := X.2.2.2.2.1
  have cw : va_CN (CR C) (Cs C) (Ca C) own idx y host b n ret (Cond.code y b n ret :: TB) { frames := rm.1, locals := rm.2 } 0 0 np := by
    rw [hR]
    exact ⟨⟨rfl, rfl, hroom.1, hroom.2, wgood M.1 hts, List.mem_cons_self⟩, hts _ M.1, hts _ M.2.1, ⟨M.2.2.1, M.2.2.2.1⟩, M.sig, va_Nw.use rfl (X.2.2.2.2.2.2.1 _ hlk)⟩
  exact va_runSN (As := As) (rest := rest) ⟨X.1, X.2.1, X.2.2.1, X.2.2.2.1, hts⟩ (hM.2 H.size) ⟨cw, hts _ hi, trivial⟩ ⟨blind_pre, sub_pre X his hnd hP hD hS⟩ rfl hn hl.1 rfl (lv_room hsm) d ⟨by rw [h0.1]; exact Nat.zero_le _, by rw [h0.2]; exact Nat.zero_le _⟩
/-- the method may return here: what its answer must be -/
def RT (C : Cx) (G : mvG) (ret : Option FieldType) (rv : S → Option Value) (post : S → Prop) (w1 : S → List va_W) : Prop :=
  (Cme C).sig.returnType = ret ∧ (Cme C).locks = false ∧ ∃ (Qc : Array Value → State → Outcome → State → Prop) (free : Addr → Prop), CQ C = MQ (Cb C) Qc (Ca C) (Cs C) 0 0 free ∧ (∀ q, CA C q → free q) ∧ ∀ (u : S) (t : State) (locs : List Loc), post u → va_P G.1 vwCl (w1 u).flatten t.heap → va_S (CA C) (Cs C).heap t.heap locs → Qc (Ca C) (Cs C) (.returned (rv u)) t
theorem KQ.mk {l : Launch} (hy : plainName y.cls = true) (hadr : ∀ u, post u → sameA (w1 u) w0) (lv0 : List (Option Value)) (hn : (lg_sl As).length ≤ n) (hlv : lvA 0 lv0 = lv_args 0 As)
    (h : ∀ C : Cx, OK C b y.cls n { frames := rm.1, locals := rm.2 } G → RT C G ret rv post w1 → Cl C = l → V C 0 0 w0 0 lv0 []) : KQ l y b n ret rm G As w0 rv post w1 := by
  refine ⟨hadr, fun sz => ?_⟩
  refine Met.ofW (cc := b) (maxL := n) (ret := ret) hy rfl ?_
  intro p e s m args below meth c s₁ B hml hv
  obtain ⟨rfl, hsz, hP, hK, hD0, hN, hZ⟩ := hv
  subst hsz
  have hts : ∀ w ∈ TB, w.before As.toArray s = true := fun w hw => atoms_spec (ws := Cond.code y b n ret :: TB) B.pre w (List.mem_cons_of_mem _ hw)
  have hD := hD0.self (sz := s.heap.size)
  rw [lg_entry_eq]
  have hl := lv_entry As hn
  let C : Cx := (p, l, e, (headSpec (Cond.code y b n ret :: TB) { frames := rm.1, locals := rm.2 }).room, s, m, As.toArray, below, meth, c, MQ below (mvQ rv post (fun u t => va_P G.1 vwCl (w1 u).flatten t.heap) (va_A w0.flatten s.heap.size)) As.toArray s 0 0 (va_A w0.flatten s.heap.size), G, va_A w0.flatten s.heap.size, n)
  exact h C ⟨B.exec, B.bytes, hml, findClass_of_methodNamed B.named, hts, hK, hN, hZ, fun q hq => Or.inr hq, rfl, rfl, rfl⟩ ⟨B.returns, B.notSynchronized, _, _, rfl, fun q hq => hq, fun u t locs hp hPt hSt => ⟨⟨u, rfl, hp, hPt⟩, hSt.F rfl⟩⟩ rfl s.heap [] _ hP hD va_S.rf (by rw [hlv]; exact hl)
theorem V_iret {ty : FieldType} {v : Int32} (X : OK C cc own nL R G) (Y : RT C G (some ty) rv post w1) (u : S) (hp : post u) (hrv : rv u = some (.int v)) (hn : narrow ty (.int v) = .int v) (hw : gs = w1 u) (d : decode cc pc = .ok (.ireturn, 1)) : V C 0 0 gs pc lv [.int v] := fun H locs ls hP hD hS hl => by
  have hG : CG C = G := X.2.2.2.2.2.2.2.2.2.2.2
  obtain ⟨hr, hlocks, Qc, free, hQ, hf, hq⟩ := Y
  rw [hG, hw] at hP
  rw [hQ]
  refine W.zret X.1 X.2.1 hr hn (fun t ht hW => ?_) (fun q h => hf _ (hS.2.2 q h)) d hlocks
  rw [← hrv]
  exact hq u t locs hp (by rw [ht]; exact hP) (by rw [ht]; exact hS)
theorem V_lret {v : Int64} (X : OK C cc own nL R G) (Y : RT C G (some .long) rv post w1) (u : S) (hp : post u) (hrv : rv u = some (.long v)) (hw : gs = w1 u) (d : decode cc pc = .ok (.lreturn, 1)) : V C 0 0 gs pc lv [.long v] := fun H locs ls hP hD hS hl => by
  have hG : CG C = G := X.2.2.2.2.2.2.2.2.2.2.2
  obtain ⟨hr, hlocks, Qc, free, hQ, hf, hq⟩ := Y
  rw [hG, hw] at hP
  rw [hQ]
  refine W.lret X.1 X.2.1 hr (fun t ht hW => ?_) (fun q h => hf _ (hS.2.2 q h)) d hlocks
  rw [← hrv]
  exact hq u t locs hp (by rw [ht]; exact hP) (by rw [ht]; exact hS)
theorem V_vret (X : OK C cc own nL R G) (Y : RT C G none rv post w1) (u : S) (hp : post u) (hrv : rv u = none) (hw : gs = w1 u) (d : decode cc pc = .ok (.return_, 1)) : V C 0 0 gs pc lv [] := fun H locs ls hP hD hS hl => by
  have hG : CG C = G := X.2.2.2.2.2.2.2.2.2.2.2
  obtain ⟨hr, hlocks, Qc, free, hQ, hf, hq⟩ := Y
  rw [hG, hw] at hP
  rw [hQ]
  refine W.vret X.1 X.2.1 hr (fun t ht hW => ?_) (fun q h => hf _ (hS.2.2 q h)) d hlocks
  rw [← hrv]
  exact hq u t locs hp (by rw [ht]; exact hP) (by rw [ht]; exact hS)
end VCALL
