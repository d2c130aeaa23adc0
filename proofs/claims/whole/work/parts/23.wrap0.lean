/-! the law's world: the class (49 cells), the reference (9), the long[1] of answers -/
def lw (cI cZ cR cJ : ClassId) (a : Nat → Nat) (σ : CS) (τ : MS) (o : Nat → Int64) : Nat → va_E := fun k => if k < 49 then cv cI cR a σ k else if k < 58 then mv cI cZ (fun j => a (49 + j)) τ (k - 49) else if k = 58 then .inl (cJ, 1, .inr (.inl o)) else .inl (cJ, 1, .inr (.inl (fun _ => 0)))
def aU (A : Nat → Prop) (U : State) : Prop := aZ A U ∧ va_Nc "java/lang/IllegalStateException" "java/lang/IndexOutOfBoundsException" U ∧ va_Nc "java/lang/IllegalArgumentException" "java/lang/IndexOutOfBoundsException" U
theorem aU_to {A : Nat → Prop} {U U' : State} (hh : U'.heap = U.heap) (hv : U'.vm = U.vm) (h : aU A U) : aU A U' := ⟨aZ_to hh hv h.1, va_Nc.moved (by rw [hv]; exact Vm.Alike.refl U.vm) h.2.1, va_Nc.moved (by rw [hv]; exact Vm.Alike.refl U.vm) h.2.2⟩
theorem aU_at {A B : Nat → Prop} {s U : State} {locs : List Loc} {H : Heap} (hS : va_S A s.heap H locs) (hU : U.heap = H) (hW : s.WarmedH U.vm) (hBA : ∀ q, B q → A q) (h : aU A s) : aU B U := ⟨aZ_at hS hU hW hBA h.1, va_Nc.moved hW.alike h.2.1, va_Nc.moved hW.alike h.2.2⟩
theorem aBu_blind {D : va_G} {tys : List (ClassId × FieldType)} {n : Nat} {a : Nat → Nat} {v : Nat → va_E} {sz : Nat} {as : List Value} {A : Nat → Prop} : FrameBlind (va_Pc as (fun U => aB D tys n a v sz U ∧ aU A U)) := fun x U g mk q =>
  ⟨q.1, (aB_blind (as := as) x U g mk ⟨q.1, q.2.1⟩).2, aU_to (U := U) (U' := U.calling g mk x) rfl rfl q.2.2⟩
/-- a method that catches what it calls: one cell of six slots more, where that has thrown -/
def aK (l : Launch) (D : va_G) (tys : List (ClassId × FieldType)) (n : Nat) (a : Nat → Nat) (y : MethodName) (ws : List Cond) (rm : Room) (as : List Value) (v : Nat → va_E) (r : Option Value) (v' : Nat → va_E) : Prop :=
  ∀ sz : Nat, Met l y ws rm (va_Pc as (fun U => aB D tys n a v sz U ∧ aU (aA n a sz) U)) (aQ D n a v' r (aA n a sz)) 1 6 (aA n a sz)
def sYh (y : MethodName) (C : String) (bytes : ByteArray) (maxL : Nat) (ret : Option FieldType) (hh : List (Nat × Nat × Nat × Nat)) (ws : List Cond) (k : Nat) : Prop :=
  (∃ ws', ws = Cond.codeWith y bytes maxL ret hh :: ws') ∧ y.cls = C ∧ y.cls ≠ "java/lang/invoke/MethodHandle" ∧ y.cls ≠ "java/lang/invoke/VarHandle" ∧ (parseMethodDescriptor y.desc).map (fun d => d.parameters.length) = some k ∧ plainName y.cls = true
def aCk (p : Program) (s : State) (m : MethodId) (args : Array Value) (meth : Method) (c : Code) (D : va_G) (tys : List (ClassId × FieldType)) (A : Nat → Prop) (cc : ByteArray) (nL : Nat) (Ts : List Cond) (own : String) (ret : Option FieldType) (hh : List (Nat × Nat × Nat × Nat)) : Prop :=
  aC p s m args meth c D tys A cc nL Ts own ret ∧ aU A s ∧ c.exceptionTable.toList = tableOf hh
section WRP
variable {p : Program} {l : Launch} {e : Env} {R : Room} {s : State} {m : MethodId} {args : Array Value} {below : List Frame} {meth : Method} {c : Code} {Q : State → Prop} {D : va_G} {tys : List (ClassId × FieldType)} {A : Nat → Prop} {cells slots nL n pc : Nat} {a : Nat → Nat} {v v' : Nat → va_E} {lv : List (Option Value)} {st rest : List Value} {cc bytes : ByteArray} {Ts ws : List Cond} {own C' : String} {ret ret' : Option FieldType} {y : MethodName} {rm : Room} {maxL ix b : Nat} {r : Option Value} {hh : List (Nat × Nat × Nat × Nat)}
theorem aw_widen {k n9 : Nat} (h1 : cells ≤ k) (h2 : slots ≤ n9) (kk : aW p l e R s m args below meth c Q D A k n9 n a v pc lv st) : aW p l e R s m args below meth c Q D A cells slots n a v pc lv st := fun H locs ls hP hD hS hL => W.widen h1 h2 (kk H locs ls hP hD hS hL)
/-- a part of the world: n0 cells, found by f -/
theorem wv_part {n0 : Nat} {a0 : Nat → Nat} {v0 : Nat → va_E} {f : Nat → Nat} {H : Heap} (hf : ∀ k, k < n0 → f k < n) (ha : ∀ k, k < n0 → a (f k) = a0 k) (hv : ∀ k, k < n0 → v (f k) = v0 k) (hP : va_P D vwCl (wv n a v) H) : va_P D vwCl (wv n0 a0 v0) H := by
  intro k q hq
  obtain ⟨h1, rfl⟩ := wv_lt hq
  have h9 := hP (f k) _ (wv_get (hf k h1))
  rw [ha k h1, hv k h1] at h9
  exact h9
theorem aJ_part {n0 : Nat} {a0 : Nat → Nat} {f : Nat → Nat} (hf : ∀ k, k < n0 → f k < n) (ha : ∀ k, k < n0 → a (f k) = a0 k) (hi : ∀ i j, i < n0 → j < n0 → f i = f j → i = j) (hJ : aJ n a) : aJ n0 a0 := fun i j h1 h2 e => hi i j h1 h2 (hJ _ _ (hf i h1) (hf j h2) (by rw [ha i h1, ha j h2]; exact e))
theorem aA_part {n0 : Nat} {a0 : Nat → Nat} {f : Nat → Nat} {H : Heap} {locs : List Loc} (hf : ∀ k, k < n0 → f k < n) (ha : ∀ k, k < n0 → a (f k) = a0 k) (hD : va_D A (wv n a v)) (hS : va_S A s.heap H locs) (hA : ∀ q : Nat, s.heap.size ≤ q → A q) : ∀ q, aA n0 a0 H.size q → A q := by
  rintro q (⟨k, hk, rfl⟩ | h)
  · rw [← ha k hk]; exact hD.2 _ _ (wv_get (hf k hk))
  · exact hA q (Nat.le_trans hS.1 h)
theorem aw_runs {n0 mc ms : Nat} {a0 : Nat → Nat} {v0 v0' v1 : Nat → va_E} {f : Nat → Nat} {x : Array Value} (C : aC p s m args meth c D tys A cc nL Ts own ret) (hf : ∀ k, k < n0 → f k < n) (ha : ∀ k, k < n0 → a (f k) = a0 k) (hi : ∀ i j, i < n0 → j < n0 → f i = f j → i = j) (hv : ∀ k, k < n0 → v (f k) = v0 k)
    (hv1 : ∀ k, k < n0 → v1 (f k) = v0' k) (hv2 : ∀ k, k < n → (∀ j, j < n0 → f j ≠ k) → v1 k = v k)
    (hr : ∀ (H : Heap) (locs : List Loc) (ls : Array Slot), va_P D vwCl (wv n0 a0 v0) H → aJ n0 a0 → va_S A s.heap H locs → (∀ q, aA n0 a0 H.size q → A q) → aL ls lv → va_Run p l e R s m args below meth c H locs cells slots mc ms (F0 m pc ls st) rest (aQ D n0 a0 v0' r (aA n0 a0 H.size) x) (aA n0 a0 H.size))
    (k : aW p l e R s m args below meth c Q D A (cells + mc) (slots + ms) n a v1 (pc + 3) lv (r.toList ++ rest)) : aW p l e R s m args below meth c Q D A cells slots n a v pc lv st := fun H locs ls hP hD hS hL => by
  intro T hT X
  have hJ := aJ_of hD
  have hfree := aA_part hf ha hD hS C.2.2.2.2
  obtain ⟨v9, st₀, t, T', L, h0, X', hLL, e1, e2, ⟨⟨hv9, hp⟩, hz, hk⟩, sg⟩ := hr H locs ls (wv_part hf ha hv hP) (aJ_part hf ha hi hJ) hS hfree hL T hT X
  cases hv9
  rw [h0] at hz hk
  have hlt : ∀ k, k < n → a k < H.size := fun k hk => (hP k _ (wv_get hk)).lt
  obtain ⟨t2, a1, b1⟩ := k T'.heap (locs ++ L) ls (by
      intro k q hq
      obtain ⟨h1, rfl⟩ := wv_lt hq
      rw [e1]
      by_cases c1 : ∃ j, j < n0 ∧ f j = k
      · obtain ⟨j, hj, rfl⟩ := c1
        rw [ha j hj, hv1 j hj]
        exact hp j _ (wv_get hj)
      · rw [hv2 k h1 (fun j hj z => c1 ⟨j, hj, z⟩)]
        refine (hP k _ (wv_get h1)).kept (hk _ (hlt k h1) ?_)
        rintro (⟨j, hj, z⟩ | z)
        · exact c1 ⟨j, hj, hJ _ _ (hf j hj) h1 ((ha j hj).trans z.symm)⟩
        · exact absurd (hlt k h1) (by omega))
    (aJ_D hJ (fun j hj => hD.2 j _ (wv_get hj)))
    ⟨Nat.le_trans hS.1 (by rw [e1]; exact hz), fun q h1 h2 => by rw [e1, hk q (Nat.lt_of_lt_of_le h1 hS.1) (fun z => h2 (hfree q z))]; exact hS.2.1 q h1 h2, fun q hq => by
      rcases List.mem_append.mp hq with h | h
      · exact hS.2.2 q h
      · exact hfree _ (hLL q h)⟩ hL T' rfl X'
  exact ⟨t2, sg t2 a1, b1⟩
theorem aw_subV {As : List Value} {n0 : Nat} {a0 : Nat → Nat} {v0 v0' v1 : Nat → va_E} {f : Nat → Nat} (C : aC p s m args meth c D tys A cc nL Ts own ret) (d : decode cc pc = .ok (.invokevirtual ix, 3)) (g : GoodIn Ts (wsV own ix C' y ws)) (sy : sY y C' bytes maxL ret' ws As.length)
    (hk : aChk rm maxL R lv nL cells slots 0 0 rest = true) (hf : ∀ k, k < n0 → f k < n) (ha : ∀ k, k < n0 → a (f k) = a0 k) (hi : ∀ i j, i < n0 → j < n0 → f i = f j → i = j) (hv : ∀ k, k < n0 → v (f k) = v0 k) (hv1 : ∀ k, k < n0 → v1 (f k) = v0' k) (hv2 : ∀ k, k < n → (∀ j, j < n0 → f j ≠ k) → v1 k = v k)
    (hr : aRec n0 a0 v0 b C') (hM : aM l D tys n0 a0 y ws rm (.ref b :: As) v0 r v0')
    (k : aW p l e R s m args below meth c Q D A cells slots n a v1 (pc + 3) lv (r.toList ++ rest)) : aW p l e R s m args below meth c Q D A cells slots n a v pc lv (As.reverse ++ .ref b :: rest) := by
  obtain ⟨hR, hrc, hrs, hnl, hcs, hst⟩ := aChk_spec hk
  obtain ⟨⟨ws', hw⟩, s1, s2, s3, s4, -⟩ := sy
  refine aw_runs (rest := rest) (x := (Value.ref b :: As).toArray) (mc := 0) (ms := 0) C hf ha hi hv hv1 hv2 (fun H locs ls hP hJ hS _ hL => ?_) k
  exact va_runV (As := As) (rest := rest) C.1 (hM H.size) (cwV As.length C.1.2.2.2.2 g hw hrc hrs ⟨s1, s2, s3, s4⟩ hR) ⟨aB_blind, aRec_cell C hP hr, fun U hU hW => ⟨rfl, by rw [hU], by rw [hU]; exact hP, va_K.moved hW.alike C.2.1, hJ⟩⟩ rfl rfl (hL.1.trans hnl) rfl (lv_room hst) d hcs
/-- a call that throws E, caught by the entry x of the table, those ahead of it don't -/
theorem aw_subT {As : List Value} {n0 : Nat} {a0 : Nat → Nat} {v0 : Nat → va_E} {f : Nat → Nat} {E : String} (C : aC p s m args meth c D tys A cc nL Ts own ret) (hU : aU A s) (d : decode cc pc = .ok (.invokevirtual ix, 3)) (g : GoodIn Ts (wsV own ix C' y ws)) (sy : sY y C' bytes maxL ret' ws As.length)
    (hk : aChk rm maxL R lv nL cells slots 1 6 rest = true) (hf : ∀ k, k < n0 → f k < n) (ha : ∀ k, k < n0 → a (f k) = a0 k) (hi : ∀ i j, i < n0 → j < n0 → f i = f j → i = j) (hv : ∀ k, k < n0 → v (f k) = v0 k)
    (hr : aRec n0 a0 v0 b C') (hM : aT l D tys n0 a0 y ws rm (.ref b :: As) v0 E) (pre : List ExceptionTableEntry) (x : ExceptionTableEntry) (suf : List ExceptionTableEntry) (hsplit : c.exceptionTable.toList = pre ++ x :: suf)
    (hpass : ∀ z ∈ pre, covers z pc = false ∨ (z.catchType ≠ 0 ∧ ∃ nm : String, (Cond.classLink own z.catchType nm).before args s = true ∧ va_Nc E nm s)) (hx : covers x pc = true) (h0 : x.catchType ≠ 0) (hlink : Cond.classLink own x.catchType E ∈ Ts) (hE : E ∈ aEx)
    (k : ∀ q, aW p l e R s m args below meth c Q D A (cells + 1) (slots + 6) n a v x.handlerPc lv [.ref q]) : aW p l e R s m args below meth c Q D A cells slots n a v pc lv (As.reverse ++ .ref b :: rest) := fun H locs ls hP hD hS hL => by
  obtain ⟨hR, hrc, hrs, hnl, hcs, hst⟩ := aChk_spec hk
  obtain ⟨⟨ws', hw⟩, s1, s2, s3, s4, -⟩ := sy
  have hfree := aA_part hf ha hD hS C.2.2.2.2
  have hJ := aJ_of hD
  have hP0 := wv_part hf ha hv hP
  have hr9 : vx_Run p l e R s m args below meth c H locs cells slots 1 6 (F0 m pc ls (As.reverse ++ .ref b :: rest)) rest (fun _ _ _ => False) (aXq D n0 a0 v0 E (aA n0 a0 H.size)) (aA n0 a0 H.size) := vx_runV (As := As) (rest := rest) (g := F0 m pc ls (As.reverse ++ .ref b :: rest)) C.1 (hM H.size) (cwV As.length C.1.2.2.2.2 g hw hrc hrs ⟨s1, s2, s3, s4⟩ hR) ⟨aBx_blind, aRec_cell C hP0 hr, fun U hU9 hW => ⟨rfl, ⟨by rw [hU9], by rw [hU9]; exact hP0, va_K.moved hW.alike C.2.1, aJ_part hf ha hi hJ⟩, aZ_at hS hU9 hW hfree hU.1⟩⟩ rfl rfl (hL.1.trans hnl) rfl (lv_room hst) d hcs
  intro T hT X
  have hlt : ∀ k, k < n → a k < H.size := fun k hk => (hP k _ (wv_get hk)).lt
  rcases hr9 T hT X with ⟨v9, st₀, t, T', L, h0, X', hLL, e1, e2, hF, sg⟩ | ⟨q, st₀, t, T', L, E', ce, h9, X', hLL, e1, e2, ⟨rfl, hp, hF⟩, hce, hcv, hcl, sg⟩
  · exact hF.elim
  · obtain ⟨hz, hk9⟩ := hF
    rw [h9] at hz hk9
    have hP1 : va_P D vwCl (wv n a v) T'.heap := by
      intro k q hq
      obtain ⟨h1, rfl⟩ := wv_lt hq
      rw [e1]
      by_cases c1 : ∃ j, j < n0 ∧ f j = k
      · obtain ⟨j, hj, rfl⟩ := c1
        rw [ha j hj, hv j hj]
        exact hp j _ (wv_get hj)
      · refine (hP k _ (wv_get h1)).kept (hk9 _ (hlt k h1) ?_)
        rintro (⟨j, hj, z⟩ | z)
        · exact c1 ⟨j, hj, hJ _ _ (hf j hj) h1 ((ha j hj).trans z.symm)⟩
        · exact absurd (hlt k h1) (by omega)
    have hS1 : va_S A s.heap T'.heap (locs ++ L) := ⟨Nat.le_trans hS.1 (by rw [e1]; exact hz), fun q h1 h2 => by rw [e1, hk9 q (Nat.lt_of_lt_of_le h1 hS.1) (fun z => h2 (hfree q z))]; exact hS.2.1 q h1 h2, fun q hq => by
      rcases List.mem_append.mp hq with h | h
      · exact hS.2.2 q h
      · exact hfree _ (hLL q h)⟩
    obtain ⟨t2, a1, b1⟩ := vx_catch (H := T'.heap) (rest := rest) (ls := ls) (pc := pc) C.1.2.2.2.1 pre x suf hsplit hpass hx h0 (C.1.2.2.2.2 _ hlink) (va_Nw.use rfl (hU.1.2.2.2.1 _ hE)) (by rw [e1]; exact hce) hcv hcl (k q T'.heap (locs ++ L) ls hP1 (aJ_D hJ (fun j hj => hD.2 j _ (wv_get hj))) hS1 hL) T' rfl X'
    exact ⟨t2, sg.trans a1, b1⟩
/-- a call of such a method -/
theorem aw_callK {As : List Value} (C : aC p s m args meth c D tys A cc nL Ts own ret) (hU : aU A s) (d : decode cc pc = .ok (.invokestatic ix, 3)) (g : GoodIn Ts (va_wsS own ix y ws)) (sy : sYh y C' bytes maxL ret' hh ws As.length)
    (hR : rm.frames + 1 ≤ R.frames ∧ 8 + (maxL + 11) + rm.locals ≤ R.locals) (hrc : rm.cells = 1) (hrs : rm.slots = 6) (hnl : lv.length = nL) (hcs : cells + 1 ≤ R.cells ∧ slots + 6 ≤ R.slots) (hst : (rest.map fun v => v.category).sum ≤ 8) (hM : aK l D tys n a y ws rm As v r v')
    (k : aW p l e R s m args below meth c Q D A (cells + 1) (slots + 6) n a v' (pc + 3) lv (r.toList ++ rest)) : aW p l e R s m args below meth c Q D A cells slots n a v pc lv (As.reverse ++ rest) := by
  obtain ⟨⟨ws', hw⟩, s1, s2, s3, s4, -⟩ := sy
  refine aw_run (rest := rest) (x := As.toArray) (mc := 1) (ms := 6) C (fun H locs ls hP hD hS hL => ?_) k
  exact vx_runSW (hh := hh) (As := As) (rest := rest) C.1 (hM H.size) (vx_cwSW As.length C.1.2.2.2.2 g hw hrc hrs ⟨s2, s3, s4⟩ hR) ⟨aBu_blind, fun U hU9 hW => ⟨rfl, ⟨by rw [hU9], by rw [hU9]; exact hP, va_K.moved hW.alike C.2.1, aJ_of hD⟩, aU_at hS hU9 hW (aA_in hD hS C.2.2.2.2) hU⟩⟩ rfl rfl (hL.1.trans hnl) rfl (lv_room hst) d hcs
theorem aK_of {as : List Value} {lv0 : List (Option Value)} {k : Nat} (sy : sYh y own bytes nL ret hh ws k) {j : Nat} (hE : aEl as ++ List.replicate j none = lv0) (hl : lv0.length = nL)
    (body : ∀ (p : Program) (e : Env) (s : State) (m : MethodId) (args : Array Value) (below : List Frame) (meth : Method) (c : Code) (A : Nat → Prop), aCk p s m args meth c D tys A bytes nL ws own ret hh →
      aW p l e rm s m args below meth c (MQ below (aQ D n a v' r A) args s 1 6 A) D A 0 0 n a v 0 lv0 []) : aK l D tys n a y ws rm as v r v' := by
  intro sz
  obtain ⟨⟨ws', hw⟩, s1, s2, s3, s4, s5⟩ := sy
  subst s1
  have key : vx_Met l y ws rm (va_Pc as (fun U => aB D tys n a v sz U ∧ aU (aA n a sz) U)) (aQ D n a v' r (aA n a sz)) (fun _ _ _ => False) 1 6 (aA n a sz) := by
    refine vx_ofWH (cc := bytes) (maxL := nL) (ret := ret) (hh := hh) s5 hw ?_
    intro p e s m args below meth c s₁ B hml hv
    have hts := atoms_spec (ws := ws) B.pre
    have htb := vx_table (x := y) B (hts (Cond.codeWith y bytes nL ret hh) (by rw [hw]; exact List.mem_cons_self))
    obtain ⟨rfl, ⟨hsz, hP, hK, hJ⟩, hU⟩ := hv
    subst hsz
    rw [lg_entry_eq]
    exact vx_ret (body p e s m _ below meth c _ ⟨⟨⟨B.exec, B.bytes, hml, findClass_of_methodNamed B.named, hts⟩, hK, B.notSynchronized, B.returns, fun q hq => Or.inr hq⟩, hU, htb⟩ s.heap [] _ hP (aJ_D hJ (fun k hk => Or.inl ⟨k, hk, rfl⟩)) va_S.rf (aE_L hE hl))
  intro p e ha hc hk s m args below hf happ hp ht
  obtain ⟨n9, o, h1, h2, h3, h4⟩ := key p e ha hc hk s m args below hf happ hp ht
  refine ⟨n9, o, h1, h2, h3, ?_⟩
  rcases h4 with h | ⟨q, -, E, ce, L, hF, -⟩
  · exact h
  · exact hF.elim
end WRP
