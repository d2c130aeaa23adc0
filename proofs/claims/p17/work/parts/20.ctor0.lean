/-! constructors: a world that grows -/
def aPu (n : Nat) (a : Nat → Nat) (q : Nat) : Nat → Nat := fun k => if k = n then q else a k
def vPu (n : Nat) (v : Nat → va_E) (x : va_E) : Nat → va_E := fun k => if k = n then x else v k
theorem wv_push {n : Nat} {a : Nat → Nat} {v : Nat → va_E} {q : Nat} {x : va_E} : wv (n + 1) (aPu n a q) (vPu n v x) = wv n a v ++ [(q, x)] := by
  simp only [wv, List.range_succ, List.map_append, List.map_cons, List.map_nil, aPu, vPu, if_true]
  congr 1
  apply List.map_congr_left
  intro k hk
  have := List.mem_range.mp hk
  rw [if_neg (by omega), if_neg (by omega)]
theorem wv_cong {n : Nat} {a a' : Nat → Nat} {v v' : Nat → va_E} (ha : ∀ k, k < n → a k = a' k) (hv : ∀ k, k < n → v k = v' k) : wv n a v = wv n a' v' := by
  apply List.map_congr_left
  intro k hk
  have := List.mem_range.mp hk
  rw [ha k this, hv k this]
theorem va_RA_one {U : State} {cA cB : ClassId} {ty : FieldType} (h1 : va_RA U cA ty) (h2 : va_RA U cB ty) : cA = cB := by
  cases ty with
  | object C =>
    obtain ⟨-, -, -, -, -, e1⟩ := h1
    obtain ⟨-, -, -, -, -, e2⟩ := h2
    exact Option.some.inj (e1.symm.trans e2)
  | _ => exact Option.some.inj (Eq.trans (Eq.symm h1) h2)
/-- addresses and cells behind a constructor's call: cell i is the object, behind the n cells come the new ones -/
def aAp (n : Nat) (a : Nat → Nat) (f : Nat → Nat) : Nat → Nat := fun k => if k < n then a k else f (k - n + 1)
def vAp (n i : Nat) (v : Nat → va_E) (w : Nat → va_E) : Nat → va_E := fun k => if k = i then w 0 else if k < n then v k else w (k - n + 1)
def aNQ (D : va_G) (sz b m : Nat) (V : (Nat → Nat) → Nat → va_E) : Array Value → State → Outcome → State → Prop := fun _ st oc t => (oc = .returned none ∧ ∃ f : Nat → Nat, f 0 = b ∧ aJ (1 + m) f ∧ (∀ k, 0 < k → k < 1 + m → sz ≤ f k) ∧ va_P D vwCl (wv (1 + m) f (V f)) t.heap) ∧ va_F (aA 1 (fun _ => b) sz) st t
/-- what the tables say beside the words: arrays of rows, and the private constructor of Row -/
def aE (U : State) : Prop := va_AO RX1 U ∧ va_Nw (.methodLinkNest RX0 11 yX1_init "HutRings") U ∧ va_Nw (.methodLinkNest RX2 11 yX1_init "HutRings") U
theorem aE.same {u U : State} (hv : u.vm = U.vm) (h : aE u) : aE U := ⟨va_AO.moved (by rw [hv]; exact Vm.Alike.refl U.vm) h.1, va_Nw.same rfl hv h.2.1, va_Nw.same rfl hv h.2.2⟩
theorem aE.warm {s U : State} (hW : s.WarmedH U.vm) (h : aE s) : aE U := ⟨va_AO.moved hW.alike h.1, va_Nw.warmM hW h.2.1, va_Nw.warmM hW h.2.2⟩
/-- a constructor's contract: of the object b, with the fields x0, it makes m cells more, of ms slots -/
def aN (l : Launch) (D : va_G) (tys : List (ClassId × FieldType)) (y : MethodName) (ws : List Cond) (rm : Room) (As : List Value) (b : Nat) (x0 : va_E) (m ms : Nat) (V : (Nat → Nat) → Nat → va_E) : Prop :=
  ∀ sz : Nat, Met l y ws rm (va_Pc (.ref b :: As) (fun U => aB D tys 1 (fun _ => b) (fun _ => x0) sz U ∧ aE U)) (aNQ D sz b m V) m ms (aA 1 (fun _ => b) sz)
def aCi (p : Program) (s : State) (m : MethodId) (args : Array Value) (meth : Method) (c : Code) (D : va_G) (tys : List (ClassId × FieldType)) (A : Nat → Prop) (cc : ByteArray) (nL : Nat) (Ts : List Cond) (own : String) (ret : Option FieldType) : Prop :=
  aC p s m args meth c D tys A cc nL Ts own ret ∧ aE s ∧ meth.name = "<init>"
theorem aBn_blind {D : va_G} {tys : List (ClassId × FieldType)} {n : Nat} {a : Nat → Nat} {v : Nat → va_E} {sz : Nat} {as : List Value} : FrameBlind (va_Pc as (fun U => aB D tys n a v sz U ∧ aE U)) := fun x U g mk q =>
  ⟨q.1, (aB_blind (as := as) x U g mk ⟨q.1, q.2.1⟩).2, aE.same (u := U) (U := U.calling g mk x) rfl q.2.2⟩
section CTR
variable {p : Program} {l : Launch} {e : Env} {R : Room} {s : State} {m : MethodId} {args : Array Value} {below : List Frame} {meth : Method} {c : Code} {Q : State → Prop} {D : va_G} {tys : List (ClassId × FieldType)} {A : Nat → Prop} {cells slots nL n pc : Nat} {a : Nat → Nat} {v v' : Nat → va_E} {lv : List (Option Value)} {st rest : List Value} {cc bytes : ByteArray} {Ts ws : List Cond} {own C' : String} {ret : Option FieldType} {y : MethodName} {rm : Room} {maxL ix b : Nat}
theorem aW_cong {a' : Nat → Nat} (ha : ∀ k, k < n → a k = a' k) (hv : ∀ k, k < n → v k = v' k) (k : aW p l e R s m args below meth c Q D A cells slots n a' v' pc lv st) : aW p l e R s m args below meth c Q D A cells slots n a v pc lv st := fun H locs ls hP hD hS hL => by
  rw [wv_cong ha hv] at hP hD
  exact k H locs ls hP hD hS hL
theorem aw_new (C : aC p s m args meth c D tys A cc nL Ts own ret) {ci N : Nat} {Cn : String} {T : u_T} {fs : List Value} {ty : Nat → FieldType} (d : decode cc pc = .ok (.new ix, 3)) (hin : ∀ w ∈ u_ws Cn T N, w ∈ Ts) (hty : ∀ k, k < N → parseFieldDescriptor (T k).2.2.1 = some (ty k)) (hcl : Cond.classLink own ix Cn ∈ Ts) (hinst : Cond.instantiable Cn N ∈ Ts) (hini : Cond.initialized Cn ∈ Ts) (hc : vwCl[ci]? = some (Cn, T, N)) (hfs : ∀ j, j < N → defaultValue (ty j) = vp_V fs j) (hcells : cells + 1 ≤ R.cells) (hslots : slots + N ≤ R.slots)
    (k : ∀ q, aW p l e R s m args below meth c Q D A (cells + 1) (slots + N) (n + 1) (aPu n a q) (vPu n v (.inr (ci, fs))) (pc + 3) lv (.ref q :: st)) : aW p l e R s m args below meth c Q D A cells slots n a v pc lv st := fun H locs ls hP hD hS hL =>
  va_new C.1.1 C.1.2.1 C.1.2.2.2.2 hin ty hty C.1.2.2.2.1 (C.1.2.2.2.2 _ hcl) (C.1.2.2.2.2 _ hinst) (C.1.2.2.2.2 _ hini) C.2.1 hP hD hS C.2.2.2.2 hc hfs hcells hslots d (fun q H1 hP1 hD1 hS1 => k q H1 locs ls (by rw [wv_push]; exact hP1) (by rw [wv_push]; exact hD1) hS1 hL)
theorem aw_newa (C : aC p s m args meth c D tys A cc nL Ts own ret) {atype : ArrayType} {ty : FieldType} {t0 N' : Nat} {cA : ClassId} {x : Int32} {a0 : vp_A} (d : decode cc pc = .ok (.newarray atype, 2)) (harr : Cond.arrayClass ty ∈ Ts) (hty : newarray.typeOf atype = ty) (ht : tys[t0]? = some (cA, ty)) (ha : ∀ cB : ClassId, vp_cell cB a0 = arrV cB N' (fun _ => defaultValue ty)) (hn : ¬ x < 0) (hN : x.toNatClampNeg = N') (hbytes : N' * componentBytes ty ≤ 536870912) (hcells : cells + 1 ≤ R.cells) (hslots : slots + N' ≤ R.slots)
    (k : ∀ q, aW p l e R s m args below meth c Q D A (cells + 1) (slots + N') (n + 1) (aPu n a q) (vPu n v (.inl (cA, a0))) (pc + 2) lv (.ref q :: st)) : aW p l e R s m args below meth c Q D A cells slots n a v pc lv (.int x :: st) := fun H locs ls hP hD hS hL =>
  va_newa (atype := atype) C.1.1 C.1.2.1 (by rw [hty]; exact C.1.2.2.2.2 _ harr) hty C.2.1 hP hD hS C.2.2.2.2 ha hn hN hbytes hcells hslots d (fun q cB H1 hK1 hP1 hD1 hS1 => by
    have e9 : cB = cA := va_RA_one (hK1.2 tys.length (cB, ty) (by simp)).2 (C.2.1.2 t0 _ ht).2
    subst e9
    exact k q H1 locs ls (by rw [wv_push]; exact hP1) (by rw [wv_push]; exact hD1) hS1 hL)
theorem aw_newq (C : aC p s m args meth c D tys A cc nL Ts own ret) {Cn : String} {t0 N' : Nat} {cA : ClassId} {x : Int32} (d : decode cc pc = .ok (.anewarray ix, 3)) (hcl : Cond.classLink own ix Cn ∈ Ts) (hAO : va_AO Cn s) (ht : tys[t0]? = some (cA, .object Cn)) (hn : ¬ x < 0) (hN : x.toNatClampNeg = N') (hbytes : N' * 4 ≤ 536870912) (hcells : cells + 1 ≤ R.cells) (hslots : slots + N' ≤ R.slots)
    (k : ∀ q, aW p l e R s m args below meth c Q D A (cells + 1) (slots + N') (n + 1) (aPu n a q) (vPu n v (.inl (cA, N', .inr (.inr (.inr (.inr (fun _ => none))))))) (pc + 3) lv (.ref q :: st)) : aW p l e R s m args below meth c Q D A cells slots n a v pc lv (.int x :: st) := fun H locs ls hP hD hS hL =>
  va_newq C.1.1 C.1.2.1 C.1.2.2.2.1 (C.1.2.2.2.2 _ hcl) hAO C.2.1 hP hD hS C.2.2.2.2 hn hN hbytes hcells hslots d (fun q cB H1 hK1 hP1 hD1 hS1 => by
    have e9 : cB = cA := va_RA_one (hK1.2 tys.length (cB, .object Cn) (by simp)).2 (C.2.1.2 t0 _ ht).2
    subst e9
    exact k q H1 locs ls (by rw [wv_push]; exact hP1) (by rw [wv_push]; exact hD1) hS1 hL)
theorem aw_putF (C : aC p s m args meth c D tys A cc nL Ts own ret) (hin2 : meth.name = "<init>") {q ci j N : Nat} {fs fs' : List Value} {Cn ref : String} {T : u_T} {ty0 : Nat → FieldType} {x : Value} (d : decode cc pc = .ok (.putfield ix, 3)) (hq : q < n) (hb : a q = b) (hv : v q = .inr (ci, fs)) (hc : vwCl[ci]? = some (Cn, T, N)) (hin : ∀ w ∈ u_ws Cn T N, w ∈ Ts) (hty : ∀ k, k < N → parseFieldDescriptor (T k).2.2.1 = some (ty0 k)) (hnm : ∀ a, a < N → ∀ b, b < N → a ≠ b → (T a).2.1 ≠ (T b).2.1) (hj : j < N) (hlk : Cond.fieldLink own ix ref (T j).2.1 (T j).2.2.1 ∈ Ts) (hs : (T j).1 = ref) (hfin : (T j).2.2.2 = true) (hdecl : (T j).1 = own) (hn : narrow (ty0 j) x = x) (hf : fits (ty0 j) x = true) (hl : j < fs.length) (hfs : fs.set j x = fs')
    (k : aW p l e R s m args below meth c Q D A cells slots n a (wset v q (.inr (ci, fs'))) (pc + 3) lv (st)) : aW p l e R s m args below meth c Q D A cells slots n a v (pc) lv (x :: .ref b :: st) := fun H locs ls hP hD hS hL => by
  subst hb; subst hfs
  exact va_putF C.1.1 C.1.2.1 C.1.2.2.2.2 hin ty0 hty hnm C.1.2.2.2.1 C.2.1 hP hD hS q (by rw [wv_get hq, hv]) hc j hj (C.1.2.2.2.2 _ hlk) (fun _ h9 => by rw [← hs]; exact h9) hfin hin2 hdecl (hty j hj) hn hf hl d (fun H1 locs1 hP1 hD1 hS1 => k H1 locs1 ls (by rw [← wv_set hq]; exact hP1) (by rw [← wv_set hq]; exact hD1) hS1 hL)
theorem aw_putN (C : aC p s m args meth c D tys A cc nL Ts own ret) {q ci j N : Nat} {fs fs' : List Value} {Cn ref : String} {T : u_T} {ty0 : Nat → FieldType} {x : Value} (d : decode cc pc = .ok (.putfield ix, 3)) (hq : q < n) (hb : a q = b) (hv : v q = .inr (ci, fs)) (hc : vwCl[ci]? = some (Cn, T, N)) (hin : ∀ w ∈ u_ws Cn T N, w ∈ Ts) (hty : ∀ k, k < N → parseFieldDescriptor (T k).2.2.1 = some (ty0 k)) (hnm : ∀ a, a < N → ∀ b, b < N → a ≠ b → (T a).2.1 ≠ (T b).2.1) (hj : j < N) (hlk : Cond.fieldLink own ix ref (T j).2.1 (T j).2.2.1 ∈ Ts) (hs : (T j).1 = ref) (hfin : (T j).2.2.2 = false) (hn : narrow (ty0 j) x = x) (hf : fits (ty0 j) x = true) (hl : j < fs.length) (hfs : fs.set j x = fs')
    (k : aW p l e R s m args below meth c Q D A cells slots n a (wset v q (.inr (ci, fs'))) (pc + 3) lv (st)) : aW p l e R s m args below meth c Q D A cells slots n a v (pc) lv (x :: .ref b :: st) := aw_putf C d hq hb hv hc hin hty hnm hj hlk hs hfin hn hf hl hfs rfl k
theorem aw_astq (C : aC p s m args meth c D tys A cc nL Ts own ret) {q q2 ci t0 len z : Nat} {fs : List Value} {r : vw_C} {cA : ClassId} {f : Nat → Option Nat} {i : Int32} (d : decode cc pc = .ok (.aastore, 1)) (hq : q < n) (hb : a q = b) (hv : v q = .inl (cA, len, .inr (.inr (.inr (.inr f))))) (ht : tys[t0]? = some (cA, .object r.1)) (hq2 : q2 < n) (hb2 : a q2 = z) (hv2 : v q2 = .inr (ci, fs)) (hc : vwCl[ci]? = some r) (hi : vp_in i len)
    (k : aW p l e R s m args below meth c Q D A cells slots n a (wset v q (.inl (cA, len, .inr (.inr (.inr (.inr (va_up f i.toNatClampNeg (some z)))))))) (pc + 1) lv st) : aW p l e R s m args below meth c Q D A cells slots n a v pc lv (.ref z :: .int i :: .ref b :: st) := fun H locs ls hP hD hS hL => by
  subst hb; subst hb2
  exact va_astq C.1.1 C.1.2.1 C.2.1 hP hD hS q t0 q2 ci (by rw [wv_get hq, hv]) ht (by rw [wv_get hq2, hv2]) hc hi d (fun H1 locs1 hP1 hD1 hS1 => k H1 locs1 ls (by rw [← wv_set hq]; exact hP1) (by rw [← wv_set hq]; exact hD1) hS1 hL)
theorem aw_obj (C : aC p s m args meth c D tys A cc nL Ts own ret) (d : decode cc pc = .ok (.invokespecial ix, 3)) (hlk : Cond.methodLink own ix objectInit ∈ Ts) (hin : Cond.instanceMethod objectInit ∈ Ts) (hcode : Cond.code objectInit ⟨#[0xb1]⟩ 1 none ∈ Ts) (hnl : lv.length = nL) (h1 : 1 ≤ R.frames) (h2 : (st.map fun v => v.category).sum + 12 ≤ R.locals)
    (k : aW p l e R s m args below meth c Q D A cells slots n a v (pc + 3) lv st) : aW p l e R s m args below meth c Q D A cells slots n a v pc lv (.ref b :: st) := fun H locs ls hP hD hS hL =>
  W.objInit C.1.1 C.1.2.1 C.1.2.2.2.1 (C.1.2.2.2.2 _ hlk) (C.1.2.2.2.2 _ hin) (C.1.2.2.2.2 _ hcode) rfl (hL.1.trans (hnl.trans C.1.2.2.1.symm)) rfl d h1 (by show 2 * 0 + _ + 12 ≤ _; omega) (k H locs ls hP hD hS hL)
theorem aw_runI {As : List Value} {i mN ms : Nat} {x0 : va_E} {V : (Nat → Nat) → Nat → va_E} (C : aC p s m args meth c D tys A cc nL Ts own ret) (hi : i < n) (hb : a i = b) (hv : v i = x0)
    (hr : ∀ (H : Heap) (locs : List Loc) (ls : Array Slot), va_P D vwCl (wv 1 (fun _ => b) (fun _ => x0)) H → aL ls lv → va_Run p l e R s m args below meth c H locs cells slots mN ms (F0 m pc ls (As.reverse ++ .ref b :: rest)) rest (aNQ D H.size b mN V (Value.ref b :: As).toArray) (aA 1 (fun _ => b) H.size))
    (k : ∀ f : Nat → Nat, f 0 = b → aW p l e R s m args below meth c Q D A (cells + mN) (slots + ms) (n + mN) (aAp n a f) (vAp n i v (V f)) (pc + 3) lv rest) : aW p l e R s m args below meth c Q D A cells slots n a v pc lv (As.reverse ++ .ref b :: rest) := fun H locs ls hP hD hS hL => by
  have hAi : A b := by rw [← hb]; exact hD.2 i _ (wv_get hi)
  have hP1 : va_P D vwCl (wv 1 (fun _ => b) (fun _ => x0)) H := by
    intro k q hq
    obtain ⟨h1, rfl⟩ := wv_lt hq
    have h9 := hP i _ (wv_get hi)
    rw [hb, hv] at h9
    exact h9
  have hfree : ∀ q, aA 1 (fun _ => b) H.size q → A q := by
    rintro q (⟨k, hk, rfl⟩ | h)
    · exact hAi
    · exact C.2.2.2.2 q (Nat.le_trans hS.1 h)
  intro T hT X
  obtain ⟨v0, st₀, t, T', L, h0, X', hLL, e1, e2, ⟨⟨hv0, f, f0, fJ, fN, hp⟩, hz, hk9⟩, sg⟩ := hr H locs ls hP1 hL T hT X
  cases hv0
  rw [h0] at hz hk9
  have hlt : ∀ k, k < n → a k < H.size := fun k hk => (hP k _ (wv_get hk)).lt
  have hJ := aJ_of hD
  have hkeep : ∀ q, q < H.size → q ≠ b → t.heap[q]? = H[q]? := fun q h1 h2 => hk9 q h1 (fun h : aA 1 (fun _ => b) H.size q => h.elim (fun ⟨_, _, h⟩ => h2 h) (fun h => absurd h (by omega)))
  obtain ⟨t2, a1, b1⟩ := k f f0 T'.heap (locs ++ L) ls (by
      intro k q hq
      obtain ⟨h1, rfl⟩ := wv_lt hq
      rw [e1]
      by_cases c1 : k = i
      · subst c1
        have h9 := hp 0 _ (wv_get (by omega))
        simp only [aAp, vAp, if_pos hi, if_true]
        rw [hb, ← f0]; exact h9
      · by_cases c2 : k < n
        · simp only [aAp, vAp, if_neg c1, if_pos c2]
          exact (hP k _ (wv_get c2)).kept (hkeep _ (hlt k c2) (fun z => c1 (hJ k i c2 hi (z.trans hb.symm))))
        · simp only [aAp, vAp, if_neg c1, if_neg c2]
          exact hp (k - n + 1) _ (wv_get (by omega)))
    (aJ_D (fun j1 j2 hj1 hj2 => by
      simp only [aAp]
      by_cases c1 : j1 < n
      · rw [if_pos c1]
        by_cases c2 : j2 < n
        · rw [if_pos c2]; exact hJ j1 j2 c1 c2
        · rw [if_neg c2]
          intro z
          have := hlt j1 c1
          have := fN (j2 - n + 1) (by omega) (by omega)
          omega
      · rw [if_neg c1]
        by_cases c2 : j2 < n
        · rw [if_pos c2]
          intro z
          have := hlt j2 c2
          have := fN (j1 - n + 1) (by omega) (by omega)
          omega
        · rw [if_neg c2]
          intro z
          have := fJ (j1 - n + 1) (j2 - n + 1) (by omega) (by omega) z
          omega) (fun k hk => by
      simp only [aAp]
      by_cases c1 : k < n
      · rw [if_pos c1]; exact hD.2 k _ (wv_get c1)
      · rw [if_neg c1]; exact C.2.2.2.2 _ (Nat.le_trans hS.1 (fN _ (by omega) (by omega)))))
    ⟨Nat.le_trans hS.1 (by rw [e1]; exact hz), fun q h1 h2 => by rw [e1, hk9 q (Nat.lt_of_lt_of_le h1 hS.1) (fun z => h2 (hfree q z))]; exact hS.2.1 q h1 h2, fun q hq => by
      rcases List.mem_append.mp hq with h | h
      · exact hS.2.2 q h
      · exact hfree _ (hLL q h)⟩ hL T' rfl X'
  exact ⟨t2, sg t2 a1, b1⟩
theorem aw_callI {As : List Value} {i mN ms : Nat} {x0 : va_E} {V : (Nat → Nat) → Nat → va_E} (C : aC p s m args meth c D tys A cc nL Ts own ret) (hAO : aE s) (d : decode cc pc = .ok (.invokespecial ix, 3)) (g : GoodIn Ts ws) (sy : sY y C' bytes maxL none ws As.length) (hini : Cond.initialized C' ∈ Ts) (hlk : Cond.methodLink own ix y ∈ Ts) (hinst : Cond.instanceMethod y ∈ Ts) (hy1 : y.name = "<init>")
    (hk : aChk rm maxL R lv nL cells slots mN ms rest = true) (hi : i < n) (hb : a i = b) (hv : v i = x0) (hM : aN l D tys y ws rm As b x0 mN ms V)
    (k : ∀ f : Nat → Nat, f 0 = b → aW p l e R s m args below meth c Q D A (cells + mN) (slots + ms) (n + mN) (aAp n a f) (vAp n i v (V f)) (pc + 3) lv rest) : aW p l e R s m args below meth c Q D A cells slots n a v pc lv (As.reverse ++ .ref b :: rest) := aw_runI C hi hb hv (fun H locs ls hP1 hL => by
  obtain ⟨hR, hrc, hrs, hnl, hcs, hst⟩ := aChk_spec hk
  obtain ⟨⟨ws', hw⟩, s1, s2, s3, s4, -⟩ := sy
  exact va_runI (As := As) (rest := rest) (g := F0 m pc ls (As.reverse ++ .ref b :: rest)) C.1 (hM H.size) (cwI As.length C.1.2.2.2.2 g hw hrc hrs (by rw [s1]; exact C.1.2.2.2.2 _ hini) (C.1.2.2.2.2 _ hlk) (C.1.2.2.2.2 _ hinst) hy1 ⟨s2, s3, s4⟩ hR) ⟨aBn_blind, fun U hU hW => ⟨rfl, ⟨by rw [hU], by rw [hU]; exact hP1, va_K.moved hW.alike C.2.1, fun i j hi hj _ => by omega⟩, aE.warm hW hAO⟩⟩ rfl rfl (hL.1.trans hnl) rfl (lv_room hst) d hcs) k
theorem aw_callIN {As : List Value} {i mN ms : Nat} {x0 : va_E} {V : (Nat → Nat) → Nat → va_E} {host : String} (C : aC p s m args meth c D tys A cc nL Ts own ret) (hAO : aE s) (d : decode cc pc = .ok (.invokespecial ix, 3)) (g : GoodIn Ts ws) (sy : sY y C' bytes maxL none ws As.length) (hini : Cond.initialized C' ∈ Ts) (hlk : va_Nw (.methodLinkNest own ix y host) s) (hinst : Cond.instanceMethod y ∈ Ts) (hy1 : y.name = "<init>")
    (hk : aChk rm maxL R lv nL cells slots mN ms rest = true) (hi : i < n) (hb : a i = b) (hv : v i = x0) (hM : aN l D tys y ws rm As b x0 mN ms V)
    (k : ∀ f : Nat → Nat, f 0 = b → aW p l e R s m args below meth c Q D A (cells + mN) (slots + ms) (n + mN) (aAp n a f) (vAp n i v (V f)) (pc + 3) lv rest) : aW p l e R s m args below meth c Q D A cells slots n a v pc lv (As.reverse ++ .ref b :: rest) := aw_runI C hi hb hv (fun H locs ls hP1 hL => by
  obtain ⟨hR, hrc, hrs, hnl, hcs, hst⟩ := aChk_spec hk
  obtain ⟨⟨ws', hw⟩, s1, s2, s3, s4, -⟩ := sy
  exact va_runIN (As := As) (rest := rest) (g := F0 m pc ls (As.reverse ++ .ref b :: rest)) C.1 (hM H.size) ⟨va_cnB As.length C.1.2.2.2.2 g hw hrc hrs hlk (by rw [s1]; exact C.1.2.2.2.2 _ hini) ⟨s2, s3, s4⟩ hR, hy1, C.1.2.2.2.2 _ hinst⟩ ⟨aBn_blind, fun U hU hW => ⟨rfl, ⟨by rw [hU], by rw [hU]; exact hP1, va_K.moved hW.alike C.2.1, fun i j hi hj _ => by omega⟩, aE.warm hW hAO⟩⟩ rfl rfl (hL.1.trans hnl) rfl (lv_room hst) d hcs) k
/-- the end of a constructor -/
theorem aw_nend {mN ms sz : Nat} {V : (Nat → Nat) → Nat → va_E} (C : aC p s m args meth c D tys A cc nL Ts own none) (hsz : s.heap.size = sz) (hAe : A = aA 1 (fun _ => b) sz) (d : decode cc pc = .ok (.return_, 1)) (hn : n = 1 + mN) (h0 : a 0 = b) (hc : cells = mN) (hs : slots = ms) (hv : ∀ k, k < n → v k = V a k) :
    aW p l e R s m args below meth c (MQ below (aNQ D sz b mN V) args s mN ms A) D A cells slots n a v pc lv [] := fun H locs ls hP hD hS hL => by
  subst hc; subst hs; subst hn; subst hsz
  refine W.vret C.1.1 C.1.2.1 C.2.2.2.1 (fun t ht hW => ⟨⟨rfl, a, h0, aJ_of hD, fun k h1 h2 => ?_, by rw [ht, ← wv_cong (fun _ _ => rfl) hv]; exact hP⟩, by rw [← hAe]; exact hS.F ht⟩) hS.2.2 d C.2.2.1
  have h9 := hD.2 k _ (wv_get h2)
  rw [hAe] at h9
  rcases h9 with ⟨j, -, h⟩ | h
  · have h8 : a k = a 0 := by rw [h0]; exact h
    exact absurd (aJ_of hD k 0 h2 (by omega) h8) (by omega)
  · exact h
/-- a constructor's contract out of its body's walk -/
theorem aN_of {As : List Value} {lv0 : List (Option Value)} {kk mN ms : Nat} {x0 : va_E} {V : (Nat → Nat) → Nat → va_E} (sy : sY y own bytes nL none ws kk) (hy1 : y.name = "<init>") {j : Nat} (hE : aEl (.ref b :: As) ++ List.replicate j none = lv0) (hl : lv0.length = nL)
    (body : ∀ (p : Program) (e : Env) (s : State) (m : MethodId) (args : Array Value) (below : List Frame) (meth : Method) (c : Code) (A : Nat → Prop) (sz : Nat), aCi p s m args meth c D tys A bytes nL ws own none → s.heap.size = sz → A = aA 1 (fun _ => b) sz →
      aW p l e rm s m args below meth c (MQ below (aNQ D sz b mN V) args s mN ms A) D A 0 0 1 (fun _ => b) (fun _ => x0) 0 lv0 []) : aN l D tys y ws rm As b x0 mN ms V := by
  intro sz
  obtain ⟨⟨ws', hw⟩, s1, s2, s3, s4, s5⟩ := sy
  subst s1
  refine Met.ofW (cc := bytes) (maxL := nL) (ret := none) s5 hw ?_
  intro p e s m args below meth c s₁ B hml hv
  obtain ⟨rfl, ⟨hsz, hP, hK, hJ⟩, hAO⟩ := hv
  subst hsz
  rw [lg_entry_eq]
  refine body p e s m _ below meth c _ _ ⟨⟨⟨B.exec, B.bytes, hml, findClass_of_methodNamed B.named, atoms_spec (ws := ws) B.pre⟩, hK, B.notSynchronized, B.returns, fun q hq => Or.inr hq⟩, hAO, (name_of_methodNamed B.named B.method).1.trans hy1⟩ rfl rfl s.heap [] _ hP (aJ_D hJ (fun k hk => Or.inl ⟨k, hk, rfl⟩)) va_S.rf ?_
  exact aE_L hE hl
end CTR
