/-! new int[n][k]: one array of n references, then n arrays of k numbers. What the machine is behind i rounds of its loop is written out as one state (ggS), not round by round; the loop goes by induction on the rounds that are left. -/
def ggO (c1 : ClassId) (N h0 i : Nat) : Cell := arrV c1 N (fun j => va_rf (if j < i then some (h0 + 1 + j) else none))
def ggI (c2 : ClassId) (M : Nat) : Cell := arrV c2 M (fun _ => .int 0)
def ggS (s : State) (c1 c2 : ClassId) (N M i : Nat) : State := { s with heap := s.heap.push (ggO c1 N s.heap.size i) ++ Array.replicate i (ggI c2 M), slotsUsed := s.slotsUsed + (N + i * M) }
theorem ggO_set {c1 : ClassId} {N h0 i : Nat} : (ggO c1 N h0 i).setSlot i (.ref (h0 + 1 + i)) = ggO c1 N h0 (i + 1) := by
  have hf : updV (fun j => va_rf (if j < i then some (h0 + 1 + j) else none)) i (.ref (h0 + 1 + i)) = fun j => va_rf (if j < i + 1 then some (h0 + 1 + j) else none) := by
    funext j
    rcases Nat.lt_trichotomy j i with h | h | h
    · simp only [updV]; rw [if_neg (by omega), if_pos h, if_pos (by omega)]
    · rw [h]; show (if i = i then _ else _) = _; rw [if_pos rfl, if_pos (Nat.lt_succ_self i)]; rfl
    · simp only [updV]; rw [if_neg (by omega), if_neg (by omega), if_neg (by omega)]
  exact (arrV_store _ _ _ _ _).trans (congrArg (arrV c1 N) hf)
theorem gg_arr {A : Array Cell} {x o o' : Cell} {i : Nat} : ((A.push o ++ Array.replicate i x).push x).setIfInBounds A.size o' = A.push o' ++ Array.replicate (i + 1) x := by
  apply Array.ext
  · simp
  · intro q h1 h2
    have e1 : q < A.size + 1 + (i + 1) := by simpa using h2
    rcases Nat.lt_trichotomy q A.size with h | h | h
    · rw [Array.getElem_setIfInBounds_ne (hj := by simp; omega) (h := by omega), Array.getElem_push_lt (h := by simp; omega), Array.getElem_append_left (hlt := by simp; omega), Array.getElem_push_lt (h := h), Array.getElem_append_left (hlt := by simp; omega), Array.getElem_push_lt (h := h)]
    · subst h
      rw [Array.getElem_setIfInBounds_self, Array.getElem_append_left (hlt := by simp), Array.getElem_push_eq]
    · rw [Array.getElem_setIfInBounds_ne (hj := by simp; omega) (h := by omega), Array.getElem_append_right (hle := by simp; omega), Array.getElem_replicate]
      rcases Nat.lt_or_ge q (A.size + 1 + i) with h9 | h9
      · rw [Array.getElem_push_lt (h := by simp; omega), Array.getElem_append_right (hle := by simp; omega), Array.getElem_replicate]
      · have e2 : q = (A.push o ++ Array.replicate i x).size := by simp; omega
        subst e2
        rw [Array.getElem_push_eq]
section GGS
variable {s : State} {c1 c2 : ClassId} {N M i : Nat}
theorem gg_size : (ggS s c1 c2 N M i).heap.size = s.heap.size + 1 + i := by
  show (s.heap.push _ ++ Array.replicate i _).size = _
  simp
theorem gg_out : (ggS s c1 c2 N M i).heap[s.heap.size]? = some (ggO c1 N s.heap.size i) := by
  show (s.heap.push _ ++ Array.replicate i _)[s.heap.size]? = _
  rw [Array.getElem?_append_left (by simp)]
  simp
theorem gg_old {q : Nat} (hq : q < s.heap.size) : (ggS s c1 c2 N M i).heap[q]? = s.heap[q]? := by
  show (s.heap.push _ ++ Array.replicate i _)[q]? = _
  rw [Array.getElem?_append_left (by simp; omega), Array.getElem?_push, if_neg (by omega)]
theorem gg_row {j : Nat} (hj : j < i) : (ggS s c1 c2 N M i).heap[s.heap.size + 1 + j]? = some (ggI c2 M) := by
  show (s.heap.push _ ++ Array.replicate i _)[s.heap.size + 1 + j]? = _
  rw [Array.getElem?_append_right (by simp), Array.getElem?_replicate, Array.size_push, if_pos (by omega)]
theorem gg_first : s.pushCell (ggO c1 N s.heap.size 0) = ggS s c1 c2 N M 0 := by
  simp [ggS, State.pushCell, ggO, arrV_size]
theorem gg_next : ((ggS s c1 c2 N M i).pushCell (ggI c2 M)).setCell s.heap.size (ggO c1 N s.heap.size (i + 1)) = ggS s c1 c2 N M (i + 1) := by
  have hz : s.slotsUsed + (N + i * M) + (ggI c2 M).slots.size = s.slotsUsed + (N + (i + 1) * M) := by
    rw [show (ggI c2 M).slots.size = M from arrV_size _ _ _, Nat.add_mul, Nat.one_mul]; omega
  show ({ s with heap := ((s.heap.push _ ++ Array.replicate i _).push _).setIfInBounds s.heap.size _, slotsUsed := s.slotsUsed + (N + i * M) + (ggI c2 M).slots.size } : State) = _
  rw [gg_arr, hz]
  rfl
theorem gg_held {x : Cell} : ((ggS s c1 c2 N M i).pushCell x).heap[s.heap.size]? = some (ggO c1 N s.heap.size i) := by
  have h : s.heap.size < (ggS s c1 c2 N M i).heap.size := by rw [gg_size]; omega
  exact (State.heap_pushCell_of_lt (s := ggS s c1 c2 N M i) (c := x) h).trans gg_out
end GGS
section GGW
variable {E : CtlPost} {e : Env} {s : State} {c1 c2 c3 : ClassId} {k k2 : Class} {N M : Nat}
/-- the loop, whatever its body is, if the body leads from each round's state to the next one's -/
theorem gg_loop {f : Nat → PUnit → Sem (ForInStep PUnit)} (hf : ∀ (i : Nat) (d : Bool) (acts : List Action) (Q' : ForInStep PUnit → Pre), i < N → (∀ d' a', Q' (.yield PUnit.unit) d' a' (ggS s c1 c2 N M (i + 1))) → wp (f i PUnit.unit) Q' E e d acts (ggS s c1 c2 N M i)) :
    ∀ (r i : Nat) (d : Bool) (acts : List Action) (Q : PUnit → Pre), i + r = N → (∀ d' a', Q PUnit.unit d' a' (ggS s c1 c2 N M N)) → wp (forIn (List.range' i r 1) PUnit.unit f) Q E e d acts (ggS s c1 c2 N M i) := by
  intro r
  induction r with
  | zero =>
    intro i d acts Q hi hq
    have e1 : i = N := hi
    rw [e1, List.range'_zero, List.forIn_nil]
    simp only [wp_pure']
    exact hq _ _
  | succ r ih =>
    intro i d acts Q hi hq
    rw [List.range'_succ, List.forIn_cons]
    simp only [wp_bind']
    exact hf i d acts _ (by omega) (fun d' a' => ih (i + 1) d' a' Q (by omega) hq)
theorem gg_make {d : Bool} {acts : List Action} (hk : s.vm.classes[c1]? = some k) (hkd : k.kind = .array c2 (.array .int)) (hk2 : s.vm.classes[c2]? = some k2) (hkd2 : k2.kind = .array c3 .int) (hN : N < 2 ^ 31) (hM : M < 2 ^ 31) (hlN : N ≤ e.platform.arrayLengthLimit) (hlM : M ≤ e.platform.arrayLengthLimit) (hbN : N * 4 ≤ e.platform.maxHeapBytes) (hbM : M * 4 ≤ e.platform.maxHeapBytes)
    (hc : s.heap.size + (1 + N) ≤ e.platform.maxCells) (hs : s.slotsUsed + (N + N * M) ≤ e.platform.maxSlots) {Q : Addr → Pre} (hq : ∀ d' a', Q s.heap.size d' a' (ggS s c1 c2 N M N)) : wp (multianewarray.make c1 [nI N, nI M]) Q E e d acts s := by
  have zN : ¬ nI N < 0 := nI_pos hN
  have zM : ¬ nI M < 0 := nI_pos hM
  have body : ∀ (i : Nat) (d : Bool) (acts : List Action) (Q' : Addr → Pre), i < N → (∀ d' a', Q' (s.heap.size + 1 + i) d' a' ((ggS s c1 c2 N M i).pushCell (ggI c2 M))) → wp (multianewarray.make c2 [nI M]) Q' E e d acts (ggS s c1 c2 N M i) := by
    intro i d acts Q' hi hq'
    have h9 : i * M + M ≤ N * M := by
      have h8 : (i + 1) * M ≤ N * M := Nat.mul_le_mul hi (Nat.le_refl M)
      rwa [Nat.add_mul, Nat.one_mul] at h8
    have h7 : (ggS s c1 c2 N M i).slotsUsed = s.slotsUsed + (N + i * M) := rfl
    unfold multianewarray.make
    simp only [wp_bind', W.ite, zM, if_false, wp_pure', W.theClass, show (ggS s c1 c2 N M i).vm = s.vm from rfl, hk2, hkd2, Option.some.injEq, exists_eq_left', nI_clamp hM]
    refine W.newArray_of (k := k2) (comp := c3) (type := .int) hk2 hkd2 (by omega) (by show ¬ M * 4 > _; omega) (by rw [gg_size]; omega) (by omega) rfl (fun a' => ?_)
    have h6 := hq' d a'
    rw [ggI, ← arrV_new, ← gg_size (s := s) (c1 := c1) (c2 := c2) (N := N) (M := M) (i := i)] at h6
    exact h6
  unfold multianewarray.make
  simp only [wp_bind', W.ite, zN, if_false, wp_pure', W.theClass, hk, hkd, Option.some.injEq, exists_eq_left', nI_clamp hN]
  refine W.newArray_of (k := k) (comp := c2) (type := .array .int) hk hkd (by omega) (by show ¬ N * 4 > _; omega) (by omega) (by omega) rfl (fun a' => ?_)
  have e0 : s.pushCell { cls := c1, slots := Array.replicate N .null } = ggS s c1 c2 N M 0 := by
    rw [← gg_first, ggO, arrV_new]
    exact congrArg (fun z => s.pushCell (arrV c1 N z)) (funext fun j => by rw [if_neg (Nat.not_lt_zero j)]; rfl)
  have loop : ∀ (f : Nat → PUnit → Sem (ForInStep PUnit)), (∀ i u, f i u = (do let x ← multianewarray.make c2 [nI M]; Jvm.writeLoc s.heap.size i (.ref x); Pure.pure (ForInStep.yield PUnit.unit))) → ∀ (d : Bool) (acts : List Action) (Q' : PUnit → Pre), (∀ d' a', Q' PUnit.unit d' a' (ggS s c1 c2 N M N)) → wp (forIn (List.range' 0 N 1) PUnit.unit f) Q' E e d acts (ggS s c1 c2 N M 0) := by
    intro f hf d acts Q' hq'
    refine gg_loop (fun i d acts Q2 hi hq2 => ?_) N 0 d acts Q' (Nat.zero_add N) hq'
    rw [hf]
    simp only [wp_bind']
    refine body i d acts _ hi (fun d' a' => ?_)
    simp only [wp_bind', W.writeLoc, wp_pure']
    refine ⟨_, gg_held, by simp [ggO, arrV], by rw [show (ggO c1 N s.heap.size i).slots.size = N from arrV_size _ _ _]; exact hi, ?_, ?_⟩
    · simp [State.fitsSlot, State.slotType?, ggO, arrV, show (ggS s c1 c2 N M i).vm = s.vm from rfl, hk, hkd, fits]
    · rw [ggO_set, gg_next]
      exact hq2 _ _
  rw [e0]
  simp only [List.find?, zM, decide_false, ite_self, wp_bind', Std.Legacy.Range.forIn_eq_forIn_range', Std.Legacy.Range.size, Nat.sub_zero, Nat.add_sub_cancel, Nat.div_one]
  refine loop _ (fun _ _ => rfl) d a' _ (fun d2 a2 => ?_)
  simp only [wp_pure']
  exact hq d2 a2
end GGW
section GGX
variable {p : Program} {l : Launch} {e : Env} {R : Room} {s : State} {m : MethodId} {args : Array Value} {below : List Frame} {meth : Method} {c : Code} {T : State} {locs : List Loc} {cells slots : Nat}
theorem gg_stand (X : Stand p l e R s m args below meth c T locs cells slots) {c1 c2 : ClassId} {N M : Nat} : ∀ i : Nat, Stand p l e R s m args below meth c (ggS T c1 c2 N M i) locs (cells + 1 + i) (slots + (N + i * M)) := by
  intro i
  induction i with
  | zero =>
    have h := X.pushed (ggO c1 N T.heap.size 0)
    rw [gg_first (c2 := c2) (M := M), show (ggO c1 N T.heap.size 0).slots.size = N from arrV_size _ _ _] at h
    rw [Nat.zero_mul]
    exact h
  | succ i ih =>
    have h := (ih.pushed (ggI c2 M)).stored gg_held i (.ref (T.heap.size + 1 + i))
    rw [ggO_set, gg_next, show (ggI c2 M).slots.size = M from arrV_size _ _ _] at h
    have e1 : slots + (N + (i + 1) * M) = slots + (N + i * M) + M := by rw [Nat.add_mul, Nat.one_mul]; omega
    rw [e1]
    exact h.dropFresh (fun x hx => by rw [List.mem_singleton.mp hx]; exact X.heapGrown)
/-- the instruction: N arrays of M numbers -/
theorem gg_step (X : Stand p l e R s m args below meth c T locs cells slots) (hexec : p.tables.exec = Jvm.exec) {own : String} {ix N M : Nat} {g : JFrame} {rest : List Value} (hg : g.method = m) (hd : decode c.code g.pc = .ok (.multianewarray ix 2, 4)) (hst : g.stack = .int (nI M) :: .int (nI N) :: rest) (hN : N ≤ 1000) (hM : M ≤ 1000)
    (hown : s.vm.findClass own = some m.cls) (hcl : (Cond.classLink own ix "[[I").before args s = true) (harr : (Cond.arrayClass .int).before args s = true) (hO : (Cond.arrayOver (.array .int)).before #[] s = true) (h1 : cells + (1 + N) ≤ R.cells) (h2 : slots + (N + N * M) ≤ R.slots) :
    ∃ (vm₁ : Vm) (c1 c2 : ClassId), s.vm.findClass "[[I" = some c1 ∧ s.vm.findClass "[I" = some c2 ∧ Stand p l e R s m args below meth c (ggS (T.setVm vm₁) c1 c2 N M N) locs (cells + 1 + N) (slots + (N + N * M)) ∧
      ∀ t, Steps p.tables e below ((ggS (T.setVm vm₁) c1 c2 N M N).setTop { g with pc := g.pc + 4, stack := .ref T.heap.size :: rest }) t → Steps p.tables e below (T.setTop g) t := by
  subst hg
  obtain ⟨c2, c1, k1, n2, -, q1, d1, n1⟩ := arrayOverA_spec hO
  obtain ⟨c2', k2, c3, n2', q2, d2⟩ := Cond.arrayClass_spec harr
  have e2 : c2' = c2 := Option.some.inj (n2'.symm.trans n2)
  subst e2
  obtain ⟨c1', n1', r⟩ := Cond.classLink_spec hown hcl e.platform (by rw [X.admits.platform])
  have e1 : c1' = c1 := Option.some.inj (n1'.symm.trans n1)
  subst e1
  obtain ⟨w1, w2, -⟩ := State.classEntry (e := e) X.warmed r
  generalize T.vm.noted g.method.cls ix (.cls c1') = vm₁ at w1 w2
  obtain ⟨k1', q1', u1⟩ := w2.alike.2.2 _ _ q1
  obtain ⟨k2', q2', u2⟩ := w2.alike.2.2 _ _ q2
  have XF := gg_stand (X.noted w2) (c1 := c1') (c2 := c2') (N := N) (M := M) N
  obtain ⟨o1, o2⟩ := X.roomAbove h1 h2
  have z1 := Launch.admits_arrayLengthLimit X.admits
  have z2 := Launch.admits_maxHeapBytes X.admits
  refine ⟨vm₁, c1', c2', n1, n2, XF, fun t ht => ?_⟩
  jvm_step X.here [hexec, hd]
  have b1 : ((T.setTop g).setVm vm₁).setTop { g with stack := rest } = (T.setVm vm₁).setTop { g with stack := rest } := State.setTop_setTop (T.setVm vm₁) g { g with stack := rest }
  have b2 : ggS ((T.setVm vm₁).setTop { g with stack := rest }) c1' c2' N M N = (ggS (T.setVm vm₁) c1' c2' N M N).setTop { g with stack := rest } := rfl
  have top := State.topJava?_setTop' { g with stack := rest } XF.here.top
  unfold multianewarray.sem
  simp only [wp_bind', W.resolveClassAt_links (State.method?_setTop g X.here.top) w1, W.popN, if_neg (show ¬ (2 = 0) by decide)]
  refine ⟨g, State.topJava?_setTop' (s := T.setVm vm₁) g X.here.top, [.int (nI N), .int (nI M)], rest, rfl, hst, ?_⟩
  rw [b1]
  simp only [List.mapM_cons, List.mapM_nil, wp_bind', wp_pure']
  refine gg_make (s := (T.setVm vm₁).setTop { g with stack := rest }) (k := k1') (k2 := k2') (c3 := c3) q1' (by rw [u1]; exact d1) q2' (by rw [u2]; exact d2) (by omega) (by omega) (by omega) (by omega) (by omega) (by omega) o1 o2 (fun d' a' => ?_)
  rw [b2]
  simp only [wp_bind', W.mark, W.pushRef, top]
  refine ⟨_, rfl, fun acts => ?_⟩
  rw [State.setTop_setTop, afterInstr_ok]
  exact ht
end GGX
