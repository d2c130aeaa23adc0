/-! new int[n][k]: one array of n references, then n arrays of k numbers, one behind the other. The law of the step follows the shape of the library's law of the same instruction (its loop by wp_forIn_inv), for numbers alone. -/
def mq_in (c2 : ClassId) (M : Nat) : Cell := { cls := c2, slots := Array.replicate M (.int 0), vm := .none }
def mq_out (c1 : ClassId) (N h0 i : Nat) : Cell := arrV c1 N (fun j => va_rf (if j < i then some (h0 + 1 + j) else none))
theorem mq_out_0 (c1 : ClassId) (N h0 : Nat) : ({ cls := c1, slots := Array.replicate N .null, vm := .none } : Cell) = mq_out c1 N h0 0 := by
  rw [arrV_new]
  exact congrArg (arrV c1 N) (funext fun j => by simp [va_rf])
theorem mq_out_s (c1 : ClassId) (N h0 i : Nat) : (mq_out c1 N h0 i).setSlot i (.ref (h0 + 1 + i)) = mq_out c1 N h0 (i + 1) := by
  rw [mq_out, arrV_store]
  refine congrArg (arrV c1 N) (funext fun j => ?_)
  by_cases e : j = i
  · subst e
    simp [updV, va_rf]
  · by_cases h : j < i
    · simp [updV, e, h, Nat.lt_succ_of_lt h]
    · simp [updV, e, h, show ¬ j < i + 1 by omega]
theorem mq_out_z (c1 : ClassId) (N h0 i : Nat) : (mq_out c1 N h0 i).slots.size = N := arrV_size _ _ _
def mq_fill (s : State) (c1 c2 : ClassId) (N M : Nat) : Nat → State
  | 0 => s.pushCell (mq_out c1 N s.heap.size 0)
  | i + 1 => ((mq_fill s c1 c2 N M i).pushCell (mq_in c2 M)).setCell s.heap.size (mq_out c1 N s.heap.size (i + 1))
section MQF
variable {s : State} {c1 c2 : ClassId} {N M : Nat}
theorem mq_facts : ∀ i, (mq_fill s c1 c2 N M i).heap.size = s.heap.size + 1 + i ∧ (mq_fill s c1 c2 N M i).heap[s.heap.size]? = some (mq_out c1 N s.heap.size i) ∧ (mq_fill s c1 c2 N M i).vm = s.vm ∧ (mq_fill s c1 c2 N M i).slotsUsed = s.slotsUsed + N + i * M := by
  intro i
  induction i with
  | zero => exact ⟨by simp [mq_fill], by simp [mq_fill], rfl, by simp [mq_fill, mq_out_z]⟩
  | succ i ih =>
    obtain ⟨f1, f2, f3, f4⟩ := ih
    have hlt : s.heap.size < (mq_fill s c1 c2 N M i).heap.size := by omega
    have h9 : ((mq_fill s c1 c2 N M i).pushCell (mq_in c2 M)).heap[s.heap.size]? = some (mq_out c1 N s.heap.size i) := by rw [State.heap_pushCell_of_lt (h := hlt)]; exact f2
    refine ⟨?_, State.heap_setCell_self h9, by simp [mq_fill, f3], ?_⟩
    · simp [mq_fill, State.setCell, f1]; omega
    · simp [mq_fill, f4, mq_in, Nat.succ_mul]; omega
theorem mq_setTop (f : JFrame) : ∀ i, mq_fill (s.setTop f) c1 c2 N M i = (mq_fill s c1 c2 N M i).setTop f := by
  intro i
  induction i with
  | zero => rfl
  | succ i ih => simp only [mq_fill, ih, State.heap_setTop, State.pushCell_setTop, State.setCell_setTop]
theorem mq_old {q : Addr} (hq : q < s.heap.size) : ∀ i, (mq_fill s c1 c2 N M i).heap[q]? = s.heap[q]? := by
  intro i
  induction i with
  | zero => exact State.heap_pushCell_of_lt _ _ hq
  | succ i ih =>
    have f1 := (mq_facts (s := s) (c1 := c1) (c2 := c2) (N := N) (M := M) i).1
    have hlt : q < (mq_fill s c1 c2 N M i).heap.size := Nat.lt_of_lt_of_le hq (by rw [f1]; omega)
    show (((mq_fill s c1 c2 N M i).pushCell (mq_in c2 M)).setCell s.heap.size _).heap[q]? = _
    rw [State.heap_setCell_other (Nat.ne_of_gt hq), State.heap_pushCell_of_lt (h := hlt)]
    exact ih
theorem mq_row : ∀ i j, j < i → (mq_fill s c1 c2 N M i).heap[s.heap.size + 1 + j]? = some (mq_in c2 M) := by
  intro i
  induction i with
  | zero => intro j h; exact absurd h (Nat.not_lt_zero _)
  | succ i ih =>
    intro j h
    have f1 := (mq_facts (s := s) (c1 := c1) (c2 := c2) (N := N) (M := M) i).1
    show (((mq_fill s c1 c2 N M i).pushCell (mq_in c2 M)).setCell s.heap.size _).heap[s.heap.size + 1 + j]? = _
    rw [State.heap_setCell_other (show s.heap.size ≠ s.heap.size + 1 + j by omega)]
    rcases Nat.lt_or_ge j i with hj | hj
    · have hlt : s.heap.size + 1 + j < (mq_fill s c1 c2 N M i).heap.size := by rw [f1]; omega
      rw [State.heap_pushCell_of_lt (h := hlt)]
      exact ih j hj
    · rw [show j = i by omega, ← f1]
      exact State.heap_pushCell_size _ _
end MQF
section MQW
variable {E : CtlPost} {e : Env} {d : Bool} {acts : List Action} {s : State}
theorem mq_newArray {c1 c2 : ClassId} {k : Class} {ty : FieldType} {len : Nat} {z : Value} (hk : s.vm.classes[c1]? = some k) (hkind : k.kind = .array c2 ty)
    (hl : ¬ len > e.platform.arrayLengthLimit) (hh : ¬ len * componentBytes ty > e.platform.maxHeapBytes) (hfit : fits ty z = true) (hdef : z.isDefault = true) {Q : Addr → Pre}
    (h1 : s.heap.size < e.platform.maxCells) (h2 : s.slotsUsed + len ≤ e.platform.maxSlots) (hq : Q s.heap.size d acts (s.pushCell { cls := c1, slots := Array.replicate len z, vm := .none })) :
    wp (Jvm.newArray c1 len z) Q E e d acts s := by
  have hf : ∀ i v, (Array.replicate len z)[i]? = some v → s.fitsSlot c1 .none i v = true := by
    intro i v hv
    simp only [Array.getElem?_replicate] at hv
    split at hv
    · cases hv
      simp [State.fitsSlot, State.slotType?, hk, hkind, hfit]
    · cases hv
  have ha : allocActs (Array.replicate len z) s.heap.size acts = acts := by
    have : ((Array.replicate len z).all (·.isDefault)) = true := by
      rw [Array.all_replicate]
      split <;> simp [hdef]
    unfold allocActs
    rw [if_pos this]
  simp only [Jvm.newArray, Jvm.arrayFits, wp_bind', W.ask, W.ite, hl, if_false, wp_pure', W.theClass, hk, hkind, hh, W.alloc, W.stop, Option.some.injEq, exists_eq_left', Array.size_replicate, ha]
  rw [if_neg (by omega)]
  exact ⟨h1, h2, hf, hq⟩
theorem mq_make {c1 c2 c3 : ClassId} {k k2 : Class} {n m : Int32} (hk : s.vm.classes[c1]? = some k) (hkind : k.kind = .array c2 (.array .int)) (hk2 : s.vm.classes[c2]? = some k2) (hkind2 : k2.kind = .array c3 .int) (hn : ¬ n < 0) (hm : ¬ m < 0)
    (hl1 : ¬ n.toNatClampNeg > e.platform.arrayLengthLimit) (hh1 : ¬ n.toNatClampNeg * componentBytes (.array .int) > e.platform.maxHeapBytes) (hl2 : ¬ m.toNatClampNeg > e.platform.arrayLengthLimit) (hh2 : ¬ m.toNatClampNeg * componentBytes .int > e.platform.maxHeapBytes)
    (hc : s.heap.size + 1 + n.toNatClampNeg ≤ e.platform.maxCells) (hs : s.slotsUsed + n.toNatClampNeg + n.toNatClampNeg * m.toNatClampNeg ≤ e.platform.maxSlots)
    {Q : Addr → Pre} (hq : ∀ d' acts', Q s.heap.size d' acts' (mq_fill s c1 c2 n.toNatClampNeg m.toNatClampNeg n.toNatClampNeg)) : wp (multianewarray.make c1 [n, m]) Q E e d acts s := by
  have hnone : ([m].find? (· < 0)) = none := by simp [hm]
  rw [multianewarray.make]
  simp only [wp_bind', W.ite, hn, if_false, wp_pure', W.theClass, hk, hkind, Option.some.injEq, exists_eq_left']
  refine mq_newArray hk hkind hl1 hh1 rfl rfl (by omega) (by have := Nat.zero_le (n.toNatClampNeg * m.toNatClampNeg); omega) ?_
  simp only [hnone]
  rw [ite_self, wp_bind', Std.Legacy.Range.forIn_eq_forIn_range']
  have hsz : ([:n.toNatClampNeg] : Std.Legacy.Range).size = n.toNatClampNeg := by simp [Std.Legacy.Range.size]
  rw [hsz, mq_out_0 c1 n.toNatClampNeg s.heap.size]
  show wp (forIn (List.range' 0 n.toNatClampNeg 1) PUnit.unit _) _ E e d acts _
  refine wp_forIn_inv (fun todo s' => ∃ i, i ≤ n.toNatClampNeg ∧ todo = List.range' i (n.toNatClampNeg - i) ∧ s' = mq_fill s c1 c2 n.toNatClampNeg m.toNatClampNeg i) _ _ ⟨0, Nat.zero_le _, rfl, rfl⟩ ?_ ?_
  · rintro x todo s' d' acts' Q' ⟨i, hi, ht, rfl⟩ hnext
    have hlt : i < n.toNatClampNeg := by
      rcases Nat.lt_or_ge i n.toNatClampNeg with h | h
      · exact h
      · rw [show n.toNatClampNeg - i = 0 by omega] at ht
        simp at ht
    obtain ⟨rfl, hrest⟩ : x = i ∧ todo = List.range' (i + 1) (n.toNatClampNeg - (i + 1)) := by
      rw [show n.toNatClampNeg - i = (n.toNatClampNeg - (i + 1)) + 1 by omega, List.range'_succ] at ht
      exact ⟨(List.cons.inj ht).1, (List.cons.inj ht).2⟩
    obtain ⟨f1, f2, f3, f4⟩ := mq_facts (s := s) (c1 := c1) (c2 := c2) (N := n.toNatClampNeg) (M := m.toNatClampNeg) x
    have hmul : x * m.toNatClampNeg + m.toNatClampNeg ≤ n.toNatClampNeg * m.toNatClampNeg := by
      have h9 := Nat.mul_le_mul_right m.toNatClampNeg (show x + 1 ≤ n.toNatClampNeg from hlt)
      rw [Nat.succ_mul] at h9
      exact h9
    have hlt0 : s.heap.size < (mq_fill s c1 c2 n.toNatClampNeg m.toNatClampNeg x).heap.size := by rw [f1]; omega
    simp only [wp_bind']
    rw [multianewarray.make]
    simp only [wp_bind', W.ite, hm, if_false, wp_pure', W.theClass, f3, hk2, hkind2, Option.some.injEq, exists_eq_left']
    refine mq_newArray (by rw [f3]; exact hk2) hkind2 hl2 hh2 rfl rfl (by rw [f1]; omega) (by rw [f4]; omega) ?_
    simp only [wp_bind', W.writeLoc, wp_pure']
    refine ⟨mq_out c1 n.toNatClampNeg s.heap.size x, by rw [State.heap_pushCell_of_lt (h := hlt0)]; exact f2, by simp [mq_out, arrV], by rw [mq_out_z]; exact hlt, ?_, hnext _ _ _ ⟨x + 1, hlt, hrest, ?_⟩⟩
    · simp [State.fitsSlot, State.slotType?, mq_out, arrV, f3, hk, hkind, fits]
    · rw [f1, mq_out_s]
      rfl
  · rintro s' d' acts' ⟨i, hi, ht, rfl⟩
    have hiN : i = n.toNatClampNeg := by
      rcases Nat.lt_or_ge i n.toNatClampNeg with h | h
      · rw [show n.toNatClampNeg - i = (n.toNatClampNeg - (i + 1)) + 1 by omega, List.range'_succ] at ht
        cases ht
      · omega
    subst hiN
    simp only [wp_pure']
    exact hq _ _
end MQW
section MQS
variable {p : Program} {l : Launch} {e : Env} {R : Room} {s : State} {m : MethodId} {args : Array Value} {below : List Frame} {meth : Method} {c : Code} {T : State} {locs : List Loc} {cells slots : Nat}
theorem mq_stand (X : Stand p l e R s m args below meth c T locs cells slots) (c1 c2 : ClassId) (N M : Nat) : ∀ i, Stand p l e R s m args below meth c (mq_fill T c1 c2 N M i) locs (cells + 1 + i) (slots + N + i * M) := by
  intro i
  induction i with
  | zero =>
    have h := X.pushed (mq_out c1 N T.heap.size 0)
    rw [mq_out_z] at h
    simpa [mq_fill] using h
  | succ i ih =>
    obtain ⟨f1, f2, f3, f4⟩ := mq_facts (s := T) (c1 := c1) (c2 := c2) (N := N) (M := M) i
    have hlt : T.heap.size < (mq_fill T c1 c2 N M i).heap.size := by rw [f1]; omega
    have h9 : ((mq_fill T c1 c2 N M i).pushCell (mq_in c2 M)).heap[T.heap.size]? = some (mq_out c1 N T.heap.size i) := by rw [State.heap_pushCell_of_lt (h := hlt)]; exact f2
    have h := (ih.pushed (mq_in c2 M)).stored h9 i (.ref (T.heap.size + 1 + i))
    rw [mq_out_s, show (mq_in c2 M).slots.size = M by simp [mq_in]] at h
    have h2 := h.dropFresh (J := [⟨T.heap.size, i⟩]) (fun x hx => by
      cases hx with
      | head => exact X.heapGrown
      | tail _ hx => cases hx)
    rw [show slots + N + (i + 1) * M = slots + N + i * M + M by rw [Nat.succ_mul]; omega]
    exact h2
theorem mq_step (X : Stand p l e R s m args below meth c T locs cells slots) (hexec : p.tables.exec = Jvm.exec) {own : String} {index : Nat} (hown : s.vm.findClass own = some m.cls) (hclink : (Cond.classLink own index ("[" ++ (FieldType.array .int).toString)).before args s = true) (hover : (Cond.arrayOver (.array .int)).before args s = true) (harr : (Cond.arrayClass .int).before args s = true)
    {g : JFrame} (hg : g.method = m) (hdg : decode c.code g.pc = .ok (.multianewarray index 2, 4)) {n k : Int32} {rest : List Value} (hstack : g.stack = .int k :: .int n :: rest) (hn : ¬ n < 0) (hk : ¬ k < 0) (hb1 : n.toNatClampNeg * 4 ≤ 536870912) (hb2 : k.toNatClampNeg * 4 ≤ 536870912)
    (hcells : cells + (1 + n.toNatClampNeg) ≤ R.cells) (hslots : slots + (n.toNatClampNeg + n.toNatClampNeg * k.toNatClampNeg) ≤ R.slots) :
    ∃ (vm₁ : Vm) (c1 c2 : ClassId), s.WarmedH vm₁ ∧ s.vm.findClass ("[" ++ (FieldType.array .int).toString) = some c1 ∧ s.vm.findClass (FieldType.array .int).toString = some c2 ∧
      Stand p l e R s m args below meth c (mq_fill (T.setVm vm₁) c1 c2 n.toNatClampNeg k.toNatClampNeg n.toNatClampNeg) locs (cells + 1 + n.toNatClampNeg) (slots + n.toNatClampNeg + n.toNatClampNeg * k.toNatClampNeg) ∧
      ∀ target, Steps p.tables e below ((mq_fill (T.setVm vm₁) c1 c2 n.toNatClampNeg k.toNatClampNeg n.toNatClampNeg).setTop { g with pc := g.pc + 4, stack := .ref T.heap.size :: rest }) target → Steps p.tables e below (T.setTop g) target := by
  subst hg
  have hpl : e.platform.magicAccessors = ({} : Platform).magicAccessors := by rw [X.admits.platform]
  obtain ⟨c2, c1, kA, hc2, -, hkA, hkindA, hnA⟩ := arrayOverA_spec hover
  obtain ⟨c2', kC, c3, hc2', hkC, hkindC⟩ := Cond.arrayClass_spec harr
  have ec : c2' = c2 := Option.some.inj (hc2'.symm.trans hc2)
  rw [ec] at hkC
  obtain ⟨c0, hfc0, hcl⟩ := Cond.classLink_spec hown hclink e.platform hpl
  cases hnA.symm.trans hfc0
  obtain ⟨hg₁, hwarm₁, hready₁⟩ := State.classEntry (e := e) X.warmed hcl
  generalize T.vm.noted g.method.cls index (.cls c1) = vm₁ at hg₁ hwarm₁ hready₁
  obtain ⟨kA₁, hkA₁, heA⟩ := hwarm₁.alike.2.2 _ _ hkA
  obtain ⟨kC₁, hkC₁, heC⟩ := hwarm₁.alike.2.2 _ _ hkC
  have hkindA₁ : kA₁.kind = .array c2 (.array .int) := by rw [heA]; exact hkindA
  have hkindC₁ : kC₁.kind = .array c3 .int := by rw [heC]; exact hkindC
  have X₁ := X.noted hwarm₁
  obtain ⟨hr1, hr2⟩ := X.roomAbove hcells hslots
  have XF := mq_stand X₁ c1 c2 n.toNatClampNeg k.toNatClampNeg n.toNatClampNeg
  refine ⟨vm₁, c1, c2, hwarm₁, hnA, hc2, XF, fun target hrest => ?_⟩
  have hl1 : ¬ n.toNatClampNeg > e.platform.arrayLengthLimit := by rw [Launch.admits_arrayLengthLimit X.admits]; omega
  have hh1 : ¬ n.toNatClampNeg * componentBytes (.array .int) > e.platform.maxHeapBytes := by
    rw [Launch.admits_maxHeapBytes X.admits]; show ¬ n.toNatClampNeg * 4 > 536870912; omega
  have hl2 : ¬ k.toNatClampNeg > e.platform.arrayLengthLimit := by rw [Launch.admits_arrayLengthLimit X.admits]; omega
  have hh2 : ¬ k.toNatClampNeg * componentBytes .int > e.platform.maxHeapBytes := by
    rw [Launch.admits_maxHeapBytes X.admits]; show ¬ k.toNatClampNeg * 4 > 536870912; omega
  jvm_step X.here [hexec, hdg]
  simp only [multianewarray.sem, wp_bind', W.resolveClassAt_links (State.method?_setTop g X.here.top) hg₁]
  rw [W.popN, if_neg (by decide)]
  refine ⟨g, State.topJava?_setTop' (s := T.setVm vm₁) g X.here.top, [.int n, .int k], rest, rfl, hstack, ?_⟩
  simp only [List.mapM_cons, List.mapM_nil, wp_bind', wp_pure']
  refine mq_make (k := kA₁) (k2 := kC₁) (c2 := c2) (c3 := c3) hkA₁ hkindA₁ hkC₁ hkindC₁ hn hk hl1 hh1 hl2 hh2 (by show T.heap.size + 1 + _ ≤ _; omega) (by show T.slotsUsed + _ + _ ≤ _; omega) (fun d' acts' => ?_)
  have eS : ((T.setTop g).setVm vm₁).setTop { g with stack := rest } = (T.setVm vm₁).setTop { g with stack := rest } := by
    show ((T.setVm vm₁).setTop g).setTop _ = _
    rw [State.setTop_setTop]
  rw [eS, mq_setTop]
  simp only [wp_bind', W.mark, W.pushRef, State.topJava?_setTop' _ XF.here.top, Option.some.injEq, exists_eq_left', State.setTop_setTop, State.heap_setTop]
  intro acts
  simp [jvm, XF.here.top]
  exact hrest
end MQS
