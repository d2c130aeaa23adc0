/-! rows over any world: arrays of numbers (Ar), arrays of such arrays (Rr), the law's Sim (Ob) -/
/-- cell q, at b: an array of len numbers -/
def Ar (cI : ClassId) (n : Nat) (a : Nat → Nat) (v : Nat → va_E) (q b len : Nat) (f : Nat → Int32) : Prop := q < n ∧ a q = b ∧ v q = .inl (cI, len, .inl f) ∧ len < 2 ^ 31
def Rr (cJ : ClassId) (n : Nat) (a : Nat → Nat) (v : Nat → va_E) (q b len : Nat) (f : Nat → Option Nat) : Prop := q < n ∧ a q = b ∧ v q = .inl (cJ, len, .inr (.inr (.inr (.inr f)))) ∧ len < 2 ^ 31
def Ob (n : Nat) (a : Nat → Nat) (v : Nat → va_E) (q b : Nat) (fs : List Value) : Prop := q < n ∧ a q = b ∧ v q = .inr (4, fs)
theorem wset_ne {v : Nat → va_E} {q j : Nat} {x : va_E} (h : j ≠ q) : wset v q x j = v j := if_neg h
theorem wset_eq {v : Nat → va_E} {q : Nat} {x : va_E} : wset v q x q = x := if_pos rfl
theorem aPu_lt {n j q : Nat} {a : Nat → Nat} (h : j < n) : aPu n a q j = a j := if_neg (by omega)
theorem vPu_lt {n j : Nat} {v : Nat → va_E} {x : va_E} (h : j < n) : vPu n v x j = v j := if_neg (by omega)
theorem aPu_n {n q : Nat} {a : Nat → Nat} : aPu n a q n = q := if_pos rfl
theorem vPu_n {n : Nat} {v : Nat → va_E} {x : va_E} : vPu n v x n = x := if_pos rfl
theorem Ar.ne {cI : ClassId} {n q b len j : Nat} {a : Nat → Nat} {v : Nat → va_E} {f : Nat → Int32} {x : va_E} (h : Ar cI n a v q b len f) (hj : q ≠ j) : Ar cI n a (wset v j x) q b len f := ⟨h.1, h.2.1, (wset_ne hj).trans h.2.2.1, h.2.2.2⟩
theorem Ar.pu {cI : ClassId} {n q b len z : Nat} {a : Nat → Nat} {v : Nat → va_E} {f : Nat → Int32} {x : va_E} (h : Ar cI n a v q b len f) : Ar cI (n + 1) (aPu n a z) (vPu n v x) q b len f := ⟨by have := h.1; omega, (aPu_lt h.1).trans h.2.1, (vPu_lt h.1).trans h.2.2.1, h.2.2.2⟩
theorem Ar.to {cI : ClassId} {n n' q b len : Nat} {a a' : Nat → Nat} {v v' : Nat → va_E} {f : Nat → Int32} (h : Ar cI n a v q b len f) (hn : q < n') (ha : a' q = a q) (hv : v' q = v q) : Ar cI n' a' v' q b len f := ⟨hn, ha.trans h.2.1, hv.trans h.2.2.1, h.2.2.2⟩
theorem Rr.ne {cJ : ClassId} {n q b len j : Nat} {a : Nat → Nat} {v : Nat → va_E} {f : Nat → Option Nat} {x : va_E} (h : Rr cJ n a v q b len f) (hj : q ≠ j) : Rr cJ n a (wset v j x) q b len f := ⟨h.1, h.2.1, (wset_ne hj).trans h.2.2.1, h.2.2.2⟩
theorem Rr.pu {cJ : ClassId} {n q b len z : Nat} {a : Nat → Nat} {v : Nat → va_E} {f : Nat → Option Nat} {x : va_E} (h : Rr cJ n a v q b len f) : Rr cJ (n + 1) (aPu n a z) (vPu n v x) q b len f := ⟨by have := h.1; omega, (aPu_lt h.1).trans h.2.1, (vPu_lt h.1).trans h.2.2.1, h.2.2.2⟩
theorem Rr.to {cJ : ClassId} {n n' q b len : Nat} {a a' : Nat → Nat} {v v' : Nat → va_E} {f : Nat → Option Nat} (h : Rr cJ n a v q b len f) (hn : q < n') (ha : a' q = a q) (hv : v' q = v q) : Rr cJ n' a' v' q b len f := ⟨hn, ha.trans h.2.1, hv.trans h.2.2.1, h.2.2.2⟩
theorem Ar.sv {cI : ClassId} {n q b q0 : Nat} {a : Nat → Nat} {v v' : Nat → va_E} {len : Nat} {f : Nat → Int32} (h : Ar cI n a v q b len f) (hv : ∀ j, j ≠ q0 → v' j = v j) (hj : q ≠ q0) : Ar cI n a v' q b len f := ⟨h.1, h.2.1, (hv _ hj).trans h.2.2.1, h.2.2.2⟩
theorem Ar.gr {cI : ClassId} {n n' q b : Nat} {a a' : Nat → Nat} {v v' : Nat → va_E} {len : Nat} {f : Nat → Int32} (h : Ar cI n a v q b len f) (ha : ∀ j, j < n → a' j = a j) (hv : ∀ j, j < n → v' j = v j) (hn : n ≤ n') : Ar cI n' a' v' q b len f := ⟨Nat.lt_of_lt_of_le h.1 hn, (ha _ h.1).trans h.2.1, (hv _ h.1).trans h.2.2.1, h.2.2.2⟩
theorem Ar.dr {cI : ClassId} {n n' q b : Nat} {a : Nat → Nat} {v : Nat → va_E} {len : Nat} {f : Nat → Int32} (h : Ar cI n a v q b len f) (hn : q < n') : Ar cI n' a v q b len f := ⟨hn, h.2⟩
theorem Ar.sh {cI : ClassId} {n n0 o q b : Nat} {a : Nat → Nat} {v : Nat → va_E} {len : Nat} {f : Nat → Int32} (h : Ar cI n0 (fun k => a (o + k)) (fun k => v (o + k)) q b len f) (hn : o + n0 ≤ n) : Ar cI n a v (o + q) b len f := ⟨by have := h.1; omega, h.2⟩
theorem Ar.us {cI : ClassId} {n n0 o q b : Nat} {a : Nat → Nat} {v : Nat → va_E} {len : Nat} {f : Nat → Int32} (h : Ar cI n a v (o + q) b len f) (hn : q < n0) : Ar cI n0 (fun k => a (o + k)) (fun k => v (o + k)) q b len f := ⟨hn, h.2⟩
theorem Rr.sv {cJ : ClassId} {n q b q0 : Nat} {a : Nat → Nat} {v v' : Nat → va_E} {len : Nat} {f : Nat → Option Nat} (h : Rr cJ n a v q b len f) (hv : ∀ j, j ≠ q0 → v' j = v j) (hj : q ≠ q0) : Rr cJ n a v' q b len f := ⟨h.1, h.2.1, (hv _ hj).trans h.2.2.1, h.2.2.2⟩
theorem Rr.gr {cJ : ClassId} {n n' q b : Nat} {a a' : Nat → Nat} {v v' : Nat → va_E} {len : Nat} {f : Nat → Option Nat} (h : Rr cJ n a v q b len f) (ha : ∀ j, j < n → a' j = a j) (hv : ∀ j, j < n → v' j = v j) (hn : n ≤ n') : Rr cJ n' a' v' q b len f := ⟨Nat.lt_of_lt_of_le h.1 hn, (ha _ h.1).trans h.2.1, (hv _ h.1).trans h.2.2.1, h.2.2.2⟩
theorem Rr.dr {cJ : ClassId} {n n' q b : Nat} {a : Nat → Nat} {v : Nat → va_E} {len : Nat} {f : Nat → Option Nat} (h : Rr cJ n a v q b len f) (hn : q < n') : Rr cJ n' a v q b len f := ⟨hn, h.2⟩
theorem Rr.sh {cJ : ClassId} {n n0 o q b : Nat} {a : Nat → Nat} {v : Nat → va_E} {len : Nat} {f : Nat → Option Nat} (h : Rr cJ n0 (fun k => a (o + k)) (fun k => v (o + k)) q b len f) (hn : o + n0 ≤ n) : Rr cJ n a v (o + q) b len f := ⟨by have := h.1; omega, h.2⟩
theorem Rr.us {cJ : ClassId} {n n0 o q b : Nat} {a : Nat → Nat} {v : Nat → va_E} {len : Nat} {f : Nat → Option Nat} (h : Rr cJ n a v (o + q) b len f) (hn : q < n0) : Rr cJ n0 (fun k => a (o + k)) (fun k => v (o + k)) q b len f := ⟨hn, h.2⟩
theorem Ob.sv {n q b q0 : Nat} {a : Nat → Nat} {v v' : Nat → va_E} {fs : List Value} (h : Ob n a v q b fs) (hv : ∀ j, j ≠ q0 → v' j = v j) (hj : q ≠ q0) : Ob n a v' q b fs := ⟨h.1, h.2.1, (hv _ hj).trans h.2.2⟩
theorem Ob.gr {n n' q b : Nat} {a a' : Nat → Nat} {v v' : Nat → va_E} {fs : List Value} (h : Ob n a v q b fs) (ha : ∀ j, j < n → a' j = a j) (hv : ∀ j, j < n → v' j = v j) (hn : n ≤ n') : Ob n' a' v' q b fs := ⟨Nat.lt_of_lt_of_le h.1 hn, (ha _ h.1).trans h.2.1, (hv _ h.1).trans h.2.2⟩
theorem Ob.dr {n n' q b : Nat} {a : Nat → Nat} {v : Nat → va_E} {fs : List Value} (h : Ob n a v q b fs) (hn : q < n') : Ob n' a v q b fs := ⟨hn, h.2⟩
theorem Ob.sh {n n0 o q b : Nat} {a : Nat → Nat} {v : Nat → va_E} {fs : List Value} (h : Ob n0 (fun k => a (o + k)) (fun k => v (o + k)) q b fs) (hn : o + n0 ≤ n) : Ob n a v (o + q) b fs := ⟨by have := h.1; omega, h.2⟩
theorem Ob.us {n n0 o q b : Nat} {a : Nat → Nat} {v : Nat → va_E} {fs : List Value} (h : Ob n a v (o + q) b fs) (hn : q < n0) : Ob n0 (fun k => a (o + k)) (fun k => v (o + k)) q b fs := ⟨hn, h.2⟩
theorem Ob.ne {n q b j : Nat} {a : Nat → Nat} {v : Nat → va_E} {fs : List Value} {x : va_E} (h : Ob n a v q b fs) (hj : q ≠ j) : Ob n a (wset v j x) q b fs := ⟨h.1, h.2.1, (wset_ne hj).trans h.2.2⟩
theorem Ob.pu {n q b z : Nat} {a : Nat → Nat} {v : Nat → va_E} {fs : List Value} {x : va_E} (h : Ob n a v q b fs) : Ob (n + 1) (aPu n a z) (vPu n v x) q b fs := ⟨by have := h.1; omega, (aPu_lt h.1).trans h.2.1, (vPu_lt h.1).trans h.2.2⟩
theorem Ob.to {n n' q b : Nat} {a a' : Nat → Nat} {v v' : Nat → va_E} {fs : List Value} (h : Ob n a v q b fs) (hn : q < n') (ha : a' q = a q) (hv : v' q = v q) : Ob n' a' v' q b fs := ⟨hn, ha.trans h.2.1, hv.trans h.2.2⟩
theorem Ar.st {cI : ClassId} {n q b len : Nat} {a : Nat → Nat} {v : Nat → va_E} {f f' : Nat → Int32} (h : Ar cI n a v q b len f) : Ar cI n a (wset v q (.inl (cI, len, .inl f'))) q b len f' := ⟨h.1, h.2.1, wset_eq, h.2.2.2⟩
theorem Rr.st {cJ : ClassId} {n q b len : Nat} {a : Nat → Nat} {v : Nat → va_E} {f f' : Nat → Option Nat} (h : Rr cJ n a v q b len f) : Rr cJ n a (wset v q (.inl (cJ, len, .inr (.inr (.inr (.inr f')))))) q b len f' := ⟨h.1, h.2.1, wset_eq, h.2.2.2⟩
theorem Ob.st {n q b : Nat} {a : Nat → Nat} {v : Nat → va_E} {fs fs' : List Value} (h : Ob n a v q b fs) : Ob n a (wset v q (.inr (4, fs'))) q b fs' := ⟨h.1, h.2.1, wset_eq⟩
theorem aChk_mk {rm : Room} {maxL : Nat} {R : Room} {lv : List (Option Value)} {nL cells slots mc ms : Nat} {rest : List Value} (h : aChk rm maxL { R with cells := mc, slots := ms } lv nL 0 0 mc ms rest = true) (h1 : cells + mc ≤ R.cells) (h2 : slots + ms ≤ R.slots) : aChk rm maxL R lv nL cells slots mc ms rest = true := by
  obtain ⟨⟨g1, g2⟩, g3, g4, g5, -, g6⟩ := aChk_spec h
  simp only [aChk, Bool.and_eq_true]
  refine ⟨Nat.ble_eq_true_of_le g1, Nat.ble_eq_true_of_le g2, ?_, ?_, ?_, Nat.ble_eq_true_of_le h1, Nat.ble_eq_true_of_le h2, Nat.ble_eq_true_of_le g6⟩
  · rw [g3]; exact Nat.beq_refl _
  · rw [g4]; exact Nat.beq_refl _
  · rw [g5]; exact Nat.beq_refl _
theorem Lk10 {x0 x1 x2 x3 x4 x5 x6 x7 x8 x9 : Option Value} {v : Value} {l : List (Option Value)} : Lk (x0 :: x1 :: x2 :: x3 :: x4 :: x5 :: x6 :: x7 :: x8 :: x9 :: some v :: l) 10 v := rfl
theorem St10 {x0 x1 x2 x3 x4 x5 x6 x7 x8 x9 : Option Value} {y : Option Value} {v : Value} {l : List (Option Value)} : St (x0 :: x1 :: x2 :: x3 :: x4 :: x5 :: x6 :: x7 :: x8 :: x9 :: y :: l) 10 v (x0 :: x1 :: x2 :: x3 :: x4 :: x5 :: x6 :: x7 :: x8 :: x9 :: some v :: l) := ⟨by simp, rfl⟩
theorem Lk11 {x0 x1 x2 x3 x4 x5 x6 x7 x8 x9 x10 : Option Value} {v : Value} {l : List (Option Value)} : Lk (x0 :: x1 :: x2 :: x3 :: x4 :: x5 :: x6 :: x7 :: x8 :: x9 :: x10 :: some v :: l) 11 v := rfl
theorem St11 {x0 x1 x2 x3 x4 x5 x6 x7 x8 x9 x10 : Option Value} {y : Option Value} {v : Value} {l : List (Option Value)} : St (x0 :: x1 :: x2 :: x3 :: x4 :: x5 :: x6 :: x7 :: x8 :: x9 :: x10 :: y :: l) 11 v (x0 :: x1 :: x2 :: x3 :: x4 :: x5 :: x6 :: x7 :: x8 :: x9 :: x10 :: some v :: l) := ⟨by simp, rfl⟩
theorem Lk12 {x0 x1 x2 x3 x4 x5 x6 x7 x8 x9 x10 x11 : Option Value} {v : Value} {l : List (Option Value)} : Lk (x0 :: x1 :: x2 :: x3 :: x4 :: x5 :: x6 :: x7 :: x8 :: x9 :: x10 :: x11 :: some v :: l) 12 v := rfl
theorem St12 {x0 x1 x2 x3 x4 x5 x6 x7 x8 x9 x10 x11 : Option Value} {y : Option Value} {v : Value} {l : List (Option Value)} : St (x0 :: x1 :: x2 :: x3 :: x4 :: x5 :: x6 :: x7 :: x8 :: x9 :: x10 :: x11 :: y :: l) 12 v (x0 :: x1 :: x2 :: x3 :: x4 :: x5 :: x6 :: x7 :: x8 :: x9 :: x10 :: x11 :: some v :: l) := ⟨by simp, rfl⟩
theorem Lk13 {x0 x1 x2 x3 x4 x5 x6 x7 x8 x9 x10 x11 x12 : Option Value} {v : Value} {l : List (Option Value)} : Lk (x0 :: x1 :: x2 :: x3 :: x4 :: x5 :: x6 :: x7 :: x8 :: x9 :: x10 :: x11 :: x12 :: some v :: l) 13 v := rfl
theorem St13 {x0 x1 x2 x3 x4 x5 x6 x7 x8 x9 x10 x11 x12 : Option Value} {y : Option Value} {v : Value} {l : List (Option Value)} : St (x0 :: x1 :: x2 :: x3 :: x4 :: x5 :: x6 :: x7 :: x8 :: x9 :: x10 :: x11 :: x12 :: y :: l) 13 v (x0 :: x1 :: x2 :: x3 :: x4 :: x5 :: x6 :: x7 :: x8 :: x9 :: x10 :: x11 :: x12 :: some v :: l) := ⟨by simp, rfl⟩
theorem Lk14 {x0 x1 x2 x3 x4 x5 x6 x7 x8 x9 x10 x11 x12 x13 : Option Value} {v : Value} {l : List (Option Value)} : Lk (x0 :: x1 :: x2 :: x3 :: x4 :: x5 :: x6 :: x7 :: x8 :: x9 :: x10 :: x11 :: x12 :: x13 :: some v :: l) 14 v := rfl
theorem St14 {x0 x1 x2 x3 x4 x5 x6 x7 x8 x9 x10 x11 x12 x13 : Option Value} {y : Option Value} {v : Value} {l : List (Option Value)} : St (x0 :: x1 :: x2 :: x3 :: x4 :: x5 :: x6 :: x7 :: x8 :: x9 :: x10 :: x11 :: x12 :: x13 :: y :: l) 14 v (x0 :: x1 :: x2 :: x3 :: x4 :: x5 :: x6 :: x7 :: x8 :: x9 :: x10 :: x11 :: x12 :: x13 :: some v :: l) := ⟨by simp, rfl⟩
theorem Lk15 {x0 x1 x2 x3 x4 x5 x6 x7 x8 x9 x10 x11 x12 x13 x14 : Option Value} {v : Value} {l : List (Option Value)} : Lk (x0 :: x1 :: x2 :: x3 :: x4 :: x5 :: x6 :: x7 :: x8 :: x9 :: x10 :: x11 :: x12 :: x13 :: x14 :: some v :: l) 15 v := rfl
theorem St15 {x0 x1 x2 x3 x4 x5 x6 x7 x8 x9 x10 x11 x12 x13 x14 : Option Value} {y : Option Value} {v : Value} {l : List (Option Value)} : St (x0 :: x1 :: x2 :: x3 :: x4 :: x5 :: x6 :: x7 :: x8 :: x9 :: x10 :: x11 :: x12 :: x13 :: x14 :: y :: l) 15 v (x0 :: x1 :: x2 :: x3 :: x4 :: x5 :: x6 :: x7 :: x8 :: x9 :: x10 :: x11 :: x12 :: x13 :: x14 :: some v :: l) := ⟨by simp, rfl⟩
theorem Lk16 {x0 x1 x2 x3 x4 x5 x6 x7 x8 x9 x10 x11 x12 x13 x14 x15 : Option Value} {v : Value} {l : List (Option Value)} : Lk (x0 :: x1 :: x2 :: x3 :: x4 :: x5 :: x6 :: x7 :: x8 :: x9 :: x10 :: x11 :: x12 :: x13 :: x14 :: x15 :: some v :: l) 16 v := rfl
theorem St16 {x0 x1 x2 x3 x4 x5 x6 x7 x8 x9 x10 x11 x12 x13 x14 x15 : Option Value} {y : Option Value} {v : Value} {l : List (Option Value)} : St (x0 :: x1 :: x2 :: x3 :: x4 :: x5 :: x6 :: x7 :: x8 :: x9 :: x10 :: x11 :: x12 :: x13 :: x14 :: x15 :: y :: l) 16 v (x0 :: x1 :: x2 :: x3 :: x4 :: x5 :: x6 :: x7 :: x8 :: x9 :: x10 :: x11 :: x12 :: x13 :: x14 :: x15 :: some v :: l) := ⟨by simp, rfl⟩
theorem Lk17 {x0 x1 x2 x3 x4 x5 x6 x7 x8 x9 x10 x11 x12 x13 x14 x15 x16 : Option Value} {v : Value} {l : List (Option Value)} : Lk (x0 :: x1 :: x2 :: x3 :: x4 :: x5 :: x6 :: x7 :: x8 :: x9 :: x10 :: x11 :: x12 :: x13 :: x14 :: x15 :: x16 :: some v :: l) 17 v := rfl
theorem St17 {x0 x1 x2 x3 x4 x5 x6 x7 x8 x9 x10 x11 x12 x13 x14 x15 x16 : Option Value} {y : Option Value} {v : Value} {l : List (Option Value)} : St (x0 :: x1 :: x2 :: x3 :: x4 :: x5 :: x6 :: x7 :: x8 :: x9 :: x10 :: x11 :: x12 :: x13 :: x14 :: x15 :: x16 :: y :: l) 17 v (x0 :: x1 :: x2 :: x3 :: x4 :: x5 :: x6 :: x7 :: x8 :: x9 :: x10 :: x11 :: x12 :: x13 :: x14 :: x15 :: x16 :: some v :: l) := ⟨by simp, rfl⟩
theorem Lk18 {x0 x1 x2 x3 x4 x5 x6 x7 x8 x9 x10 x11 x12 x13 x14 x15 x16 x17 : Option Value} {v : Value} {l : List (Option Value)} : Lk (x0 :: x1 :: x2 :: x3 :: x4 :: x5 :: x6 :: x7 :: x8 :: x9 :: x10 :: x11 :: x12 :: x13 :: x14 :: x15 :: x16 :: x17 :: some v :: l) 18 v := rfl
theorem St18 {x0 x1 x2 x3 x4 x5 x6 x7 x8 x9 x10 x11 x12 x13 x14 x15 x16 x17 : Option Value} {y : Option Value} {v : Value} {l : List (Option Value)} : St (x0 :: x1 :: x2 :: x3 :: x4 :: x5 :: x6 :: x7 :: x8 :: x9 :: x10 :: x11 :: x12 :: x13 :: x14 :: x15 :: x16 :: x17 :: y :: l) 18 v (x0 :: x1 :: x2 :: x3 :: x4 :: x5 :: x6 :: x7 :: x8 :: x9 :: x10 :: x11 :: x12 :: x13 :: x14 :: x15 :: x16 :: x17 :: some v :: l) := ⟨by simp, rfl⟩
theorem Lk19 {x0 x1 x2 x3 x4 x5 x6 x7 x8 x9 x10 x11 x12 x13 x14 x15 x16 x17 x18 : Option Value} {v : Value} {l : List (Option Value)} : Lk (x0 :: x1 :: x2 :: x3 :: x4 :: x5 :: x6 :: x7 :: x8 :: x9 :: x10 :: x11 :: x12 :: x13 :: x14 :: x15 :: x16 :: x17 :: x18 :: some v :: l) 19 v := rfl
theorem St19 {x0 x1 x2 x3 x4 x5 x6 x7 x8 x9 x10 x11 x12 x13 x14 x15 x16 x17 x18 : Option Value} {y : Option Value} {v : Value} {l : List (Option Value)} : St (x0 :: x1 :: x2 :: x3 :: x4 :: x5 :: x6 :: x7 :: x8 :: x9 :: x10 :: x11 :: x12 :: x13 :: x14 :: x15 :: x16 :: x17 :: x18 :: y :: l) 19 v (x0 :: x1 :: x2 :: x3 :: x4 :: x5 :: x6 :: x7 :: x8 :: x9 :: x10 :: x11 :: x12 :: x13 :: x14 :: x15 :: x16 :: x17 :: x18 :: some v :: l) := ⟨by simp, rfl⟩
theorem Lk20 {x0 x1 x2 x3 x4 x5 x6 x7 x8 x9 x10 x11 x12 x13 x14 x15 x16 x17 x18 x19 : Option Value} {v : Value} {l : List (Option Value)} : Lk (x0 :: x1 :: x2 :: x3 :: x4 :: x5 :: x6 :: x7 :: x8 :: x9 :: x10 :: x11 :: x12 :: x13 :: x14 :: x15 :: x16 :: x17 :: x18 :: x19 :: some v :: l) 20 v := rfl
theorem St20 {x0 x1 x2 x3 x4 x5 x6 x7 x8 x9 x10 x11 x12 x13 x14 x15 x16 x17 x18 x19 : Option Value} {y : Option Value} {v : Value} {l : List (Option Value)} : St (x0 :: x1 :: x2 :: x3 :: x4 :: x5 :: x6 :: x7 :: x8 :: x9 :: x10 :: x11 :: x12 :: x13 :: x14 :: x15 :: x16 :: x17 :: x18 :: x19 :: y :: l) 20 v (x0 :: x1 :: x2 :: x3 :: x4 :: x5 :: x6 :: x7 :: x8 :: x9 :: x10 :: x11 :: x12 :: x13 :: x14 :: x15 :: x16 :: x17 :: x18 :: x19 :: some v :: l) := ⟨by simp, rfl⟩
/-- a family of arrays, one of them changed -/
def famS (af : Nat → Nat → Int32) (k0 : Nat) (f' : Nat → Int32) : Nat → Nat → Int32 := fun q => if q = k0 then f' else af q
theorem famS_e {af : Nat → Nat → Int32} {k0 : Nat} {f' : Nat → Int32} : famS af k0 f' k0 = f' := if_pos rfl
theorem famS_n {af : Nat → Nat → Int32} {k0 k : Nat} {f' : Nat → Int32} (h : k ≠ k0) : famS af k0 f' k = af k := if_neg h
theorem fam_st {cI : ClassId} {n base len mm k0 : Nat} {a ad : Nat → Nat} {v v' : Nat → va_E} {af : Nat → Nat → Int32} {f' : Nat → Int32} (h : ∀ k, k < mm → Ar cI n a v (base + k) (ad k) len (af k)) (hv : ∀ j, j ≠ base + k0 → v' j = v j) (hk : Ar cI n a v' (base + k0) (ad k0) len f') : ∀ k, k < mm → Ar cI n a v' (base + k) (ad k) len (famS af k0 f' k) := fun k hk9 => by
  by_cases e : k = k0
  · subst e; rw [famS_e]; exact hk
  · rw [famS_n e]; exact (h k hk9).sv hv (by omega)
/-! what the tables say beside the words: arrays of int[] -/
def aO (U : State) : Prop := (Cond.arrayOver (.array .int)).before #[] U = true
theorem aO.moved {u U : State} (hvm : u.vm.Alike U.vm) (h : aO u) : aO U := by
  obtain ⟨comp, c, k, h1, h2, h3, h4, h5⟩ := arrayOverA_spec h
  obtain ⟨k', hk', he⟩ := hvm.2.2 _ _ h3
  have hi : (U.vm.classes.findIdx? fun (x : Class) => match x.kind with | .array component _ => component == comp | _ => false) = some c := by
    rw [hvm.findIdx?_eq _ (fun _ => rfl)]
    exact h2
  have hkind : k'.kind = .array comp (.array .int) := by rw [he]; exact h4
  have f1 : U.vm.findClass (FieldType.array .int).toString = some comp := by rw [hvm.findClass]; exact h1
  have f2 : U.vm.findClass ("[" ++ (FieldType.array .int).toString) = some c := by rw [hvm.findClass]; exact h5
  unfold aO Cond.before Cond.holds
  simp only [Cond.value]
  rw [f1, Option.bind_some]
  refine (congrArg (fun o : Option Nat => (o.bind (fun c => (U.vm.classes[c]?).map fun (k : Class) => match k.kind with | .array _ ty => decide (ty = FieldType.array .int) && decide (U.vm.findClass ("[" ++ (FieldType.array .int).toString) = some c) | _ => false) == some true)) hi).trans ?_
  simp [hk', hkind, f2]
/-- the row's component: the class of int[] -/
theorem aO.comp {s : State} {cI cJ : ClassId} (h : aO s) (hI : va_RA s cI .int) (hJ : va_RA s cJ (.array .int)) : ∃ k : Class, s.vm.classes[cJ]? = some k ∧ k.kind = .array cI (.array .int) ∧ ∃ kI : Class, s.vm.classes[cI]? = some kI := by
  obtain ⟨comp, c, k, h1, h2, h3, h4, h5⟩ := arrayOverA_spec h
  have e1 : comp = cI := Option.some.inj (h1.symm.trans hI)
  have e2 : c = cJ := Option.some.inj (h5.symm.trans hJ)
  subst e1; subst e2
  obtain ⟨kI, hkI, -⟩ := Vm.findClass_spec h1
  exact ⟨k, h3, h4, kI, hkI⟩
def gA : (Nat → Prop) → State → Prop := fun _ U => aO U
theorem gA_H : gH gA := ⟨fun _ U U' _ hv h => aO.moved (by rw [hv]; exact Vm.Alike.refl U.vm) h, fun _ _ _ _ _ _ _ _ hW _ h => aO.moved hW.alike h⟩
section SRW
variable {p : Program} {l : Launch} {e : Env} {R : Room} {s : State} {m : MethodId} {args : Array Value} {below : List Frame} {meth : Method} {c : Code} {Q : State → Prop} {D : va_G} {A : Nat → Prop} {cells slots nL n pc : Nat} {a : Nat → Nat} {v v' : Nat → va_E} {lv lv' : List (Option Value)} {st rest : List Value} {cc : ByteArray} {Ts : List Cond} {own : String} {ret : Option FieldType} {ix b q len i z : Nat} {cI cZ cR cJ : ClassId} {f : Nat → Int32} {g : Nat → Option Nat}
theorem aw_sipush (C : aC p s m args meth c D (cTys cI cZ cR cJ) A cc nL Ts own ret) {z : Int} {x : Int32} (d : decode cc pc = .ok (.sipush z, 3)) (hv : (Int16.ofInt z).toInt32 = x) (k : aW p l e R s m args below meth c Q D A cells slots n a v (pc + 3) lv (.int x :: st)) : aW p l e R s m args below meth c Q D A cells slots n a v (pc) lv (st) := fun H locs ls hP hD hS hL => lv_sipush C.1.1 C.1.2.1 d hv (k H locs ls hP hD hS hL)
theorem aw_ldc (C : aC p s m args meth c D (cTys cI cZ cR cJ) A cc nL Ts own ret) {x : Int32} (d : decode cc pc = .ok (.ldc ix, 2)) (h : Cond.constant own ix x ∈ Ts) (k : aW p l e R s m args below meth c Q D A cells slots n a v (pc + 2) lv (.int x :: st)) : aW p l e R s m args below meth c Q D A cells slots n a v (pc) lv (st) := fun H locs ls hP hD hS hL => lv_ldc C.1.1 C.1.2.1 C.1.2.2.2.1 (C.1.2.2.2.2 _ h) d (k H locs ls hP hD hS hL)
theorem aw_ishr (C : aC p s m args meth c D (cTys cI cZ cR cJ) A cc nL Ts own ret) {x y : Int32} (d : decode cc pc = .ok (.ishr, 1)) (k : ∀ w : Int32, aW p l e R s m args below meth c Q D A cells slots n a v (pc + 1) lv (.int w :: st)) : aW p l e R s m args below meth c Q D A cells slots n a v (pc) lv (.int y :: .int x :: st) := fun H locs ls hP hD hS hL => lv_ishr C.1.1 C.1.2.1 d (k _ H locs ls hP hD hS hL)
theorem aw_idiv (C : aC p s m args meth c D (cTys cI cZ cR cJ) A cc nL Ts own ret) {x y : Int32} (d : decode cc pc = .ok (.idiv, 1)) (hne : ¬ y = 0) (k : aW p l e R s m args below meth c Q D A cells slots n a v (pc + 1) lv (.int (x / y) :: st)) : aW p l e R s m args below meth c Q D A cells slots n a v (pc) lv (.int y :: .int x :: st) := fun H locs ls hP hD hS hL => lv_idiv C.1.1 C.1.2.1 d hne (k H locs ls hP hD hS hL)
theorem aw_irem (C : aC p s m args meth c D (cTys cI cZ cR cJ) A cc nL Ts own ret) {x y : Int32} (d : decode cc pc = .ok (.irem, 1)) (hne : ¬ y = 0) (k : aW p l e R s m args below meth c Q D A cells slots n a v (pc + 1) lv (.int (x - x / y * y) :: st)) : aW p l e R s m args below meth c Q D A cells slots n a v (pc) lv (.int y :: .int x :: st) := fun H locs ls hP hD hS hL => lv_irem C.1.1 C.1.2.1 d hne (k H locs ls hP hD hS hL)
theorem aw_al (C : aC p s m args meth c D (cTys cI cZ cR cJ) A cc nL Ts own ret) (h : Ar cI n a v q b len f) (d : decode cc pc = .ok (.arraylength, 1)) (k : aW p l e R s m args below meth c Q D A cells slots n a v (pc + 1) lv (.int (nI len) :: st)) : aW p l e R s m args below meth c Q D A cells slots n a v (pc) lv (.ref b :: st) := aw_alen (t0 := 0) C d h.1 h.2.1 h.2.2.1 rfl rfl k
theorem aw_alR (C : aC p s m args meth c D (cTys cI cZ cR cJ) A cc nL Ts own ret) (h : Rr cJ n a v q b len g) (d : decode cc pc = .ok (.arraylength, 1)) (k : aW p l e R s m args below meth c Q D A cells slots n a v (pc + 1) lv (.int (nI len) :: st)) : aW p l e R s m args below meth c Q D A cells slots n a v (pc) lv (.ref b :: st) := aw_alen (t0 := 3) C d h.1 h.2.1 h.2.2.1 rfl rfl k
theorem aw_il (C : aC p s m args meth c D (cTys cI cZ cR cJ) A cc nL Ts own ret) (h : Ar cI n a v q b len f) (hi : i < len) (d : decode cc pc = .ok (.iaload, 1)) (k : aW p l e R s m args below meth c Q D A cells slots n a v (pc + 1) lv (.int (f i) :: st)) : aW p l e R s m args below meth c Q D A cells slots n a v (pc) lv (.int (nI i) :: .ref b :: st) := aw_iald (t0 := 0) C d h.1 h.2.1 h.2.2.1 rfl (vp_in_nI hi (by have := h.2.2.2; omega)) (by rw [nI_clamp (by have := h.2.2.2; omega)]; exact k)
theorem aw_is (C : aC p s m args meth c D (cTys cI cZ cR cJ) A cc nL Ts own ret) {x : Int32} (h : Ar cI n a v q b len f) (hi : i < len) (d : decode cc pc = .ok (.iastore, 1)) (k : aW p l e R s m args below meth c Q D A cells slots n a (wset v q (.inl (cI, len, .inl (upd f i x)))) (pc + 1) lv (st)) : aW p l e R s m args below meth c Q D A cells slots n a v (pc) lv (.int x :: .int (nI i) :: .ref b :: st) := aw_iast (t0 := 0) C d h.1 h.2.1 h.2.2.1 rfl (vp_in_nI hi (by have := h.2.2.2; omega)) (by rw [nI_clamp (by have := h.2.2.2; omega)]) k
theorem aw_zl (C : aC p s m args meth c D (cTys cI cZ cR cJ) A cc nL Ts own ret) (h : Ar cZ n a v q b len f) (hi : i < len) (d : decode cc pc = .ok (.baload, 1)) (k : aW p l e R s m args below meth c Q D A cells slots n a v (pc + 1) lv (.int (f i) :: st)) : aW p l e R s m args below meth c Q D A cells slots n a v (pc) lv (.int (nI i) :: .ref b :: st) := aw_zald (t0 := 1) C d h.1 h.2.1 h.2.2.1 rfl (vp_in_nI hi (by have := h.2.2.2; omega)) (by rw [nI_clamp (by have := h.2.2.2; omega)]; exact k)
theorem aw_zs (C : aC p s m args meth c D (cTys cI cZ cR cJ) A cc nL Ts own ret) {x : Int32} (h : Ar cZ n a v q b len f) (hi : i < len) (hx : vp_nar .boolean x = x) (d : decode cc pc = .ok (.bastore, 1)) (k : aW p l e R s m args below meth c Q D A cells slots n a (wset v q (.inl (cZ, len, .inl (upd f i x)))) (pc + 1) lv (st)) : aW p l e R s m args below meth c Q D A cells slots n a v (pc) lv (.int x :: .int (nI i) :: .ref b :: st) := aw_zast (t0 := 1) C d h.1 h.2.1 h.2.2.1 rfl (vp_in_nI hi (by have := h.2.2.2; omega)) (by rw [nI_clamp (by have := h.2.2.2; omega), hx]) k
theorem aw_rl (C : aC p s m args meth c D (cTys cI cZ cR cJ) A cc nL Ts own ret) (h : Rr cJ n a v q b len g) (hi : i < len) (hg : g i = some z) (d : decode cc pc = .ok (.aaload, 1)) (k : aW p l e R s m args below meth c Q D A cells slots n a v (pc + 1) lv (.ref z :: st)) : aW p l e R s m args below meth c Q D A cells slots n a v (pc) lv (.int (nI i) :: .ref b :: st) := fun H locs ls hP hD hS hL => by
  obtain ⟨h1, h2, h3, h4⟩ := h
  subst h2
  have hc : (nI i).toNatClampNeg = i := nI_clamp (by omega)
  have hcell : H[a q]? = some (vp_cell cJ (len, .inr (.inr (.inr (.inr g))))) := by
    have h9 := hP q _ (wv_get h1)
    rw [h3] at h9
    exact h9
  refine W.aald (v := .ref z) (ty := .array .int) C.1.1 C.1.2.1 hcell ((C.2.1.2 3 _ rfl).1 len (fun j => va_rf (g j))) rfl (fun q => by cases q) (by show ¬ (_ ∨ (arrV _ _ _).slots.size ≤ _); rw [arrV_size]; exact vp_in_nI hi (by omega)) (by show (arrV _ _ _).slots[_]? = _; rw [hc, arrV_read _ _ hi, hg]; rfl) rfl rfl d (k H locs ls hP hD hS hL)
theorem aw_rs (C : aC p s m args meth c D (cTys cI cZ cR cJ) A cc nL Ts own ret) {q2 len2 : Nat} {f2 : Nat → Int32} (hO : aO s) (h : Rr cJ n a v q b len g) (hi : i < len) (h2 : Ar cI n a v q2 z len2 f2) (d : decode cc pc = .ok (.aastore, 1)) (k : aW p l e R s m args below meth c Q D A cells slots n a (wset v q (.inl (cJ, len, .inr (.inr (.inr (.inr (va_up g i (some z)))))))) (pc + 1) lv (st)) : aW p l e R s m args below meth c Q D A cells slots n a v (pc) lv (.ref z :: .int (nI i) :: .ref b :: st) := fun H locs ls hP hD hS hL => by
  obtain ⟨h1, hb, h3, h4⟩ := h
  obtain ⟨g1, gb, g3, -⟩ := h2
  subst hb; subst gb
  have hc : (nI i).toNatClampNeg = i := nI_clamp (by omega)
  have hcell : H[a q]? = some (vp_cell cJ (len, .inr (.inr (.inr (.inr g))))) := by
    have h9 := hP q _ (wv_get h1)
    rw [h3] at h9
    exact h9
  have hcell2 : H[a q2]? = some (vp_cell cI (len2, .inl f2)) := by
    have h9 := hP q2 _ (wv_get g1)
    rw [g3] at h9
    exact h9
  obtain ⟨kA, k1, k2, kI, k3⟩ := hO.comp (C.2.1.2 0 _ rfl).2 (C.2.1.2 3 _ rfl).2
  have hin := vp_in_nI hi (by omega)
  have hget := wv_get (a := a) (v := v) h1
  rw [h3] at hget
  refine W.aast C.1.1 C.1.2.1 hcell (fun q h => by cases h) (fun h => by cases h) k1 k2 rfl k3 ⟨fun q => hin (Or.inl q), by show _ < (arrV _ _ _).slots.size; rw [arrV_size, hc]; exact hi⟩ hcell2 (fun q h => by cases h) k3 (va_asg _ _) rfl rfl d fun H1 e z oq => ?_
  have hat : va_at D vwCl (a q, .inl (cJ, len, .inr (.inr (.inr (.inr (va_up g i (some (a q2)))))))) H1 := by
    show H1[a q]? = some (vp_cell _ _)
    rw [e, hc]
    rw [vp_cell_q, vp_cell_q, arrV_store]
    congr 2
    funext j
    by_cases hj : j = i
    · subst hj
      simp [updV, va_up, va_rf]
    · simp [updV, va_up, hj]
  exact k H1 _ ls (by rw [← wv_set h1]; exact hP.set hD hget hat oq) (by rw [← wv_set h1]; exact hD.set hget) (hS.put z oq (hD.2 q _ hget)) hL
theorem aw_ni (C : aC p s m args meth c D (cTys cI cZ cR cJ) A cc nL Ts own ret) (ha : Cond.arrayClass .int ∈ Ts) (hl : len ≤ 1000) (h1 : cells + 1 ≤ R.cells) (h2 : slots + len ≤ R.slots) (d : decode cc pc = .ok (.newarray .int, 2)) (k : ∀ z, aW p l e R s m args below meth c Q D A (cells + 1) (slots + len) (n + 1) (aPu n a z) (vPu n v (.inl (cI, len, .inl (fun _ => 0)))) (pc + 2) lv (.ref z :: st)) : aW p l e R s m args below meth c Q D A cells slots n a v (pc) lv (.int (nI len) :: st) := aw_newa (t0 := 0) (N' := len) (a0 := (len, .inl (fun _ => 0))) C d ha rfl rfl (fun _ => rfl) (nI_pos (by omega)) (nI_clamp (by omega)) (by show len * 4 ≤ _; omega) h1 h2 k
theorem aw_nz (C : aC p s m args meth c D (cTys cI cZ cR cJ) A cc nL Ts own ret) (ha : Cond.arrayClass .boolean ∈ Ts) (hl : len ≤ 1000) (h1 : cells + 1 ≤ R.cells) (h2 : slots + len ≤ R.slots) (d : decode cc pc = .ok (.newarray .boolean, 2)) (k : ∀ z, aW p l e R s m args below meth c Q D A (cells + 1) (slots + len) (n + 1) (aPu n a z) (vPu n v (.inl (cZ, len, .inl (fun _ => 0)))) (pc + 2) lv (.ref z :: st)) : aW p l e R s m args below meth c Q D A cells slots n a v (pc) lv (.int (nI len) :: st) := aw_newa (t0 := 1) (N' := len) (a0 := (len, .inl (fun _ => 0))) C d ha rfl rfl (fun _ => rfl) (nI_pos (by omega)) (nI_clamp (by omega)) (by show len * 1 ≤ _; omega) h1 h2 k
theorem aw_nr (C : aC p s m args meth c D (cTys cI cZ cR cJ) A cc nL Ts own ret) (hO : aO s) (hcl : Cond.classLink own ix "[I" ∈ Ts) (hl : len ≤ 1000) (h1 : cells + 1 ≤ R.cells) (h2 : slots + len ≤ R.slots) (d : decode cc pc = .ok (.anewarray ix, 3)) (k : ∀ z, aW p l e R s m args below meth c Q D A (cells + 1) (slots + len) (n + 1) (aPu n a z) (vPu n v (.inl (cJ, len, .inr (.inr (.inr (.inr (fun _ => none))))))) (pc + 3) lv (.ref z :: st)) : aW p l e R s m args below meth c Q D A cells slots n a v (pc) lv (.int (nI len) :: st) := fun H locs ls hP hD hS hL => by
  have hc : (nI len).toNatClampNeg = len := nI_clamp (by omega)
  refine W.anewA (t := .int) C.1.1 C.1.2.1 C.1.2.2.2.1 (C.1.2.2.2.2 _ hcl) hO rfl d rfl (nI_pos (by omega)) (by rw [hc]; omega) h1 (by rw [hc]; exact h2) fun cA kA comp f1 f2 f3 f4 => ?_
  rw [hc]
  have eA : cA = cJ := Option.some.inj (f1.symm.trans (C.2.1.2 3 _ rfl).2)
  subst eA
  generalize hH1 : H.push ({ cls := cA, slots := Array.replicate len .null, vm := .none } : Cell) = H1
  have z1 : H1.size = H.size + 1 := by rw [← hH1, Array.size_push]
  have e1 : H1[H.size]? = some (arrV cA len (fun _ => .null)) := by rw [← hH1, Array.getElem?_push_size, ← arrV_new]
  have o1 : ∀ q : Nat, q < H.size → H1[q]? = H[q]? := fun q hq => by rw [← hH1, Array.getElem?_push, if_neg (Nat.ne_of_lt hq)]
  have hk : ∀ (k : Nat) (x : Nat × va_E), (wv n a v)[k]? = some x → H1[x.1]? = H[x.1]? := fun k x hx => o1 x.1 ((hP k x hx).lt)
  refine k H.size H1 locs ls (by
    rw [wv_push]
    exact (hP.kept hk).app (fun k x hx => by
      have hz : k < 1 := (List.getElem?_eq_some_iff.mp hx).1
      rw [show k = 0 by omega] at hx
      cases hx
      show H1[H.size]? = some (vp_cell _ _)
      rw [vp_cell_q]
      exact e1)) (by rw [wv_push]; exact hD.push hP rfl (C.2.2.2.2 _ hS.1)) ⟨Nat.le_trans hS.1 (by omega), fun x h1 h2 => (o1 x (Nat.lt_of_lt_of_le h1 hS.1)).trans (hS.2.1 x h1 h2), hS.2.2⟩ hL
/-- new int[N][M]: the outer array is the cell n, its rows the cells behind it -/
theorem aw_mna (C : aC p s m args meth c D (cTys cI cZ cR cJ) A cc nL Ts own ret) {N M : Nat} (hO : aO s) (harr : Cond.arrayClass .int ∈ Ts) (hcl : Cond.classLink own ix "[[I" ∈ Ts) (hN : N ≤ 1000) (hM : M ≤ 1000) (h1 : cells + (1 + N) ≤ R.cells) (h2 : slots + (N + N * M) ≤ R.slots) (d : decode cc pc = .ok (.multianewarray ix 2, 4))
    (k : ∀ (a' : Nat → Nat) (v' : Nat → va_E), (∀ j, j < n → a' j = a j) → (∀ j, j < n → v' j = v j) → v' n = .inl (cJ, N, .inr (.inr (.inr (.inr (fun i => if i < N then some (a' (n + 1 + i)) else none))))) → (∀ i, i < N → v' (n + 1 + i) = .inl (cI, M, .inl (fun _ => 0))) → aW p l e R s m args below meth c Q D A (cells + 1 + N) (slots + N + N * M) (n + 1 + N) a' v' (pc + 4) lv (.ref (a' n) :: st)) : aW p l e R s m args below meth c Q D A cells slots n a v (pc) lv (.int (nI M) :: .int (nI N) :: st) := fun H locs ls hP hD hS hL => by
  intro T hT Xs
  obtain ⟨vm₁, c1, c2, f1, f2, X', step⟩ := gg_step Xs C.1.1 (own := own) (ix := ix) (g := F0 m pc ls (.int (nI M) :: .int (nI N) :: st)) rfl (by rw [C.1.2.1]; exact d) rfl hN hM C.1.2.2.2.1 (C.1.2.2.2.2 _ hcl) (C.1.2.2.2.2 _ harr) hO h1 h2
  have e1 : c1 = cJ := Option.some.inj (f1.symm.trans (C.2.1.2 3 _ rfl).2)
  have e2 : c2 = cI := Option.some.inj (f2.symm.trans (C.2.1.2 0 _ rfl).2)
  subst e1; subst e2
  have hTh : (T.setVm vm₁).heap = H := hT
  have g1 := gg_size (s := T.setVm vm₁) (c1 := c1) (c2 := c2) (N := N) (M := M) (i := N)
  have g2 := gg_out (s := T.setVm vm₁) (c1 := c1) (c2 := c2) (N := N) (M := M) (i := N)
  have hold : ∀ q : Nat, q < H.size → (ggS (T.setVm vm₁) c1 c2 N M N).heap[q]? = H[q]? := fun q hq => by
    have h9 := gg_old (s := T.setVm vm₁) (c1 := c1) (c2 := c2) (N := N) (M := M) (i := N) (q := q) (by rw [hTh]; exact hq)
    rw [hTh] at h9
    exact h9
  have hrow : ∀ i : Nat, i < N → (ggS (T.setVm vm₁) c1 c2 N M N).heap[H.size + 1 + i]? = some (ggI c2 M) := fun i hi => by
    have h9 := gg_row (s := T.setVm vm₁) (c1 := c1) (c2 := c2) (N := N) (M := M) hi
    rw [hTh] at h9
    exact h9
  rw [hTh] at g1 g2
  rw [← Nat.add_assoc] at X'
  generalize ggS (T.setVm vm₁) c1 c2 N M N = F at X' step g1 g2 hold hrow
  have hlt : ∀ j, j < n → a j < H.size := fun j hj => (hP j _ (wv_get hj)).lt
  have hJ := aJ_of hD
  obtain ⟨t, a1, b1⟩ := k (fun j => if j < n then a j else H.size + (j - n)) (fun j => if j < n then v j else if j = n then .inl (c1, N, .inr (.inr (.inr (.inr (fun i => if i < N then some (H.size + 1 + i) else none))))) else .inl (c2, M, .inl (fun _ => 0))) (fun j hj => if_pos hj) (fun j hj => if_pos hj)
    (by
      rw [if_neg (Nat.lt_irrefl n), if_pos rfl]
      refine congrArg (fun g : Nat → Option Nat => (.inl (c1, N, .inr (.inr (.inr (.inr g)))) : va_E)) (funext fun i => ?_)
      by_cases hi : i < N
      · rw [if_pos hi, if_pos hi, if_neg (by omega), show H.size + (n + 1 + i - n) = H.size + 1 + i by omega]
      · rw [if_neg hi, if_neg hi])
    (fun i hi => by rw [if_neg (by omega), if_neg (by omega)]) F.heap locs ls
    (by
      intro j x hx
      obtain ⟨hj, rfl⟩ := wv_lt hx
      show va_at _ _ (if j < n then a j else H.size + (j - n), _) _
      by_cases c1 : j < n
      · rw [if_pos c1, if_pos c1]
        exact (hP j _ (wv_get c1)).kept (hold _ (hlt j c1))
      · rw [if_neg c1, if_neg c1]
        by_cases c2 : j = n
        · rw [if_pos c2, c2, Nat.sub_self, Nat.add_zero]
          refine g2.trans (congrArg some ?_)
          show ggO _ _ _ _ = vp_cell _ _
          rw [vp_cell_q]
          rfl
        · rw [if_neg c2]
          have h9 := hrow (j - n - 1) (by omega)
          rw [show H.size + 1 + (j - n - 1) = H.size + (j - n) by omega] at h9
          refine h9.trans (congrArg some ?_)
          rfl)
    (aJ_D (fun i j hi hj z => by
      have z' : (if i < n then a i else H.size + (i - n)) = (if j < n then a j else H.size + (j - n)) := z
      by_cases c1 : i < n
      · rw [if_pos c1] at z'
        by_cases c2 : j < n
        · rw [if_pos c2] at z'; exact hJ i j c1 c2 z'
        · rw [if_neg c2] at z'
          have := hlt i c1
          omega
      · rw [if_neg c1] at z'
        by_cases c2 : j < n
        · rw [if_pos c2] at z'
          have := hlt j c2
          omega
        · rw [if_neg c2] at z'
          omega) (fun j hj => by
      show A (if j < n then a j else H.size + (j - n))
      by_cases c1 : j < n
      · rw [if_pos c1]; exact hD.2 j _ (wv_get c1)
      · rw [if_neg c1]; exact C.2.2.2.2 _ (by have := hS.1; omega)))
    ⟨by rw [g1]; have := hS.1; omega, fun x h1 h2 => (hold x (Nat.lt_of_lt_of_le h1 hS.1)).trans (hS.2.1 x h1 h2), hS.2.2⟩ hL F rfl X'
  refine ⟨t, step t ?_, b1⟩
  have e9 : T.heap.size = H.size := by rw [hT]
  rw [e9]
  have e8 : (if n < n then a n else H.size + (n - n)) = H.size := by rw [if_neg (Nat.lt_irrefl n), Nat.sub_self, Nat.add_zero]
  rw [e8] at a1
  exact a1
theorem bw_is (C : aC p s m args meth c D (cTys cI cZ cR cJ) A cc nL Ts own ret) {x : Int32} (h : Ar cI n a v q b len f) (hi : i < len) (d : decode cc pc = .ok (.iastore, 1)) (k : ∀ v', (∀ j, j ≠ q → v' j = v j) → Ar cI n a v' q b len (upd f i x) → aW p l e R s m args below meth c Q D A cells slots n a v' (pc + 1) lv (st)) : aW p l e R s m args below meth c Q D A cells slots n a v (pc) lv (.int x :: .int (nI i) :: .ref b :: st) := aw_is C h hi d (k _ (fun j hj => wset_ne hj) h.st)
theorem bw_zs (C : aC p s m args meth c D (cTys cI cZ cR cJ) A cc nL Ts own ret) {x : Int32} (h : Ar cZ n a v q b len f) (hi : i < len) (hx : vp_nar .boolean x = x) (d : decode cc pc = .ok (.bastore, 1)) (k : ∀ v', (∀ j, j ≠ q → v' j = v j) → Ar cZ n a v' q b len (upd f i x) → aW p l e R s m args below meth c Q D A cells slots n a v' (pc + 1) lv (st)) : aW p l e R s m args below meth c Q D A cells slots n a v (pc) lv (.int x :: .int (nI i) :: .ref b :: st) := aw_zs C h hi hx d (k _ (fun j hj => wset_ne hj) h.st)
theorem bw_rs (C : aC p s m args meth c D (cTys cI cZ cR cJ) A cc nL Ts own ret) {q2 len2 : Nat} {f2 : Nat → Int32} (hO : aO s) (h : Rr cJ n a v q b len g) (hi : i < len) (h2 : Ar cI n a v q2 z len2 f2) (d : decode cc pc = .ok (.aastore, 1)) (k : ∀ v', (∀ j, j ≠ q → v' j = v j) → Rr cJ n a v' q b len (va_up g i (some z)) → aW p l e R s m args below meth c Q D A cells slots n a v' (pc + 1) lv (st)) : aW p l e R s m args below meth c Q D A cells slots n a v (pc) lv (.ref z :: .int (nI i) :: .ref b :: st) := aw_rs C hO h hi h2 d (k _ (fun j hj => wset_ne hj) h.st)
theorem bw_ni (C : aC p s m args meth c D (cTys cI cZ cR cJ) A cc nL Ts own ret) (ha : Cond.arrayClass .int ∈ Ts) (hl : len ≤ 1000) (h1 : cells + 1 ≤ R.cells) (h2 : slots + len ≤ R.slots) (d : decode cc pc = .ok (.newarray .int, 2)) (k : ∀ a' v', (∀ j, j < n → a' j = a j) → (∀ j, j < n → v' j = v j) → Ar cI (n + 1) a' v' n (a' n) len (fun _ => 0) → aW p l e R s m args below meth c Q D A (cells + 1) (slots + len) (n + 1) a' v' (pc + 2) lv (.ref (a' n) :: st)) : aW p l e R s m args below meth c Q D A cells slots n a v (pc) lv (.int (nI len) :: st) := aw_ni C ha hl h1 h2 d (fun z => by have h9 := k (aPu n a z) _ (fun j hj => aPu_lt hj) (fun j hj => vPu_lt hj) ⟨Nat.lt_succ_self n, rfl, vPu_n, by omega⟩; rw [aPu_n] at h9; exact h9)
theorem bw_nz (C : aC p s m args meth c D (cTys cI cZ cR cJ) A cc nL Ts own ret) (ha : Cond.arrayClass .boolean ∈ Ts) (hl : len ≤ 1000) (h1 : cells + 1 ≤ R.cells) (h2 : slots + len ≤ R.slots) (d : decode cc pc = .ok (.newarray .boolean, 2)) (k : ∀ a' v', (∀ j, j < n → a' j = a j) → (∀ j, j < n → v' j = v j) → Ar cZ (n + 1) a' v' n (a' n) len (fun _ => 0) → aW p l e R s m args below meth c Q D A (cells + 1) (slots + len) (n + 1) a' v' (pc + 2) lv (.ref (a' n) :: st)) : aW p l e R s m args below meth c Q D A cells slots n a v (pc) lv (.int (nI len) :: st) := aw_nz C ha hl h1 h2 d (fun z => by have h9 := k (aPu n a z) _ (fun j hj => aPu_lt hj) (fun j hj => vPu_lt hj) ⟨Nat.lt_succ_self n, rfl, vPu_n, by omega⟩; rw [aPu_n] at h9; exact h9)
theorem bw_nr (C : aC p s m args meth c D (cTys cI cZ cR cJ) A cc nL Ts own ret) (hO : aO s) (hcl : Cond.classLink own ix "[I" ∈ Ts) (hl : len ≤ 1000) (h1 : cells + 1 ≤ R.cells) (h2 : slots + len ≤ R.slots) (d : decode cc pc = .ok (.anewarray ix, 3)) (k : ∀ a' v', (∀ j, j < n → a' j = a j) → (∀ j, j < n → v' j = v j) → Rr cJ (n + 1) a' v' n (a' n) len (fun _ => none) → aW p l e R s m args below meth c Q D A (cells + 1) (slots + len) (n + 1) a' v' (pc + 3) lv (.ref (a' n) :: st)) : aW p l e R s m args below meth c Q D A cells slots n a v (pc) lv (.int (nI len) :: st) := aw_nr C hO hcl hl h1 h2 d (fun z => by have h9 := k (aPu n a z) _ (fun j hj => aPu_lt hj) (fun j hj => vPu_lt hj) ⟨Nat.lt_succ_self n, rfl, vPu_n, by omega⟩; rw [aPu_n] at h9; exact h9)
theorem aw_g_has (C : aC p s m args meth c D (cTys cI cZ cR cJ) A cc nL Ts own ret) {x0 x1 x2 x3 x4 x5 : Value} (h : Ob n a v q b [x0, x1, x2, x3, x4, x5]) (d : decode cc pc = .ok (.getfield ix, 3)) (hin : ∀ w ∈ wsX40, w ∈ Ts) (hlk : Cond.fieldLink own ix "HutRingsLaw$Sim" "has" "[I" ∈ Ts) (k : aW p l e R s m args below meth c Q D A cells slots n a v (pc + 3) lv (x0 :: st)) : aW p l e R s m args below meth c Q D A cells slots n a v (pc) lv (.ref b :: st) := aw_getf (ci := 4) (j := 0) (T := TX4) (N := 6) C d h.1 h.2.1 h.2.2 rfl hin (by decide) hlk rfl rfl k
theorem aw_p_has (C : aC p s m args meth c D (cTys cI cZ cR cJ) A cc nL Ts own ret) {x0 x1 x2 x3 x4 x5 : Value} (h : Ob n a v q b [x0, x1, x2, x3, x4, x5]) (d : decode cc pc = .ok (.putfield ix, 3)) (hin : ∀ w ∈ wsX40, w ∈ Ts) (hlk : Cond.fieldLink own ix "HutRingsLaw$Sim" "has" "[I" ∈ Ts) (k : aW p l e R s m args below meth c Q D A cells slots n a (wset v q (.inr (4, [.ref z, x1, x2, x3, x4, x5]))) (pc + 3) lv (st)) : aW p l e R s m args below meth c Q D A cells slots n a v (pc) lv (.ref z :: .ref b :: st) := aw_putf (ci := 4) (j := 0) (T := TX4) (N := 6) (ty0 := tyX4) C d h.1 h.2.1 h.2.2 rfl hin tyX4_ok nmX4 (by decide) hlk rfl rfl rfl rfl (Nat.le_of_ble_eq_true rfl) rfl rfl k
theorem aw_g_lists (C : aC p s m args meth c D (cTys cI cZ cR cJ) A cc nL Ts own ret) {x0 x1 x2 x3 x4 x5 : Value} (h : Ob n a v q b [x0, x1, x2, x3, x4, x5]) (d : decode cc pc = .ok (.getfield ix, 3)) (hin : ∀ w ∈ wsX40, w ∈ Ts) (hlk : Cond.fieldLink own ix "HutRingsLaw$Sim" "lists" "[[I" ∈ Ts) (k : aW p l e R s m args below meth c Q D A cells slots n a v (pc + 3) lv (x1 :: st)) : aW p l e R s m args below meth c Q D A cells slots n a v (pc) lv (.ref b :: st) := aw_getf (ci := 4) (j := 1) (T := TX4) (N := 6) C d h.1 h.2.1 h.2.2 rfl hin (by decide) hlk rfl rfl k
theorem aw_p_lists (C : aC p s m args meth c D (cTys cI cZ cR cJ) A cc nL Ts own ret) {x0 x1 x2 x3 x4 x5 : Value} (h : Ob n a v q b [x0, x1, x2, x3, x4, x5]) (d : decode cc pc = .ok (.putfield ix, 3)) (hin : ∀ w ∈ wsX40, w ∈ Ts) (hlk : Cond.fieldLink own ix "HutRingsLaw$Sim" "lists" "[[I" ∈ Ts) (k : aW p l e R s m args below meth c Q D A cells slots n a (wset v q (.inr (4, [x0, .ref z, x2, x3, x4, x5]))) (pc + 3) lv (st)) : aW p l e R s m args below meth c Q D A cells slots n a v (pc) lv (.ref z :: .ref b :: st) := aw_putf (ci := 4) (j := 1) (T := TX4) (N := 6) (ty0 := tyX4) C d h.1 h.2.1 h.2.2 rfl hin tyX4_ok nmX4 (by decide) hlk rfl rfl rfl rfl (Nat.le_of_ble_eq_true rfl) rfl rfl k
theorem aw_g_gets (C : aC p s m args meth c D (cTys cI cZ cR cJ) A cc nL Ts own ret) {x0 x1 x2 x3 x4 x5 : Value} (h : Ob n a v q b [x0, x1, x2, x3, x4, x5]) (d : decode cc pc = .ok (.getfield ix, 3)) (hin : ∀ w ∈ wsX40, w ∈ Ts) (hlk : Cond.fieldLink own ix "HutRingsLaw$Sim" "gets" "[I" ∈ Ts) (k : aW p l e R s m args below meth c Q D A cells slots n a v (pc + 3) lv (x2 :: st)) : aW p l e R s m args below meth c Q D A cells slots n a v (pc) lv (.ref b :: st) := aw_getf (ci := 4) (j := 2) (T := TX4) (N := 6) C d h.1 h.2.1 h.2.2 rfl hin (by decide) hlk rfl rfl k
theorem aw_p_gets (C : aC p s m args meth c D (cTys cI cZ cR cJ) A cc nL Ts own ret) {x0 x1 x2 x3 x4 x5 : Value} (h : Ob n a v q b [x0, x1, x2, x3, x4, x5]) (d : decode cc pc = .ok (.putfield ix, 3)) (hin : ∀ w ∈ wsX40, w ∈ Ts) (hlk : Cond.fieldLink own ix "HutRingsLaw$Sim" "gets" "[I" ∈ Ts) (k : aW p l e R s m args below meth c Q D A cells slots n a (wset v q (.inr (4, [x0, x1, .ref z, x3, x4, x5]))) (pc + 3) lv (st)) : aW p l e R s m args below meth c Q D A cells slots n a v (pc) lv (.ref z :: .ref b :: st) := aw_putf (ci := 4) (j := 2) (T := TX4) (N := 6) (ty0 := tyX4) C d h.1 h.2.1 h.2.2 rfl hin tyX4_ok nmX4 (by decide) hlk rfl rfl rfl rfl (Nat.le_of_ble_eq_true rfl) rfl rfl k
theorem aw_g_rounds (C : aC p s m args meth c D (cTys cI cZ cR cJ) A cc nL Ts own ret) {x0 x1 x2 x3 x4 x5 : Value} (h : Ob n a v q b [x0, x1, x2, x3, x4, x5]) (d : decode cc pc = .ok (.getfield ix, 3)) (hin : ∀ w ∈ wsX40, w ∈ Ts) (hlk : Cond.fieldLink own ix "HutRingsLaw$Sim" "rounds" "[I" ∈ Ts) (k : aW p l e R s m args below meth c Q D A cells slots n a v (pc + 3) lv (x3 :: st)) : aW p l e R s m args below meth c Q D A cells slots n a v (pc) lv (.ref b :: st) := aw_getf (ci := 4) (j := 3) (T := TX4) (N := 6) C d h.1 h.2.1 h.2.2 rfl hin (by decide) hlk rfl rfl k
theorem aw_p_rounds (C : aC p s m args meth c D (cTys cI cZ cR cJ) A cc nL Ts own ret) {x0 x1 x2 x3 x4 x5 : Value} (h : Ob n a v q b [x0, x1, x2, x3, x4, x5]) (d : decode cc pc = .ok (.putfield ix, 3)) (hin : ∀ w ∈ wsX40, w ∈ Ts) (hlk : Cond.fieldLink own ix "HutRingsLaw$Sim" "rounds" "[I" ∈ Ts) (k : aW p l e R s m args below meth c Q D A cells slots n a (wset v q (.inr (4, [x0, x1, x2, .ref z, x4, x5]))) (pc + 3) lv (st)) : aW p l e R s m args below meth c Q D A cells slots n a v (pc) lv (.ref z :: .ref b :: st) := aw_putf (ci := 4) (j := 3) (T := TX4) (N := 6) (ty0 := tyX4) C d h.1 h.2.1 h.2.2 rfl hin tyX4_ok nmX4 (by decide) hlk rfl rfl rfl rfl (Nat.le_of_ble_eq_true rfl) rfl rfl k
theorem aw_g_rings (C : aC p s m args meth c D (cTys cI cZ cR cJ) A cc nL Ts own ret) {x0 x1 x2 x3 x4 x5 : Value} (h : Ob n a v q b [x0, x1, x2, x3, x4, x5]) (d : decode cc pc = .ok (.getfield ix, 3)) (hin : ∀ w ∈ wsX40, w ∈ Ts) (hlk : Cond.fieldLink own ix "HutRingsLaw$Sim" "rings" "[I" ∈ Ts) (k : aW p l e R s m args below meth c Q D A cells slots n a v (pc + 3) lv (x4 :: st)) : aW p l e R s m args below meth c Q D A cells slots n a v (pc) lv (.ref b :: st) := aw_getf (ci := 4) (j := 4) (T := TX4) (N := 6) C d h.1 h.2.1 h.2.2 rfl hin (by decide) hlk rfl rfl k
theorem aw_p_rings (C : aC p s m args meth c D (cTys cI cZ cR cJ) A cc nL Ts own ret) {x0 x1 x2 x3 x4 x5 : Value} (h : Ob n a v q b [x0, x1, x2, x3, x4, x5]) (d : decode cc pc = .ok (.putfield ix, 3)) (hin : ∀ w ∈ wsX40, w ∈ Ts) (hlk : Cond.fieldLink own ix "HutRingsLaw$Sim" "rings" "[I" ∈ Ts) (k : aW p l e R s m args below meth c Q D A cells slots n a (wset v q (.inr (4, [x0, x1, x2, x3, .ref z, x5]))) (pc + 3) lv (st)) : aW p l e R s m args below meth c Q D A cells slots n a v (pc) lv (.ref z :: .ref b :: st) := aw_putf (ci := 4) (j := 4) (T := TX4) (N := 6) (ty0 := tyX4) C d h.1 h.2.1 h.2.2 rfl hin tyX4_ok nmX4 (by decide) hlk rfl rfl rfl rfl (Nat.le_of_ble_eq_true rfl) rfl rfl k
theorem aw_g_aims (C : aC p s m args meth c D (cTys cI cZ cR cJ) A cc nL Ts own ret) {x0 x1 x2 x3 x4 x5 : Value} (h : Ob n a v q b [x0, x1, x2, x3, x4, x5]) (d : decode cc pc = .ok (.getfield ix, 3)) (hin : ∀ w ∈ wsX40, w ∈ Ts) (hlk : Cond.fieldLink own ix "HutRingsLaw$Sim" "aims" "[[I" ∈ Ts) (k : aW p l e R s m args below meth c Q D A cells slots n a v (pc + 3) lv (x5 :: st)) : aW p l e R s m args below meth c Q D A cells slots n a v (pc) lv (.ref b :: st) := aw_getf (ci := 4) (j := 5) (T := TX4) (N := 6) C d h.1 h.2.1 h.2.2 rfl hin (by decide) hlk rfl rfl k
theorem aw_p_aims (C : aC p s m args meth c D (cTys cI cZ cR cJ) A cc nL Ts own ret) {x0 x1 x2 x3 x4 x5 : Value} (h : Ob n a v q b [x0, x1, x2, x3, x4, x5]) (d : decode cc pc = .ok (.putfield ix, 3)) (hin : ∀ w ∈ wsX40, w ∈ Ts) (hlk : Cond.fieldLink own ix "HutRingsLaw$Sim" "aims" "[[I" ∈ Ts) (k : aW p l e R s m args below meth c Q D A cells slots n a (wset v q (.inr (4, [x0, x1, x2, x3, x4, .ref z]))) (pc + 3) lv (st)) : aW p l e R s m args below meth c Q D A cells slots n a v (pc) lv (.ref z :: .ref b :: st) := aw_putf (ci := 4) (j := 5) (T := TX4) (N := 6) (ty0 := tyX4) C d h.1 h.2.1 h.2.2 rfl hin tyX4_ok nmX4 (by decide) hlk rfl rfl rfl rfl (Nat.le_of_ble_eq_true rfl) rfl rfl k
theorem bw_p_has (C : aC p s m args meth c D (cTys cI cZ cR cJ) A cc nL Ts own ret) {x0 x1 x2 x3 x4 x5 : Value} (h : Ob n a v q b [x0, x1, x2, x3, x4, x5]) (d : decode cc pc = .ok (.putfield ix, 3)) (hin : ∀ w ∈ wsX40, w ∈ Ts) (hlk : Cond.fieldLink own ix "HutRingsLaw$Sim" "has" "[I" ∈ Ts) (k : ∀ v', (∀ j, j ≠ q → v' j = v j) → Ob n a v' q b [.ref z, x1, x2, x3, x4, x5] → aW p l e R s m args below meth c Q D A cells slots n a v' (pc + 3) lv (st)) : aW p l e R s m args below meth c Q D A cells slots n a v (pc) lv (.ref z :: .ref b :: st) := aw_p_has C h d hin hlk (k _ (fun j hj => wset_ne hj) h.st)
theorem bw_p_lists (C : aC p s m args meth c D (cTys cI cZ cR cJ) A cc nL Ts own ret) {x0 x1 x2 x3 x4 x5 : Value} (h : Ob n a v q b [x0, x1, x2, x3, x4, x5]) (d : decode cc pc = .ok (.putfield ix, 3)) (hin : ∀ w ∈ wsX40, w ∈ Ts) (hlk : Cond.fieldLink own ix "HutRingsLaw$Sim" "lists" "[[I" ∈ Ts) (k : ∀ v', (∀ j, j ≠ q → v' j = v j) → Ob n a v' q b [x0, .ref z, x2, x3, x4, x5] → aW p l e R s m args below meth c Q D A cells slots n a v' (pc + 3) lv (st)) : aW p l e R s m args below meth c Q D A cells slots n a v (pc) lv (.ref z :: .ref b :: st) := aw_p_lists C h d hin hlk (k _ (fun j hj => wset_ne hj) h.st)
theorem bw_p_gets (C : aC p s m args meth c D (cTys cI cZ cR cJ) A cc nL Ts own ret) {x0 x1 x2 x3 x4 x5 : Value} (h : Ob n a v q b [x0, x1, x2, x3, x4, x5]) (d : decode cc pc = .ok (.putfield ix, 3)) (hin : ∀ w ∈ wsX40, w ∈ Ts) (hlk : Cond.fieldLink own ix "HutRingsLaw$Sim" "gets" "[I" ∈ Ts) (k : ∀ v', (∀ j, j ≠ q → v' j = v j) → Ob n a v' q b [x0, x1, .ref z, x3, x4, x5] → aW p l e R s m args below meth c Q D A cells slots n a v' (pc + 3) lv (st)) : aW p l e R s m args below meth c Q D A cells slots n a v (pc) lv (.ref z :: .ref b :: st) := aw_p_gets C h d hin hlk (k _ (fun j hj => wset_ne hj) h.st)
theorem bw_p_rounds (C : aC p s m args meth c D (cTys cI cZ cR cJ) A cc nL Ts own ret) {x0 x1 x2 x3 x4 x5 : Value} (h : Ob n a v q b [x0, x1, x2, x3, x4, x5]) (d : decode cc pc = .ok (.putfield ix, 3)) (hin : ∀ w ∈ wsX40, w ∈ Ts) (hlk : Cond.fieldLink own ix "HutRingsLaw$Sim" "rounds" "[I" ∈ Ts) (k : ∀ v', (∀ j, j ≠ q → v' j = v j) → Ob n a v' q b [x0, x1, x2, .ref z, x4, x5] → aW p l e R s m args below meth c Q D A cells slots n a v' (pc + 3) lv (st)) : aW p l e R s m args below meth c Q D A cells slots n a v (pc) lv (.ref z :: .ref b :: st) := aw_p_rounds C h d hin hlk (k _ (fun j hj => wset_ne hj) h.st)
theorem bw_p_rings (C : aC p s m args meth c D (cTys cI cZ cR cJ) A cc nL Ts own ret) {x0 x1 x2 x3 x4 x5 : Value} (h : Ob n a v q b [x0, x1, x2, x3, x4, x5]) (d : decode cc pc = .ok (.putfield ix, 3)) (hin : ∀ w ∈ wsX40, w ∈ Ts) (hlk : Cond.fieldLink own ix "HutRingsLaw$Sim" "rings" "[I" ∈ Ts) (k : ∀ v', (∀ j, j ≠ q → v' j = v j) → Ob n a v' q b [x0, x1, x2, x3, .ref z, x5] → aW p l e R s m args below meth c Q D A cells slots n a v' (pc + 3) lv (st)) : aW p l e R s m args below meth c Q D A cells slots n a v (pc) lv (.ref z :: .ref b :: st) := aw_p_rings C h d hin hlk (k _ (fun j hj => wset_ne hj) h.st)
theorem bw_p_aims (C : aC p s m args meth c D (cTys cI cZ cR cJ) A cc nL Ts own ret) {x0 x1 x2 x3 x4 x5 : Value} (h : Ob n a v q b [x0, x1, x2, x3, x4, x5]) (d : decode cc pc = .ok (.putfield ix, 3)) (hin : ∀ w ∈ wsX40, w ∈ Ts) (hlk : Cond.fieldLink own ix "HutRingsLaw$Sim" "aims" "[[I" ∈ Ts) (k : ∀ v', (∀ j, j ≠ q → v' j = v j) → Ob n a v' q b [x0, x1, x2, x3, x4, .ref z] → aW p l e R s m args below meth c Q D A cells slots n a v' (pc + 3) lv (st)) : aW p l e R s m args below meth c Q D A cells slots n a v (pc) lv (.ref z :: .ref b :: st) := aw_p_aims C h d hin hlk (k _ (fun j hj => wset_ne hj) h.st)
end SRW
