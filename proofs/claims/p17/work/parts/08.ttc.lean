theorem fb_holes : ∀ (m n : Nat) (f : Nat → Nat), (∀ i, i < n → f i < m) → (∀ i j, i < j → j < n → f i ≠ f j) → n ≤ m := by
  intro m
  induction m with
  | zero =>
    intro n f h1 _
    rcases Nat.eq_zero_or_pos n with h | h
    · omega
    · exact absurd (h1 0 h) (Nat.not_lt_zero _)
  | succ m ih =>
    intro n f h1 h2
    by_cases hx : ∃ i, i < n ∧ f i = m
    · obtain ⟨a, ha, hfa⟩ := hx
      have hg := ih (n - 1) (fun i => if i < a then f i else f (i + 1)) (by
        intro i hi
        by_cases q : i < a
        · simp only [if_pos q]
          have b1 := h1 i (by omega)
          have b2 := h2 i a q ha
          omega
        · simp only [if_neg q]
          have b1 := h1 (i + 1) (by omega)
          have b2 := h2 a (i + 1) (by omega) (by omega)
          omega) (by
        intro i j hij hj
        by_cases q : i < a
        · by_cases r : j < a
          · simp only [if_pos q, if_pos r]
            exact h2 i j hij (by omega)
          · simp only [if_pos q, if_neg r]
            exact h2 i (j + 1) (by omega) (by omega)
        · have r : ¬ j < a := by omega
          simp only [if_neg q, if_neg r]
          exact h2 (i + 1) (j + 1) (by omega) (by omega))
      omega
    · have hg := ih n f (fun i hi => by
        have b1 := h1 i hi
        have b2 : f i ≠ m := fun e => hx ⟨i, hi, e⟩
        omega) h2
      omega
/-- two of them in one place -/
theorem fb_twice {m n : Nat} {f : Nat → Nat} (h : ∀ i, i < n → f i < m) (hm : m < n) : ∃ i j, i < j ∧ j < n ∧ f i = f j := by
  refine Classical.byContradiction fun hx => ?_
  have := fb_holes m n f h (fun i j hij hj e => hx ⟨i, j, hij, hj, e⟩)
  omega
/-- as many as places, none twice: each place is taken -/
theorem fb_onto {n : Nat} {f : Nat → Nat} (h : ∀ i, i < n → f i < n) (h2 : ∀ i j, i < j → j < n → f i ≠ f j) {y : Nat} (hy : y < n) : ∃ i, i < n ∧ f i = y := by
  refine Classical.byContradiction fun hx => ?_
  have hne : ∀ i, i < n → f i ≠ y := fun i hi e => hx ⟨i, hi, e⟩
  have := fb_holes (n - 1) n (fun i => if f i < y then f i else f i - 1) (by
    intro i hi
    have b1 := h i hi
    have b2 := hne i hi
    by_cases q : f i < y
    · simp only [if_pos q]; omega
    · simp only [if_neg q]; omega) (by
    intro i j hij hj
    have b1 := hne i (by omega)
    have b2 := hne j hj
    have b3 := h2 i j hij hj
    by_cases q : f i < y
    · by_cases r : f j < y
      · simp only [if_pos q, if_pos r]; exact b3
      · simp only [if_pos q, if_neg r]; omega
    · by_cases r : f j < y
      · simp only [if_neg q, if_pos r]; omega
      · simp only [if_neg q, if_neg r]; omega)
  omega
/-! ===== how many places have a property ===== -/
def fb_ct (p : Nat → Bool) : Nat → Nat
  | 0 => 0
  | n + 1 => fb_ct p n + (if p n then 1 else 0)
theorem fb_ct_succ (p : Nat → Bool) (n : Nat) : fb_ct p (n + 1) = fb_ct p n + (if p n then 1 else 0) := rfl
theorem fb_ct_le (p : Nat → Bool) : ∀ n, fb_ct p n ≤ n
  | 0 => Nat.le_refl _
  | n + 1 => by
    have h := fb_ct_le p n
    rw [fb_ct_succ]
    split <;> omega
theorem fb_ct_step (p : Nat → Bool) (m : Nat) : ∀ n, fb_ct p m ≤ fb_ct p (m + n)
  | 0 => Nat.le_refl _
  | n + 1 => by
    have h := fb_ct_step p m n
    show fb_ct p m ≤ fb_ct p (m + n + 1)
    rw [fb_ct_succ]
    omega
theorem fb_ct_mono (p : Nat → Bool) {m n : Nat} (h : m ≤ n) : fb_ct p m ≤ fb_ct p n := by
  have := fb_ct_step p m (n - m)
  rwa [Nat.add_sub_cancel' h] at this
theorem fb_ct_cong {p q : Nat → Bool} : ∀ {n : Nat}, (∀ k, k < n → p k = q k) → fb_ct p n = fb_ct q n
  | 0, _ => rfl
  | n + 1, h => by
    rw [fb_ct_succ, fb_ct_succ, fb_ct_cong (fun k hk => h k (by omega)), h n (by omega)]
/-- one place changed -/
theorem fb_ct_out (p : Nat → Bool) (b : Bool) {i n : Nat} (h : n ≤ i) : fb_ct (fun k => if k = i then b else p k) n = fb_ct p n :=
  fb_ct_cong fun k hk => if_neg (by omega)
theorem fb_ct_upd (p : Nat → Bool) (b : Bool) {i : Nat} : ∀ {n : Nat}, i < n → fb_ct (fun k => if k = i then b else p k) n + (if p i then 1 else 0) = fb_ct p n + (if b then 1 else 0)
  | 0, h => absurd h (Nat.not_lt_zero i)
  | n + 1, h => by
    rw [fb_ct_succ, fb_ct_succ]
    rcases Nat.lt_or_ge i n with q | q
    · have := fb_ct_upd p b q
      have e : (if n = i then b else p n) = p n := if_neg (by omega)
      rw [e]
      omega
    · have e : i = n := by omega
      subst e
      rw [fb_ct_out p b (Nat.le_refl _)]
      simp only [if_true]
      omega
theorem fb_ct_sub {p q : Nat → Bool} : ∀ {n : Nat}, (∀ k, k < n → p k = true → q k = true) → fb_ct p n ≤ fb_ct q n
  | 0, _ => Nat.le_refl _
  | n + 1, h => by
    have h1 := fb_ct_sub (n := n) (p := p) (q := q) (fun k hk => h k (by omega))
    have h2 := h n (by omega)
    rw [fb_ct_succ, fb_ct_succ]
    cases hp : p n <;> cases hq : q n <;> simp_all <;> omega
theorem fb_ct_or {p q : Nat → Bool} : ∀ {n : Nat}, (∀ k, k < n → ¬ (p k = true ∧ q k = true)) → fb_ct (fun k => p k || q k) n = fb_ct p n + fb_ct q n
  | 0, _ => rfl
  | n + 1, h => by
    have h1 := fb_ct_or (n := n) (p := p) (q := q) (fun k hk => h k (by omega))
    have h2 := h n (by omega)
    rw [fb_ct_succ, fb_ct_succ, fb_ct_succ, h1]
    cases hp : p n <;> cases hq : q n <;> simp_all <;> omega
theorem fb_ct_not (p : Nat → Bool) : ∀ n, fb_ct p n + fb_ct (fun k => !p k) n = n
  | 0 => rfl
  | n + 1 => by
    have h := fb_ct_not p n
    rw [fb_ct_succ, fb_ct_succ]
    cases p n <;> simp <;> omega
theorem fb_ct_split (p : Nat → Bool) (m : Nat) : ∀ n, fb_ct p (m + n) = fb_ct p m + fb_ct (fun k => p (m + k)) n
  | 0 => rfl
  | n + 1 => by
    have h := fb_ct_split p m n
    show fb_ct p (m + n + 1) = _
    rw [fb_ct_succ, fb_ct_succ, h, Nat.add_assoc]
theorem fb_ct_zero {p : Nat → Bool} : ∀ {n : Nat}, fb_ct p n = 0 ↔ ∀ k, k < n → p k = false
  | 0 => ⟨fun _ k hk => absurd hk (Nat.not_lt_zero k), fun _ => rfl⟩
  | n + 1 => by
    have h := fb_ct_zero (p := p) (n := n)
    rw [fb_ct_succ]
    constructor
    · intro e k hk
      have e1 : fb_ct p n = 0 := by omega
      rcases Nat.lt_or_ge k n with q | q
      · exact h.mp e1 k q
      · have ek : k = n := by omega
        subst ek
        cases hp : p k
        · rfl
        · simp [hp] at e
    · intro a
      rw [h.mpr (fun k hk => a k (by omega)), a n (by omega)]
      rfl
theorem fb_ct_pos {p : Nat → Bool} {n : Nat} : 0 < fb_ct p n ↔ ∃ k, k < n ∧ p k = true := by
  constructor
  · intro h
    refine Classical.byContradiction fun hx => ?_
    have := fb_ct_zero.mpr (fun k hk => by
      cases hp : p k
      · rfl
      · exact absurd ⟨k, hk, hp⟩ hx : ∀ k, k < n → p k = false)
    omega
  · rintro ⟨k, hk, hp⟩
    rcases Nat.eq_zero_or_pos (fb_ct p n) with e | e
    · have := fb_ct_zero.mp e k hk
      rw [this] at hp
      cases hp
    · exact e
theorem fb_ct_all {p : Nat → Bool} {n : Nat} : fb_ct p n = n ↔ ∀ k, k < n → p k = true := by
  have h := fb_ct_not p n
  constructor
  · intro e k hk
    have z : fb_ct (fun k => !p k) n = 0 := by omega
    have := fb_ct_zero.mp z k hk
    cases hp : p k
    · simp [hp] at this
    · rfl
  · intro a
    have z : fb_ct (fun k => !p k) n = 0 := fb_ct_zero.mpr (fun k hk => by simp [a k hk])
    omega
/-- the k-th place with the property -/
theorem fb_ct_kth {p : Nat → Bool} {k : Nat} : ∀ {n : Nat}, k < fb_ct p n → ∃ i, i < n ∧ p i = true ∧ fb_ct p i = k
  | 0, h => absurd h (Nat.not_lt_zero k)
  | n + 1, h => by
    rcases Nat.lt_or_ge k (fb_ct p n) with q | q
    · obtain ⟨i, h1, h2⟩ := fb_ct_kth q
      exact ⟨i, by omega, h2⟩
    · rw [fb_ct_succ] at h
      cases hp : p n
      · simp [hp] at h; omega
      · simp [hp] at h
        exact ⟨n, by omega, hp, by omega⟩
theorem fb_ct_kth_one {p : Nat → Bool} {i j : Nat} (hi : p i = true) (hj : p j = true) (e : fb_ct p i = fb_ct p j) : i = j := by
  have key : ∀ a b : Nat, a < b → p a = true → fb_ct p a < fb_ct p b := by
    intro a b hab ha
    have h := fb_ct_mono p (show a + 1 ≤ b from hab)
    rw [fb_ct_succ, ha] at h
    simp at h
    omega
  rcases Nat.lt_trichotomy i j with q | q | q
  · have := key i j q hi; omega
  · exact q
  · have := key j i q hj; omega
/-! ===== sums over a range: one place changed, parts, bounds ===== -/
/-! THE ROUNDS, over numbers: n keepers, the hut h k of each, the owners T k of the huts of each list, who is there at first (t0) -/
def fT (T : Nat → List Nat) (th : Nat → Bool) (k : Nat) : Nat := ((T k).find? th).getD k
def itF (f : Nat → Nat) : Nat → Nat → Nat
  | 0, k => k
  | s + 1, k => f (itF f s k)
def cyG (f : Nat → Nat) (k : Nat) : Nat → Nat → Nat → Nat
  | 0, _, _ => 0
  | m + 1, s, q => if f q = k then s else cyG f k m (s + 1) (f q)
def cy (f : Nat → Nat) (k : Nat) : Nat := cyG f k 10 1 k
def thR (T : Nat → List Nat) (t0 : Nat → Bool) : Nat → Nat → Bool
  | 0 => t0
  | r + 1 => fun k => thR T t0 r k && (cy (fT T (thR T t0 r)) k == 0)
def faR (T : Nat → List Nat) (t0 : Nat → Bool) (r : Nat) : Nat → Nat := fT T (thR T t0 r)
def cyR (T : Nat → List Nat) (t0 : Nat → Bool) (r k : Nat) : Nat := cy (faR T t0 r) k
def clR (T : Nat → List Nat) (t0 : Nat → Bool) (r k : Nat) : Bool := thR T t0 r k && !(cyR T t0 r k == 0)
theorem itF_add (f : Nat → Nat) (a b k : Nat) : itF f (a + b) k = itF f a (itF f b k) := by
  induction a with
  | zero => rw [Nat.zero_add]; rfl
  | succ a ih => rw [show a + 1 + b = a + b + 1 by omega]; show f _ = f _; rw [ih]
theorem itF_comm (f : Nat → Nat) (a b k : Nat) : itF f a (itF f b k) = itF f b (itF f a k) := by
  rw [← itF_add, ← itF_add, Nat.add_comm]
theorem cyG_spec (f : Nat → Nat) (k : Nat) : ∀ (m s q : Nat), itF f s k = f q → 1 ≤ s →
    (cyG f k m s q = 0 ∧ ∀ j, s ≤ j → j < s + m → itF f j k ≠ k) ∨ (s ≤ cyG f k m s q ∧ cyG f k m s q < s + m ∧ itF f (cyG f k m s q) k = k ∧ ∀ j, s ≤ j → j < cyG f k m s q → itF f j k ≠ k) := by
  intro m
  induction m with
  | zero => intro s q _ _; exact Or.inl ⟨rfl, fun j h1 h2 => absurd h2 (by omega)⟩
  | succ m ih =>
    intro s q hq hs
    by_cases e : f q = k
    · rw [cyG, if_pos e]
      exact Or.inr ⟨Nat.le_refl _, by omega, hq.trans e, fun j h1 h2 => absurd h2 (by omega)⟩
    · rw [cyG, if_neg e]
      have hs0 : itF f s k ≠ k := fun z => e (hq.symm.trans z)
      rcases ih (s + 1) (f q) (by show f (itF f s k) = f (f q); rw [hq]) (by omega) with ⟨h1, h2⟩ | ⟨h1, h2, h3, h4⟩
      · refine Or.inl ⟨h1, fun j a b => ?_⟩
        by_cases ej : j = s
        · subst ej; exact hs0
        · exact h2 j (by omega) (by omega)
      · refine Or.inr ⟨by omega, by omega, h3, fun j a b => ?_⟩
        by_cases ej : j = s
        · subst ej; exact hs0
        · exact h4 j (by omega) b
theorem cyG1 (f : Nat → Nat) (k m : Nat) : (cyG f k m 1 k = 0 ∧ ∀ j, 1 ≤ j → j ≤ m → itF f j k ≠ k) ∨ (1 ≤ cyG f k m 1 k ∧ cyG f k m 1 k ≤ m ∧ itF f (cyG f k m 1 k) k = k ∧ ∀ j, 1 ≤ j → j < cyG f k m 1 k → itF f j k ≠ k) := by
  rcases cyG_spec f k m 1 k rfl (Nat.le_refl 1) with ⟨h1, h2⟩ | ⟨h1, h2, h3, h4⟩
  · exact Or.inl ⟨h1, fun j a b => h2 j a (by omega)⟩
  · exact Or.inr ⟨h1, by omega, h3, h4⟩
/-- the least number of steps back, where there is one up to m -/
theorem cyG_is {f : Nat → Nat} {k m c : Nat} (h1 : 1 ≤ c) (h2 : c ≤ m) (h3 : itF f c k = k) (h4 : ∀ j, 1 ≤ j → j < c → itF f j k ≠ k) : cyG f k m 1 k = c := by
  rcases cyG1 f k m with ⟨-, b⟩ | ⟨a1, a2, a3, a4⟩
  · exact absurd h3 (b c h1 h2)
  · rcases Nat.lt_trichotomy (cyG f k m 1 k) c with q | q | q
    · exact absurd a3 (h4 _ a1 q)
    · exact q
    · exact absurd h3 (a4 c h1 q)
theorem cy_pos {f : Nat → Nat} {k : Nat} (h : cy f k ≠ 0) : 1 ≤ cy f k ∧ cy f k ≤ 10 ∧ itF f (cy f k) k = k ∧ ∀ j, 1 ≤ j → j < cy f k → itF f j k ≠ k := by
  rcases cyG1 f k 10 with ⟨a, -⟩ | a
  · exact absurd a h
  · exact a
theorem itF_mul {f : Nat → Nat} {q c : Nat} (h : itF f c q = q) : ∀ m, itF f (c * m) q = q := by
  intro m
  induction m with
  | zero => rfl
  | succ m ih => rw [Nat.mul_succ, itF_add, h, ih]
theorem itF_mod {f : Nat → Nat} {q c : Nat} (h : itF f c q = q) (s : Nat) : itF f s q = itF f (s % c) q := by
  have e : s = s % c + c * (s / c) := by rw [Nat.add_comm]; exact (Nat.div_add_mod s c).symm
  rw [congrArg (fun z => itF f z q) e, itF_add, itF_mul h]
/-- back from where the ring leads to -/
theorem itF_back {f : Nat → Nat} {k c i : Nat} (h : itF f c k = k) (hi : i ≤ c) : itF f (c - i) (itF f i k) = k := by
  rw [← itF_add, show c - i + i = c by omega, h]
theorem cy_ring {f : Nat → Nat} {k i : Nat} (h : cy f k ≠ 0) (hi : i < cy f k) : cy f (itF f i k) = cy f k := by
  obtain ⟨h1, h2, h3, h4⟩ := cy_pos h
  refine cyG_is h1 h2 ?_ (fun j a b e => ?_)
  · rw [itF_comm, h3]
  · have hb := itF_back h3 (Nat.le_of_lt hi)
    refine h4 j a b ?_
    have e2 : itF f j (itF f (cy f k - i) (itF f i k)) = itF f (cy f k - i) (itF f i k) := by rw [itF_comm, e]
    rwa [hb] at e2
theorem cy_inj {f : Nat → Nat} {k i j : Nat} (h : cy f k ≠ 0) (hij : i < j) (hj : j < cy f k) : itF f i k ≠ itF f j k := by
  obtain ⟨h1, h2, h3, h4⟩ := cy_pos h
  intro e
  have e2 : itF f (cy f k - j) (itF f i k) = k := by rw [e]; exact itF_back h3 (Nat.le_of_lt hj)
  rw [← itF_add] at e2
  exact h4 (cy f k - j + i) (by omega) (by omega) e2
section ROUNDS
variable {T : Nat → List Nat} {t0 : Nat → Bool} {n : Nat}
/-- those who are there are of the n -/
def tOK (t0 : Nat → Bool) (n : Nat) : Prop := ∀ k, t0 k = true → k < n
theorem thR_le {r k : Nat} (h : thR T t0 (r + 1) k = true) : thR T t0 r k = true := by
  simp only [thR, Bool.and_eq_true] at h
  exact h.1
theorem thR_mono {r R k : Nat} (hr : r ≤ R) (h : thR T t0 R k = true) : thR T t0 r k = true := by
  induction R with
  | zero => rwa [show r = 0 by omega]
  | succ R ih =>
    by_cases e : r = R + 1
    · rwa [e]
    · exact ih (by omega) (thR_le h)
theorem thR_lt (h0 : tOK t0 n) {r k : Nat} (h : thR T t0 r k = true) : k < n := h0 k (thR_mono (Nat.zero_le r) h)
theorem thR_cl {r k : Nat} : thR T t0 r k = (thR T t0 (r + 1) k || clR T t0 r k) := by
  simp only [thR, clR, cyR, faR]
  cases thR T t0 r k <;> cases (cy (fT T (thR T t0 r)) k == 0) <;> rfl
theorem clR_th {r k : Nat} (h : clR T t0 r k = true) : thR T t0 r k = true ∧ cyR T t0 r k ≠ 0 ∧ thR T t0 (r + 1) k = false := by
  simp only [clR, Bool.and_eq_true, Bool.not_eq_true', beq_eq_false_iff_ne] at h
  refine ⟨h.1, h.2, ?_⟩
  simp only [thR, h.1, Bool.true_and]
  exact beq_eq_false_iff_ne.mpr h.2
theorem clR_of {r k : Nat} (h : thR T t0 r k = true) (h2 : cyR T t0 r k ≠ 0) : clR T t0 r k = true := by
  simp only [clR, h, Bool.true_and, Bool.not_eq_true', beq_eq_false_iff_ne]
  exact h2
theorem faR_th {r k : Nat} (h : thR T t0 r k = true) : thR T t0 r (faR T t0 r k) = true := by
  simp only [faR, fT]
  cases e : (T k).find? (thR T t0 r) with
  | none => exact h
  | some q => exact List.find?_some e
theorem itF_th {r k : Nat} (h : thR T t0 r k = true) : ∀ s, thR T t0 r (itF (faR T t0 r) s k) = true := by
  intro s
  induction s with
  | zero => exact h
  | succ s ih => exact faR_th ih
theorem clR_ring {r k i : Nat} (h : clR T t0 r k = true) (hi : i < cyR T t0 r k) : clR T t0 r (itF (faR T t0 r) i k) = true ∧ cyR T t0 r (itF (faR T t0 r) i k) = cyR T t0 r k := by
  obtain ⟨h1, h2, -⟩ := clR_th h
  have e : cyR T t0 r (itF (faR T t0 r) i k) = cyR T t0 r k := cy_ring h2 hi
  exact ⟨clR_of (itF_th h1 i) (by rw [e]; exact h2), e⟩
/-- a ring is no greater than the number of keepers -/
theorem cR_le (h0 : tOK t0 n) {r k : Nat} (h : thR T t0 r k = true) (hc : cyR T t0 r k ≠ 0) : cyR T t0 r k ≤ n :=
  fb_holes n _ (fun i => itF (faR T t0 r) i k) (fun i _ => thR_lt h0 (itF_th h i)) (fun _ _ hij hj => cy_inj hc hij hj)
/-- the count of steps back up to more or less steps is the same -/
theorem cR_fuel (h0 : tOK t0 n) (hn : n ≤ 10) {r k m : Nat} (h : thR T t0 r k = true) (hm : n ≤ m) : cyG (faR T t0 r) k m 1 k = cyR T t0 r k := by
  by_cases hc : cyR T t0 r k = 0
  · rw [hc]
    rcases cyG1 (faR T t0 r) k m with ⟨a, -⟩ | ⟨a1, a2, a3, a4⟩
    · exact a
    · exfalso
      have hle : cyG (faR T t0 r) k m 1 k ≤ n := fb_holes n _ (fun i => itF (faR T t0 r) i k) (fun i _ => thR_lt h0 (itF_th h i)) (fun i j hij hj e => by
        have e2 : itF (faR T t0 r) (cyG (faR T t0 r) k m 1 k - j) (itF (faR T t0 r) i k) = k := by
          have e' : itF (faR T t0 r) i k = itF (faR T t0 r) j k := e
          rw [e']; exact itF_back a3 (Nat.le_of_lt hj)
        rw [← itF_add] at e2
        exact a4 _ (by omega) (by omega) e2)
      rcases cyG1 (faR T t0 r) k 10 with ⟨-, b⟩ | ⟨b, -, -, -⟩
      · exact b _ a1 (by omega) a3
      · have : cyR T t0 r k = cyG (faR T t0 r) k 10 1 k := rfl
        omega
  · obtain ⟨h1, h2, h3, h4⟩ := cy_pos hc
    exact cyG_is h1 (Nat.le_trans (cR_le h0 h hc) hm) h3 h4
/-- where somebody is there, somebody is done -/
theorem clR_some (h0 : tOK t0 n) (hn : n ≤ 10) {r k : Nat} (h : thR T t0 r k = true) : ∃ q, clR T t0 r q = true := by
  obtain ⟨i, j, hij, hj, e⟩ := fb_twice (m := n) (n := n + 1) (f := fun i => itF (faR T t0 r) i k) (fun i _ => thR_lt h0 (itF_th h i)) (by omega)
  refine ⟨itF (faR T t0 r) i k, clR_of (itF_th h i) (fun hc => ?_)⟩
  rcases cyG1 (faR T t0 r) (itF (faR T t0 r) i k) 10 with ⟨-, b⟩ | ⟨b, -, -, -⟩
  · refine b (j - i) (by omega) (by omega) ?_
    rw [← itF_add, show j - i + i = j by omega]
    exact e.symm
  · have : cyR T t0 r (itF (faR T t0 r) i k) = cyG (faR T t0 r) (itF (faR T t0 r) i k) 10 1 (itF (faR T t0 r) i k) := rfl
    omega
theorem thR_cnt (h0 : tOK t0 n) (hn : n ≤ 10) : ∀ r, (∃ k, thR T t0 r k = true) → fb_ct (thR T t0 r) n + r ≤ n := by
  intro r
  induction r with
  | zero => intro _; exact fb_ct_le _ n
  | succ r ih =>
    rintro ⟨k, hk⟩
    have h1 := ih ⟨k, thR_le hk⟩
    obtain ⟨q, hq⟩ := clR_some h0 hn (thR_le hk)
    have h2 : fb_ct (fun k => thR T t0 (r + 1) k || clR T t0 r k) n = fb_ct (thR T t0 (r + 1)) n + fb_ct (clR T t0 r) n := fb_ct_or (fun j _ hj => by
      have := (clR_th hj.2).2.2
      rw [hj.1] at this
      cases this)
    have h3 : fb_ct (fun k => thR T t0 (r + 1) k || clR T t0 r k) n = fb_ct (thR T t0 r) n := fb_ct_cong (fun j _ => thR_cl.symm)
    have h4 : 0 < fb_ct (clR T t0 r) n := fb_ct_pos.mpr ⟨q, thR_lt h0 (clR_th hq).1, hq⟩
    omega
theorem thR_10 (h0 : tOK t0 n) (hn : n ≤ 10) (k : Nat) : thR T t0 10 k = false := by
  cases e : thR T t0 10 k
  · rfl
  · exfalso
    have h1 := thR_cnt h0 hn 10 ⟨k, e⟩
    have h2 : 0 < fb_ct (thR T t0 10) n := fb_ct_pos.mpr ⟨k, thR_lt h0 e, e⟩
    omega
def anyT (T : Nat → List Nat) (t0 : Nat → Bool) (n r : Nat) : Bool := (List.range n).any (thR T t0 r)
theorem anyT_iff {r : Nat} : anyT T t0 n r = true ↔ ∃ k, k < n ∧ thR T t0 r k = true := by
  simp [anyT]
theorem anyT_no (h0 : tOK t0 n) {r : Nat} (h : anyT T t0 n r = false) (k : Nat) : thR T t0 r k = false := by
  cases e : thR T t0 r k
  · rfl
  · have := anyT_iff.mpr ⟨k, thR_lt h0 e, e⟩
    rw [h] at this
    cases this
def rnG (T : Nat → List Nat) (t0 : Nat → Bool) (n : Nat) : Nat → Nat → Nat
  | 0, r => r
  | m + 1, r => if anyT T t0 n r then rnG T t0 n m (r + 1) else r
/-- the number of rounds -/
def rn (T : Nat → List Nat) (t0 : Nat → Bool) (n : Nat) : Nat := rnG T t0 n 10 0
theorem rnG_spec : ∀ (m r : Nat), r ≤ rnG T t0 n m r ∧ rnG T t0 n m r ≤ r + m ∧ (∀ j, r ≤ j → j < rnG T t0 n m r → anyT T t0 n j = true) ∧ (rnG T t0 n m r < r + m → anyT T t0 n (rnG T t0 n m r) = false) := by
  intro m
  induction m with
  | zero => intro r; exact ⟨Nat.le_refl _, Nat.le_refl _, fun j h1 h2 => absurd h2 (by simp only [rnG]; omega), fun h => absurd h (by simp only [rnG]; omega)⟩
  | succ m ih =>
    intro r
    cases e : anyT T t0 n r
    · simp only [rnG, e]
      exact ⟨Nat.le_refl _, by simp, fun j h1 h2 => absurd h2 (by simp; omega), fun _ => e⟩
    · simp only [rnG, e, if_true]
      obtain ⟨a, b, c, d⟩ := ih (r + 1)
      refine ⟨by omega, by omega, fun j h1 h2 => ?_, fun h => d (by omega)⟩
      by_cases ej : j = r
      · rw [ej]; exact e
      · exact c j (by omega) h2
theorem rn_le : rn T t0 n ≤ 10 := by have := (rnG_spec (T := T) (t0 := t0) (n := n) 10 0).2.1; simpa [rn] using this
theorem rn_lt {r : Nat} (h : r < rn T t0 n) : anyT T t0 n r = true := (rnG_spec (T := T) (t0 := t0) (n := n) 10 0).2.2.1 r (Nat.zero_le _) h
theorem rn_end (h0 : tOK t0 n) (hn : n ≤ 10) : anyT T t0 n (rn T t0 n) = false := by
  rcases Nat.lt_or_ge (rn T t0 n) 10 with q | q
  · exact (rnG_spec (T := T) (t0 := t0) (n := n) 10 0).2.2.2 (by simpa [rn] using q)
  · have e : rn T t0 n = 10 := Nat.le_antisymm rn_le q
    cases e2 : anyT T t0 n (rn T t0 n)
    · rfl
    · obtain ⟨k, -, hk⟩ := anyT_iff.mp e2
      rw [e, thR_10 h0 hn k] at hk
      cases hk
/-! what comes of it -/
def dnR (T : Nat → List Nat) (t0 : Nat → Bool) (d0 : Nat → Int32) : Nat → Nat → Int32
  | 0 => d0
  | r + 1 => fun k => if clR T t0 r k then nI (r + 1) else dnR T t0 d0 r k
def gtR (T : Nat → List Nat) (t0 : Nat → Bool) (h : Nat → Nat) (g0 : Nat → Int32) : Nat → Nat → Int32
  | 0 => g0
  | r + 1 => fun k => if clR T t0 r k then nI (h (faR T t0 r k)) else gtR T t0 h g0 r k
def zrR (T : Nat → List Nat) (t0 : Nat → Bool) (z0 : Nat → Int32) : Nat → Nat → Int32
  | 0 => z0
  | r + 1 => fun k => if clR T t0 r k then nI (cyR T t0 r k) else zrR T t0 z0 r k
/-- the least of a ring of more than one -/
def ldR (T : Nat → List Nat) (t0 : Nat → Bool) (r k : Nat) : Bool := clR T t0 r k && (decide (1 < cyR T t0 r k) && decide (∀ s, s < cyR T t0 r k → s = 0 ∨ k < itF (faR T t0 r) s k))
def rmR (T : Nat → List Nat) (t0 : Nat → Bool) (n : Nat) : Nat → Nat
  | 0 => 0
  | r + 1 => rmR T t0 n r + fb_ct (ldR T t0 r) n
theorem dnR_0 {d0 : Nat → Int32} (hd : ∀ k, k < n → d0 k = if t0 k then 0 else -1) {k : Nat} (hk : k < n) : ∀ r, r ≤ 10 → (dnR T t0 d0 r k = 0 ↔ thR T t0 r k = true) := by
  intro r
  induction r with
  | zero =>
    intro _
    simp only [dnR, thR, hd k hk]
    cases t0 k <;> simp
  | succ r ih =>
    intro hr
    simp only [dnR]
    cases e : clR T t0 r k
    · have h1 : thR T t0 (r + 1) k = thR T t0 r k := by
        have h2 := thR_cl (T := T) (t0 := t0) (r := r) (k := k)
        rw [e, Bool.or_false] at h2
        exact h2.symm
      simp only [Bool.false_eq_true, if_false]
      rw [h1]
      exact ih (by omega)
    · simp only [if_true]
      rw [(clR_th e).2.2]
      exact ⟨fun z => absurd z (nI_ne0 (by omega) (by omega)), fun z => by cases z⟩
/-- the round that is told says who was there in each -/
theorem dnR_th {d0 : Nat → Int32} (hd : ∀ k, k < n → d0 k = if t0 k then 0 else -1) {k : Nat} (hk : k < n) {r : Nat} : ∀ R, r ≤ R → R ≤ 10 → thB (dnR T t0 d0 R k) (nI (r + 1)) = thR T t0 r k := by
  have key : ∀ R, R ≤ 10 → dnR T t0 d0 R k = 0 ∨ dnR T t0 d0 R k = -1 ∨ ∃ i, i < R ∧ dnR T t0 d0 R k = nI (i + 1) := by
    intro R
    induction R with
    | zero =>
      intro _
      simp only [dnR, hd k hk]
      cases t0 k <;> simp
    | succ R ih =>
      intro hR
      simp only [dnR]
      cases e : clR T t0 R k
      · simp only [Bool.false_eq_true, if_false]
        rcases ih (by omega) with h | h | ⟨i, h1, h2⟩
        · exact Or.inl h
        · exact Or.inr (Or.inl h)
        · exact Or.inr (Or.inr ⟨i, by omega, h2⟩)
      · simp only [if_true]
        exact Or.inr (Or.inr ⟨R, by omega, rfl⟩)
  intro R
  induction R with
  | zero =>
    intro h1 _
    have e : r = 0 := by omega
    subst e
    simp only [dnR, thR, hd k hk]
    cases t0 k <;> decide
  | succ R ih =>
    intro h1 h2
    by_cases e : r = R + 1
    · subst e
      have h0 := dnR_0 (T := T) hd hk (R + 1) h2
      cases e3 : thR T t0 (R + 1) k
      · have hne : dnR T t0 d0 (R + 1) k ≠ 0 := fun z => by rw [h0.mp z] at e3; cases e3
        rw [thB]
        refine decide_eq_false (fun z => z.elim hne (fun z => ?_))
        rcases key (R + 1) h2 with q | q | ⟨i, q1, q2⟩
        · exact hne q
        · rw [q] at z
          have z2 : nI (R + 1 + 1) < 0 := Int32.lt_of_le_of_lt z (by decide)
          exact nI_pos (by omega) z2
        · rw [q2] at z
          exact nI_ge (show i + 1 < R + 1 + 1 by omega) (by omega) z
      · rw [thB]
        exact decide_eq_true (Or.inl (h0.mpr e3))
    · simp only [dnR]
      cases e3 : clR T t0 R k
      · simp only [Bool.false_eq_true, if_false]
        exact ih (by omega) (by omega)
      · simp only [if_true]
        rw [thR_mono (by omega) (clR_th e3).1, thB]
        exact decide_eq_true (Or.inr (nI_le (by omega) (by omega)))
/-! how one round's rings are closed, one keeper after the other -/
/-- done in this round by the rings of the keepers below i -/
def scR (T : Nat → List Nat) (t0 : Nat → Bool) (r i q : Nat) : Bool := clR T t0 r q && decide (∃ s, s < cyR T t0 r q ∧ itF (faR T t0 r) s q < i)
theorem scR_0 {r q : Nat} : scR T t0 r 0 q = false := by
  simp [scR]
theorem scR_n (h0 : tOK t0 n) {r q : Nat} : scR T t0 r n q = clR T t0 r q := by
  simp only [scR]
  cases e : clR T t0 r q
  · rfl
  · have h1 := clR_th e
    rw [Bool.true_and]
    exact decide_eq_true ⟨0, Nat.pos_of_ne_zero h1.2.1, thR_lt h0 h1.1⟩
theorem scR_iff {r i q : Nat} : scR T t0 r i q = true ↔ clR T t0 r q = true ∧ ∃ s, s < cyR T t0 r q ∧ itF (faR T t0 r) s q < i := by
  simp only [scR, Bool.and_eq_true, decide_eq_true_eq]
theorem clR_mod {r k : Nat} (h : clR T t0 r k = true) (s : Nat) : ∃ j, j < cyR T t0 r k ∧ itF (faR T t0 r) j k = itF (faR T t0 r) s k := by
  have h2 := (clR_th h).2.1
  obtain ⟨a1, -, a3, -⟩ := cy_pos h2
  exact ⟨s % cyR T t0 r k, Nat.mod_lt _ (Nat.pos_of_ne_zero h2), (itF_mod a3 s).symm⟩
/-- a keeper who isn't there, or is done already, or stands in no ring, changes nothing -/
theorem scR_skip {r i : Nat} (h : thR T t0 r i = false ∨ scR T t0 r i i = true ∨ cyR T t0 r i = 0) (q : Nat) : scR T t0 r (i + 1) q = scR T t0 r i q := by
  apply Bool.eq_iff_iff.mpr
  rw [scR_iff, scR_iff]
  constructor
  · rintro ⟨h1, s, h2, h3⟩
    refine ⟨h1, ?_⟩
    by_cases e : itF (faR T t0 r) s q < i
    · exact ⟨s, h2, e⟩
    · have e2 : itF (faR T t0 r) s q = i := by omega
      obtain ⟨g1, g2⟩ := clR_ring h1 h2
      rw [e2] at g1 g2
      rcases h with h | h | h
      · rw [(clR_th g1).1] at h; cases h
      · obtain ⟨-, j, h5, h6⟩ := scR_iff.mp h
        obtain ⟨j2, h7, h8⟩ := clR_mod h1 (j + s)
        exact ⟨j2, h7, by rw [h8, itF_add, e2]; exact h6⟩
      · exact absurd h (clR_th g1).2.1
  · rintro ⟨h1, s, h2, h3⟩
    exact ⟨h1, s, h2, by omega⟩
/-- a ring's first keeper: all of the ring -/
theorem scR_ring {r i : Nat} (h : clR T t0 r i = true) (q : Nat) : scR T t0 r (i + 1) q = (scR T t0 r i q || decide (∃ s, s < cyR T t0 r i ∧ itF (faR T t0 r) s i = q)) := by
  apply Bool.eq_iff_iff.mpr
  rw [Bool.or_eq_true, scR_iff, scR_iff, decide_eq_true_eq]
  constructor
  · rintro ⟨h1, s, h2, h3⟩
    by_cases e : itF (faR T t0 r) s q < i
    · exact Or.inl ⟨h1, s, h2, e⟩
    · have e2 : itF (faR T t0 r) s q = i := by omega
      obtain ⟨-, g2⟩ := clR_ring h1 h2
      obtain ⟨-, -, a3, -⟩ := cy_pos (clR_th h1).2.1
      have hb := itF_back a3 (Nat.le_of_lt h2)
      rw [e2] at hb
      obtain ⟨j, h7, h8⟩ := clR_mod h (cy (faR T t0 r) q - s)
      exact Or.inr ⟨j, h7, by rw [h8]; exact hb⟩
  · rintro (⟨h1, s, h2, h3⟩ | ⟨s, h2, h3⟩)
    · exact ⟨h1, s, h2, by omega⟩
    · obtain ⟨g1, g2⟩ := clR_ring h h2
      rw [h3] at g1 g2
      obtain ⟨-, -, a3, -⟩ := cy_pos (clR_th h).2.1
      have hb := itF_back a3 (Nat.le_of_lt h2)
      rw [h3] at hb
      obtain ⟨j, h7, h8⟩ := clR_mod g1 (cy (faR T t0 r) i - s)
      exact ⟨g1, j, h7, by rw [h8, hb]; omega⟩
/-- who leads a ring: the first of it to come -/
theorem ldR_iff {r i : Nat} : ldR T t0 r i = true ↔ (clR T t0 r i = true ∧ 1 < cyR T t0 r i ∧ scR T t0 r i i = false) := by
  simp only [ldR, Bool.and_eq_true, decide_eq_true_eq]
  constructor
  · rintro ⟨h1, h2, h3⟩
    refine ⟨h1, h2, ?_⟩
    cases e : scR T t0 r i i
    · rfl
    · obtain ⟨-, s, h4, h5⟩ := scR_iff.mp e
      rcases h3 s h4 with q | q
      · subst q
        simp only [itF] at h5
        omega
      · omega
  · rintro ⟨h1, h2, h3⟩
    refine ⟨h1, h2, fun s hs => ?_⟩
    by_cases e : s = 0
    · exact Or.inl e
    · refine Or.inr ?_
      rcases Nat.lt_trichotomy (itF (faR T t0 r) s i) i with q | q | q
      · have : scR T t0 r i i = true := scR_iff.mpr ⟨h1, s, hs, q⟩
        rw [h3] at this
        cases this
      · exact absurd q ((cy_pos (clR_th h1).2.1).2.2.2 s (by omega) hs)
      · exact q
end ROUNDS
