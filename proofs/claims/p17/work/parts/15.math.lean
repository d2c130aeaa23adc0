/-! what the law asks of the rounds -/
theorem clR_one {T : Nat → List Nat} {t0 : Nat → Bool} {r q k : Nat} (a : clR T t0 r k = true) (b : clR T t0 q k = true) : r = q := by
  have apart : ∀ {u w : Nat}, u < w → clR T t0 u k = true → clR T t0 w k = true → False := fun huw a b => by
    have h1 := (clR_th a).2.2
    rw [thR_mono huw (clR_th b).1] at h1
    cases h1
  rcases Nat.lt_trichotomy r q with z | z | z
  · exact (apart z a b).elim
  · exact z
  · exact (apart z b a).elim
/-! sums of numbers -/
def sumN (f : Nat → Nat) : Nat → Nat
  | 0 => 0
  | n + 1 => sumN f n + f n
theorem sumN_cong {f g : Nat → Nat} : ∀ {n : Nat}, (∀ k, k < n → f k = g k) → sumN f n = sumN g n := by
  intro n
  induction n with
  | zero => intro _; rfl
  | succ n ih => intro h; rw [sumN, sumN, ih (fun k hk => h k (by omega)), h n (Nat.lt_succ_self n)]
theorem sumN_add {f g : Nat → Nat} : ∀ n : Nat, sumN (fun k => f k + g k) n = sumN f n + sumN g n := by
  intro n
  induction n with
  | zero => rfl
  | succ n ih => rw [sumN, sumN, sumN, ih]; omega
theorem sumN_if {p : Nat → Bool} {c : Nat} : ∀ n : Nat, sumN (fun k => if p k then c else 0) n = c * fb_ct p n := by
  intro n
  induction n with
  | zero => rfl
  | succ n ih =>
    rw [sumN, ih, fb_ct_succ, Nat.mul_add]
    cases p n <;> simp
theorem sumN_0 {f : Nat → Nat} : ∀ {n : Nat}, (∀ k, k < n → f k = 0) → sumN f n = 0 := by
  intro n
  induction n with
  | zero => intro _; rfl
  | succ n ih => intro h; rw [sumN, ih (fun k hk => h k (by omega)), h n (Nat.lt_succ_self n)]
theorem sumN_le {f : Nat → Nat} {c : Nat} : ∀ {n : Nat}, (∀ k, k < n → f k ≤ c) → sumN f n ≤ n * c := by
  intro n
  induction n with
  | zero => intro _; exact Nat.zero_le _
  | succ n ih =>
    intro h
    have h1 := ih (fun k hk => h k (by omega))
    have h2 := h n (Nat.lt_succ_self n)
    rw [sumN, Nat.succ_mul]
    omega
theorem ct_one {x n : Nat} (hx : x < n) : fb_ct (fun q => decide (x = q)) n = 1 := by
  have h1 := fb_ct_upd (fun _ => false) true (i := x) (n := n) hx
  have h2 : fb_ct (fun _ => false) n = 0 := fb_ct_zero.mpr (fun _ _ => rfl)
  rw [h2] at h1
  have h3 : fb_ct (fun q => decide (x = q)) n = fb_ct (fun k => if k = x then true else (fun _ => false) k) n := fb_ct_cong (fun q _ => by
    by_cases e : q = x
    · subst e; simp
    · rw [if_neg e]; exact decide_eq_false (fun z => e z.symm))
  rw [h3]
  simpa using h1
/-- as many as places, none twice -/
theorem cnt_img {f : Nat → Nat} {n : Nat} : ∀ c : Nat, (∀ s, s < c → f s < n) → (∀ i j, i < j → j < c → f i ≠ f j) → fb_ct (fun q => decide (∃ s, s < c ∧ f s = q)) n = c := by
  intro c
  induction c with
  | zero =>
    intro _ _
    exact fb_ct_zero.mpr (fun q _ => decide_eq_false (fun ⟨s, hs, _⟩ => absurd hs (Nat.not_lt_zero s)))
  | succ c ih =>
    intro h1 h2
    have h3 := ih (fun s hs => h1 s (by omega)) (fun i j hij hj => h2 i j hij (by omega))
    have h4 : fb_ct (fun q => decide (∃ s, s < c + 1 ∧ f s = q)) n = fb_ct (fun q => decide (∃ s, s < c ∧ f s = q) || decide (f c = q)) n := fb_ct_cong (fun q _ => by
      apply Bool.eq_iff_iff.mpr
      rw [Bool.or_eq_true, decide_eq_true_eq, decide_eq_true_eq, decide_eq_true_eq]
      constructor
      · rintro ⟨s, hs, e⟩
        by_cases c1 : s = c
        · exact Or.inr (by rw [← c1]; exact e)
        · exact Or.inl ⟨s, by omega, e⟩
      · rintro (⟨s, hs, e⟩ | e)
        · exact ⟨s, by omega, e⟩
        · exact ⟨c, by omega, e⟩)
    rw [h4, fb_ct_or (fun q _ hq => by
      obtain ⟨⟨s, hs, e⟩, e2⟩ := And.intro (of_decide_eq_true hq.1) (of_decide_eq_true hq.2)
      exact h2 s c hs (by omega) (e.trans e2.symm)), h3, ct_one (h1 c (by omega))]
section RINGS
variable {T : Nat → List Nat} {t0 : Nat → Bool} {n : Nat}
/-- what one of a ring counts -/
def wtR (T : Nat → List Nat) (t0 : Nat → Bool) (r q : Nat) : Nat := if 1 < cyR T t0 r q then 2520 / cyR T t0 r q else 0
theorem div_2520 : ∀ c, c < 11 → 1 < c → 2520 / c * c = 2520 := by decide
theorem wtR_le {r q : Nat} : wtR T t0 r q ≤ 1260 := by
  simp only [wtR]
  by_cases h : 1 < cyR T t0 r q
  · rw [if_pos h]
    exact Nat.le_trans (Nat.div_le_div_left h (by omega)) (by decide)
  · rw [if_neg h]; omega
theorem wt_part (h0 : tOK t0 n) {r : Nat} : ∀ i, i ≤ n → sumN (fun q => if scR T t0 r i q then wtR T t0 r q else 0) n = 2520 * fb_ct (ldR T t0 r) i := by
  intro i
  induction i with
  | zero =>
    intro _
    exact sumN_0 (fun q _ => by rw [scR_0]; rfl)
  | succ i ih =>
    intro hi
    have ih' := ih (by omega)
    rw [fb_ct_succ]
    by_cases hl : ldR T t0 r i = true
    · obtain ⟨c1, c2, c3⟩ := ldR_iff.mp hl
      have hth := clR_th c1
      have hle : cyR T t0 r i < 11 := by have := cy_le (faR T t0 r) i; have e : cyR T t0 r i = cy (faR T t0 r) i := rfl; omega
      have e : sumN (fun q => if scR T t0 r (i + 1) q then wtR T t0 r q else 0) n = sumN (fun q => (if scR T t0 r i q then wtR T t0 r q else 0) + (if decide (∃ s, s < cyR T t0 r i ∧ itF (faR T t0 r) s i = q) then 2520 / cyR T t0 r i else 0)) n := sumN_cong (fun q _ => by
        rw [scR_ring c1 q]
        by_cases d : ∃ s, s < cyR T t0 r i ∧ itF (faR T t0 r) s i = q
        · rw [decide_eq_true d, Bool.or_true]
          obtain ⟨s, hs, rfl⟩ := d
          obtain ⟨g1, g2⟩ := clR_ring c1 hs
          have hno : scR T t0 r i (itF (faR T t0 r) s i) = false := by
            cases e9 : scR T t0 r i (itF (faR T t0 r) s i)
            · rfl
            · obtain ⟨-, s2, h4, h5⟩ := scR_iff.mp e9
              obtain ⟨j, h7, h8⟩ := clR_mod c1 (s2 + s)
              have : scR T t0 r i i = true := scR_iff.mpr ⟨c1, j, h7, by rw [h8, itF_add]; exact h5⟩
              rw [c3] at this
              cases this
          rw [hno]
          simp only [if_true, wtR, g2, c2]
          simp
        · rw [decide_eq_false d, Bool.or_false]
          simp)
      rw [e, sumN_add, ih', sumN_if, cnt_img (f := fun s => itF (faR T t0 r) s i) (cyR T t0 r i) (fun s _ => thR_lt h0 (itF_th hth.1 s)) (fun _ _ hij hj => cy_inj hth.2.1 hij hj), div_2520 _ hle c2, hl]
      simp only [if_true]
      omega
    · have hl' : ldR T t0 r i = false := by
        cases e : ldR T t0 r i
        · rfl
        · exact absurd e hl
      rw [hl']
      rw [show fb_ct (ldR T t0 r) i + (if false = true then 1 else 0) = fb_ct (ldR T t0 r) i from rfl, ← ih']
      refine sumN_cong (fun q _ => ?_)
      by_cases c1 : clR T t0 r i = true ∧ scR T t0 r i i = false
      · rw [scR_ring c1.1 q]
        by_cases d : ∃ s, s < cyR T t0 r i ∧ itF (faR T t0 r) s i = q
        · obtain ⟨s, hs, rfl⟩ := d
          obtain ⟨g1, g2⟩ := clR_ring c1.1 hs
          have h9 : ¬ 1 < cyR T t0 r i := fun z => hl (ldR_iff.mpr ⟨c1.1, z, c1.2⟩)
          have hw : wtR T t0 r (itF (faR T t0 r) s i) = 0 := by simp only [wtR, g2, if_neg h9]
          rw [hw]
          simp
        · rw [decide_eq_false d, Bool.or_false]
      · rw [scR_skip (i := i) (by
          by_cases d1 : scR T t0 r i i = true
          · exact Or.inr (Or.inl d1)
          · have d1' : scR T t0 r i i = false := by
              cases e : scR T t0 r i i
              · rfl
              · exact absurd e d1
            have d2 : ¬ clR T t0 r i = true := fun z => c1 ⟨z, d1'⟩
            by_cases d3 : thR T t0 r i = true
            · by_cases d4 : cyR T t0 r i = 0
              · exact Or.inr (Or.inr d4)
              · exact absurd (clR_of d3 d4) d2
            · refine Or.inl ?_
              cases e : thR T t0 r i
              · rfl
              · exact absurd e d3) q]
theorem wt_round (h0 : tOK t0 n) {r : Nat} : sumN (fun q => if clR T t0 r q then wtR T t0 r q else 0) n = 2520 * fb_ct (ldR T t0 r) n := by
  rw [← wt_part h0 n (Nat.le_refl n)]
  exact sumN_cong (fun q _ => by rw [scR_n h0])
/-- what each counts in the end -/
def wtS (T : Nat → List Nat) (t0 : Nat → Bool) : Nat → Nat → Nat
  | 0 => fun _ => 0
  | R + 1 => fun k => if clR T t0 R k then wtR T t0 R k else wtS T t0 R k
def ldS (T : Nat → List Nat) (t0 : Nat → Bool) : Nat → Nat → Bool
  | 0 => fun _ => false
  | R + 1 => fun k => if clR T t0 R k then ldR T t0 R k else ldS T t0 R k
theorem wtS_th {k : Nat} : ∀ R, thR T t0 R k = true → wtS T t0 R k = 0 ∧ ldS T t0 R k = false := by
  intro R
  induction R with
  | zero => intro _; exact ⟨rfl, rfl⟩
  | succ R ih =>
    intro h
    have hc : clR T t0 R k = false := by
      cases e : clR T t0 R k
      · rfl
      · have := (clR_th e).2.2
        rw [h] at this
        cases this
    simp only [wtS, ldS, hc]
    exact ih (thR_le h)
theorem wtS_of {r k : Nat} (hc : clR T t0 r k = true) : ∀ R, r < R → wtS T t0 R k = wtR T t0 r k ∧ ldS T t0 R k = ldR T t0 r k := by
  intro R
  induction R with
  | zero => intro h; omega
  | succ R ih =>
    intro h
    by_cases e : clR T t0 R k = true
    · have e2 := clR_one hc e
      subst e2
      simp only [wtS, ldS, e, if_true]
      exact ⟨trivial, trivial⟩
    · have hne : r ≠ R := fun z => e (by rw [← z]; exact hc)
      have e' : clR T t0 R k = false := by
        cases e9 : clR T t0 R k
        · rfl
        · exact absurd e9 e
      simp only [wtS, ldS, e']
      exact ih (by omega)
theorem wtS_sum (h0 : tOK t0 n) : ∀ R, sumN (wtS T t0 R) n = 2520 * rmR T t0 n R := by
  intro R
  induction R with
  | zero => exact sumN_0 (fun _ _ => rfl)
  | succ R ih =>
    have e : sumN (wtS T t0 (R + 1)) n = sumN (fun k => wtS T t0 R k + (if clR T t0 R k then wtR T t0 R k else 0)) n := sumN_cong (fun k _ => by
      simp only [wtS]
      cases hc : clR T t0 R k
      · simp
      · rw [(wtS_th R (clR_th hc).1).1]
        simp)
    rw [e, sumN_add, ih, wt_round h0, rmR, Nat.mul_add]
theorem ldS_sum : ∀ R, fb_ct (ldS T t0 R) n = rmR T t0 n R := by
  intro R
  induction R with
  | zero => exact fb_ct_zero.mpr (fun _ _ => rfl)
  | succ R ih =>
    have e : fb_ct (ldS T t0 (R + 1)) n = fb_ct (fun k => ldS T t0 R k || ldR T t0 R k) n := fb_ct_cong (fun k _ => by
      simp only [ldS]
      cases hc : clR T t0 R k
      · have : ldR T t0 R k = false := by simp [ldR, hc]
        rw [this]
        simp
      · rw [(wtS_th R (clR_th hc).1).2]
        simp)
    rw [e, fb_ct_or (fun k _ hk => by
      have hc : clR T t0 R k = true := (ldR_iff.mp hk.2).1
      have := (wtS_th R (clR_th hc).1).2
      rw [hk.1] at this
      cases this), ih, rmR]
theorem rm_le (h0 : tOK t0 n) (hn : n ≤ 10) (R : Nat) : rmR T t0 n R ≤ 5 := by
  have h1 := wtS_sum (T := T) h0 R
  have h2 : sumN (wtS T t0 R) n ≤ n * 1260 := sumN_le (fun k _ => by
    induction R with
    | zero => exact Nat.zero_le _
    | succ R ih =>
      by_cases e : clR T t0 R k = true
      · simp only [wtS, e, if_true]; exact wtR_le
      · have e' : clR T t0 R k = false := by
          cases e9 : clR T t0 R k
          · rfl
          · exact absurd e9 e
        simp only [wtS, e']
        exact ih (wtS_sum h0 R))
  omega
end RINGS
/-! the first that a predicate takes -/
theorem fd_some {th : Nat → Bool} : ∀ {T : List Nat} {q : Nat}, T.find? th = some q → ∃ i, i < T.length ∧ T.getD i 0 = q ∧ th q = true ∧ ∀ j, j < i → th (T.getD j 0) = false := by
  intro T
  induction T with
  | nil => intro q h; cases h
  | cons x T ih =>
    intro q h
    rw [List.find?_cons] at h
    cases e : th x
    · rw [e] at h
      obtain ⟨i, h1, h2, h3, h4⟩ := ih h
      refine ⟨i + 1, by simp; omega, by simpa using h2, h3, fun j hj => ?_⟩
      cases j with
      | zero => simpa using e
      | succ j => simpa using h4 j (by omega)
    · rw [e] at h
      cases h
      exact ⟨0, by simp, rfl, e, fun j hj => absurd hj (by omega)⟩
theorem fd_none {th : Nat → Bool} : ∀ {T : List Nat}, T.find? th = none → ∀ j, j < T.length → th (T.getD j 0) = false := by
  intro T
  induction T with
  | nil => intro _ j hj; exact absurd hj (by simp)
  | cons x T ih =>
    intro h j hj
    rw [List.find?_cons] at h
    cases e : th x
    · rw [e] at h
      cases j with
      | zero => simpa using e
      | succ j => simpa using ih h j (by simpa using hj)
    · rw [e] at h
      cases h
section LAWM
variable {n : Nat} {h : Nat → Nat} {L : Nat → List Nat}
theorem cl_told (W : WF n h L) {r k : Nat} (hc : clR (TL h n L) (t0A n) r k = true) : k < n ∧ r < rn (TL h n L) (t0A n) n ∧ r < 10 ∧ FG (TL h n L) (t0A n) n h k = nI (h (faR (TL h n L) (t0A n) r k)) ∧ FD (TL h n L) (t0A n) n k = nI (r + 1) ∧ FZ (TL h n L) (t0A n) n k = nI (cyR (TL h n L) (t0A n) r k) ∧ 1 ≤ cyR (TL h n L) (t0A n) r k ∧ cyR (TL h n L) (t0A n) r k ≤ n ∧ GN h n L k = h (faR (TL h n L) (t0A n) r k) := by
  have hth := clR_th hc
  have hk : k < n := thR_lt t0A_ok hth.1
  obtain ⟨q, h1, h2, h3, h4, h5⟩ := clo_n (T := TL h n L) t0A_ok W.1 (t0A_t hk)
  have e := clR_one h2 hc
  subst e
  have h6 := rn_le (T := TL h n L) (t0 := t0A n) (n := n)
  have h7 := h3 h (fun _ => -1)
  have h8 := W.2.1 _ (thR_lt t0A_ok (faR_th hth.1))
  have hn := W.1
  exact ⟨hk, h1, by omega, h7, h4 _, h5 _, Nat.pos_of_ne_zero hth.2.1, cR_le t0A_ok hth.1 hth.2.1, by rw [GN, FG, h7, nI_clamp (by omega)]⟩
theorem cl_all (W : WF n h L) {k : Nat} (hk : k < n) : ∃ r, clR (TL h n L) (t0A n) r k = true := by
  obtain ⟨q, -, h2, -⟩ := clo_n (T := TL h n L) t0A_ok W.1 (t0A_t hk)
  exact ⟨q, h2⟩
/-- a ring of one: the own hut -/
theorem cl_own (W : WF n h L) {r k : Nat} (hc : clR (TL h n L) (t0A n) r k = true) : cyR (TL h n L) (t0A n) r k = 1 ↔ GN h n L k = h k := by
  have hth := clR_th hc
  obtain ⟨a1, a2, a3, a4⟩ := cy_pos hth.2.1
  obtain ⟨hk, -, -, -, -, -, -, -, hg⟩ := cl_told W hc
  rw [hg]
  constructor
  · intro e
    have e' : cy (faR (TL h n L) (t0A n) r) k = 1 := e
    rw [e'] at a3
    rw [show faR (TL h n L) (t0A n) r k = k from a3]
  · intro e
    have e2 : faR (TL h n L) (t0A n) r k = k := W.inj (thR_lt t0A_ok (faR_th hth.1)) hk e
    have h9 : ¬ 1 < cy (faR (TL h n L) (t0A n) r) k := fun z => a4 1 (Nat.le_refl 1) z e2
    have e3 : cyR (TL h n L) (t0A n) r k = cy (faR (TL h n L) (t0A n) r) k := rfl
    omega
/-- the round in which, from 1 -/
def RDn (h : Nat → Nat) (n : Nat) (L : Nat → List Nat) (k : Nat) : Nat := (FD (TL h n L) (t0A n) n k).toNatClampNeg
theorem RDn_of (W : WF n h L) {r k : Nat} (hc : clR (TL h n L) (t0A n) r k = true) : RDn h n L k = r + 1 := by
  obtain ⟨-, -, h3, -, h5, -⟩ := cl_told W hc
  rw [RDn, h5, nI_clamp (by omega)]
theorem GN_one (W : WF n h L) {i j : Nat} (hi : i < n) (hj : j < n) (e : GN h n L i = GN h n L j) : i = j := WF.inj W.move hi hj e
/-- who has, behind a move, a hut of one's list: done in an earlier round -/
theorem st_meas (W : WF n h L) {k p : Nat} (hk : k < n) (hp : p < (mvL h n L k).length) : ow (GN h n L) n ((mvL h n L k).getD p 0) < n ∧ RDn h n L (ow (GN h n L) n ((mvL h n L k).getD p 0)) < RDn h n L k := by
  obtain ⟨r, hc⟩ := cl_all W hk
  have hth := clR_th hc
  obtain ⟨-, -, -, -, -, -, -, -, hg⟩ := cl_told W hc
  obtain ⟨wa, wb⟩ := W.2.2.2 k hk
  -- the place in the old list
  have hpl : p < (L k).length ∧ (mvL h n L k).getD p 0 = (L k).getD p 0 ∧ (GN h n L k = h k ∨ p < ixL (L k) (GN h n L k)) := by
    by_cases e : GN h n L k = h k
    · simp only [mvL, if_pos e] at hp ⊢
      exact ⟨hp, by first | rfl | trivial, Or.inl e⟩
    · obtain ⟨i1, i2⟩ := ixL_lt W hk e
      simp only [mvL, if_neg e] at hp ⊢
      have hlen : ((L k).take (ixL (L k) (GN h n L k))).length = ixL (L k) (GN h n L k) := by simp; omega
      rw [hlen] at hp
      exact ⟨by omega, takL_at hp, Or.inr hp⟩
  obtain ⟨p1, p2, p3⟩ := hpl
  rw [p2]
  generalize hx : (L k).getD p 0 = x
  obtain ⟨x1, x2⟩ := wa p p1
  rw [hx] at x1 x2
  obtain ⟨o1, o2⟩ := W.ow x1
  -- its owner isn't there in round r
  have hgone : thR (TL h n L) (t0A n) r (ow h n x) = false := by
    have hTp : (TL h n L k).getD p 0 = ow h n x := by rw [TL_at p1, hx]
    cases e : (TL h n L k).find? (thR (TL h n L) (t0A n) r) with
    | none =>
      have h9 := fd_none e p (by rw [TL_len]; exact p1)
      rwa [hTp] at h9
    | some q =>
      obtain ⟨i, i1, i2, i3, i4⟩ := fd_some e
      rw [TL_len] at i1
      have hfa : faR (TL h n L) (t0A n) r k = q := by simp only [faR, fT, e, Option.getD_some]
      have hq : q = ow h n ((L k).getD i 0) := by rw [← i2, TL_at i1]
      have hhq : h q = (L k).getD i 0 := by rw [hq]; exact (W.ow (wa i i1).1).2
      have hgi : GN h n L k = (L k).getD i 0 := by rw [hg, hfa, hhq]
      rcases p3 with e2 | e2
      · exact absurd (hgi.symm.trans e2) (wa i i1).2
      · have hpi : p < i := by
          rcases Nat.lt_or_ge p i with z | z
          · exact z
          · exfalso
            exact (owG_spec (fun p => (L k).getD p 0) (GN h n L k) (L k).length 0).2.2.2 i (Nat.zero_le _) (Nat.lt_of_le_of_lt z e2) hgi.symm
        have h9 := i4 p hpi
        rwa [hTp] at h9
  -- so it was done before
  obtain ⟨r2, hc2⟩ := cl_all W o1
  have hlt : r2 < r := by
    rcases Nat.lt_or_ge r2 r with z | z
    · exact z
    · rw [thR_mono z (clR_th hc2).1] at hgone
      cases hgone
  -- who gets its hut stands in the same ring
  obtain ⟨b1, b2, b3, b4⟩ := cy_pos (clR_th hc2).2.1
  have hc3 := (clR_ring hc2 (i := cyR (TL h n L) (t0A n) r2 (ow h n x) - 1) (by have e : cyR (TL h n L) (t0A n) r2 (ow h n x) = cy (faR (TL h n L) (t0A n) r2) (ow h n x) := rfl; omega)).1
  generalize hq : itF (faR (TL h n L) (t0A n) r2) (cyR (TL h n L) (t0A n) r2 (ow h n x) - 1) (ow h n x) = q at hc3
  have hfq : faR (TL h n L) (t0A n) r2 q = ow h n x := by
    rw [← hq]
    have e : cyR (TL h n L) (t0A n) r2 (ow h n x) - 1 + 1 = cy (faR (TL h n L) (t0A n) r2) (ow h n x) := by have e : cyR (TL h n L) (t0A n) r2 (ow h n x) = cy (faR (TL h n L) (t0A n) r2) (ow h n x) := rfl; omega
    show itF (faR (TL h n L) (t0A n) r2) (cyR (TL h n L) (t0A n) r2 (ow h n x) - 1 + 1) (ow h n x) = ow h n x
    rw [e]
    exact b3
  obtain ⟨q1, -, -, -, -, -, -, -, q9⟩ := cl_told W hc3
  have hGq : GN h n L q = x := by rw [q9, hfq, o2]
  have hW := W.move
  obtain ⟨m1, m2⟩ := hW.ow x1
  have hqe : ow (GN h n L) n x = q := GN_one W m1 q1 (by rw [m2, hGq])
  rw [hqe]
  exact ⟨q1, by rw [RDn_of W hc3, RDn_of W hc]; omega⟩
/-- behind a move each would get the hut had -/
theorem st_same (W : WF n h L) {k : Nat} (hk : k < n) : FG (TL (GN h n L) n (mvL h n L)) (t0A n) n (GN h n L) k = nI (GN h n L k) := by
  have W' := W.move
  obtain ⟨R, hc⟩ := cl_all W' hk
  obtain ⟨-, -, -, h4, -⟩ := cl_told W' hc
  rw [h4]
  have hA : ∀ j, j < n → faR (TL (GN h n L) n (mvL h n L)) (t0A n) R j < n ∧ (faR (TL (GN h n L) n (mvL h n L)) (t0A n) R j = j ∨ RDn h n L (faR (TL (GN h n L) n (mvL h n L)) (t0A n) R j) < RDn h n L j) := by
    intro j hj
    simp only [faR, fT]
    cases e : (TL (GN h n L) n (mvL h n L) j).find? (thR (TL (GN h n L) n (mvL h n L)) (t0A n) R) with
    | none => exact ⟨hj, Or.inl rfl⟩
    | some q =>
      obtain ⟨i, i1, i2, -, -⟩ := fd_some e
      rw [TL_len] at i1
      rw [TL_at i1] at i2
      obtain ⟨m1, m2⟩ := st_meas W hj i1
      rw [i2] at m1 m2
      exact ⟨m1, Or.inr m2⟩
  by_cases e : faR (TL (GN h n L) n (mvL h n L)) (t0A n) R k = k
  · rw [e]
  · exfalso
    have hle : ∀ s j, j < n → itF (faR (TL (GN h n L) n (mvL h n L)) (t0A n) R) s j < n ∧ RDn h n L (itF (faR (TL (GN h n L) n (mvL h n L)) (t0A n) R) s j) ≤ RDn h n L j := by
      intro s j hj
      induction s with
      | zero => exact ⟨hj, Nat.le_refl _⟩
      | succ s ih =>
        obtain ⟨h1, h2⟩ := ih
        obtain ⟨g1, g2⟩ := hA _ h1
        refine ⟨g1, ?_⟩
        show RDn h n L (faR _ _ _ _) ≤ _
        rcases g2 with g2 | g2
        · rw [g2]; exact h2
        · omega
    obtain ⟨g1, g2⟩ := hA k hk
    have g3 := g2.resolve_left e
    have h9 := (hle (cyR (TL (GN h n L) n (mvL h n L)) (t0A n) R k - 1) _ g1).2
    rw [faR_back hc] at h9
    omega
/-- the list behind a move is as long as the rank of the hut got -/
theorem mv_len (W : WF n h L) {k : Nat} (hk : k < n) : (mvL h n L k).length = if GN h n L k = h k then (L k).length else ixL (L k) (GN h n L k) := by
  by_cases e : GN h n L k = h k
  · simp only [mvL, if_pos e]
  · obtain ⟨i1, i2⟩ := ixL_lt W hk e
    simp only [mvL, if_neg e]
    simp
    omega
/-- each round has somebody -/
theorem rn_some (W : WF n h L) {r : Nat} (hr : r < rn (TL h n L) (t0A n) n) : ∃ q, clR (TL h n L) (t0A n) r q = true := by
  obtain ⟨k, -, hk⟩ := anyT_iff.mp (rn_lt hr)
  exact clR_some t0A_ok W.1 hk
end LAWM
