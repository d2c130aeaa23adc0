/-! a land, and what the three runs make of it -/
/-- n keepers; keeper k has the hut h k and the list L k: huts are apart, a list has none twice and not the own one -/
def WF (n : Nat) (h : Nat → Nat) (L : Nat → List Nat) : Prop :=
  n ≤ 10 ∧ (∀ k, k < n → h k < n) ∧ (∀ i j, i < j → j < n → h i ≠ h j) ∧ ∀ k, k < n → (∀ p, p < (L k).length → (L k).getD p 0 < n ∧ (L k).getD p 0 ≠ h k) ∧ ∀ p q, p < q → q < (L k).length → (L k).getD p 0 ≠ (L k).getD q 0
def LandR (σ : CS) (n : Nat) (h : Nat → Nat) (L : Nat → List Nat) : Prop :=
  σ.1 0 = n ∧ (∀ k, k < n → σ.2.1 0 k = nI (h k)) ∧ (∀ k, k < 10 → n ≤ k → σ.1 (kR k) = 0) ∧ ∀ k, k < n → σ.1 (kR k) = (L k).length ∧ ∀ p, p < (L k).length → σ.2.1 (kR k) p = nI ((L k).getD p 0)
def TL (h : Nat → Nat) (n : Nat) (L : Nat → List Nat) (k : Nat) : List Nat := (L k).map (ow h n)
def TF (h : Nat → Nat) (n : Nat) (L : Nat → List Nat) (k0 x : Nat) (k : Nat) : List Nat := if k = k0 then (if x = h k0 then [] else [ow h n x]) else TL h n L k
def t0A (n k : Nat) : Bool := decide (k < n)
def t0W (n o k : Nat) : Bool := decide (k < n ∧ k ≠ o)
theorem t0A_ok {n : Nat} : tOK (t0A n) n := fun k h => of_decide_eq_true h
theorem t0A_t {n k : Nat} (h : k < n) : t0A n k = true := decide_eq_true h
theorem t0W_ok {n o : Nat} : tOK (t0W n o) n := fun k h => (of_decide_eq_true h).1
abbrev own9 := @ow
section LANDS
variable {σ : CS} {n t : Nat} {h : Nat → Nat} {L : Nat → List Nat}
theorem WF.len (H : WF n h L) {k : Nat} (hk : k < n) : (L k).length < n := by
  obtain ⟨-, h1, -, h3⟩ := H
  obtain ⟨a, b⟩ := h3 k hk
  refine fb_holes n ((L k).length + 1) (fun i => if i < (L k).length then (L k).getD i 0 else h k) (fun i hi => ?_) (fun i j hij hj => ?_)
  · by_cases e : i < (L k).length
    · simp only [if_pos e]; exact (a i e).1
    · simp only [if_neg e]; exact h1 k hk
  · have hi : i < (L k).length := by omega
    by_cases e : j < (L k).length
    · simp only [if_pos hi, if_pos e]; exact b i j hij e
    · simp only [if_pos hi, if_neg e]; exact (a i hi).2
theorem WF.onto (H : WF n h L) {x : Nat} (hx : x < n) : ∃ k, k < n ∧ h k = x := fb_onto H.2.1 H.2.2.1 hx
theorem WF.ow (H : WF n h L) {x : Nat} (hx : x < n) : ow h n x < n ∧ h (ow h n x) = x := ow_spec (H.onto hx)
theorem WF.inj (H : WF n h L) {i j : Nat} (hi : i < n) (hj : j < n) (e : h i = h j) : i = j := by
  rcases Nat.lt_trichotomy i j with q | q | q
  · exact absurd e (H.2.2.1 i j q hj)
  · exact q
  · exact absurd e.symm (H.2.2.1 j i q hi)
theorem WF.find (H : WF n h L) {f : Nat → Int32} (hf : ∀ k, k < n → f k = nI (h k)) {x : Nat} (hx : x < n) : rFind f (nI x) n 0 = nI (own9 h n x) := rFind_at (by have := H.1; omega) (fun k hk => ⟨hf k hk, by have := H.2.1 k hk; have := H.1; omega⟩) (H.onto hx)
theorem TL_at {k p : Nat} (hp : p < (L k).length) : (TL h n L k).getD p 0 = ow h n ((L k).getD p 0) := by
  simp only [TL, List.getD_eq_getElem?_getD, List.getElem?_map, List.getElem?_eq_getElem hp]
  rfl
theorem TL_len {k : Nat} : (TL h n L k).length = (L k).length := List.length_map ..
theorem RunOK.all (ht : t < 2) (W : WF n h L) (R : LandR σ n h L) : RunOK (stS σ t n) t n h (TL h n L) kR := by
  obtain ⟨r1, r2, r3, r4⟩ := R
  have hn := W.1
  refine ⟨ht, hn, by rw [stS_1 (by simp only [gR]; omega)]; exact r1, fun k hk => by rw [stS_2 (by simp only [gR]; omega)]; exact r2 k hk, stS_g, stS_d, stS_z, stS_m, fun k hk => ?_⟩
  have hkn := W.len hk
  refine ⟨Or.inr ⟨by rw [stS_fe]; exact nI_ne_m1 (by omega), rfl⟩, by rw [stS_1 (by simp only [gR, kR]; omega), TL_len]; exact (r4 k hk).1, by rw [TL_len]; omega, fun p hp => ?_⟩
  rw [TL_len] at hp
  rw [stS_2 (by simp only [gR]; omega), stS_2 (by simp only [gR, kR]; omega), (r4 k hk).2 p hp, TL_at hp]
  have hx := ((W.2.2.2 k hk).1 p hp).1
  exact ⟨W.find r2 hx, (W.ow hx).1⟩
theorem RunOK.d {T : Nat → List Nat} {lr : Nat → Nat} {i : Nat} {x : Int32} (H : RunOK σ t n h T lr) : RunOK (cs2 σ (dR t) i x) t n h T lr := by
  have H' := H
  obtain ⟨h1, h2, h3, h4, h5, h6, h7, h8, h9⟩ := H
  have ho : ∀ q, (q < 11 ∨ q = fR t) → (cs2 σ (dR t) i x).2.1 q = σ.2.1 q := fun q hq => by
    simp only [cs2]
    rw [if_neg (by simp only [dR, fR] at hq ⊢; omega)]
  refine ⟨h1, h2, h3, fun k hk => by rw [ho 0 (Or.inl (by omega))]; exact h4 k hk, h5, h6, h7, h8, fun k hk => ?_⟩
  obtain ⟨g1, g2, g3, g4⟩ := h9 k hk
  refine ⟨g1, g2, g3, fun p hp => ?_⟩
  rw [ho 0 (Or.inl (by omega)), ho (lr k) (H'.lr hk).2]
  exact g4 p hp
/-- with a feigned list of one hut, or of none -/
def fgS (σ : CS) (t n k0 : Nat) (h : Nat → Nat) (x : Nat) : CS :=
  if x = h k0 then cs3 (stS σ t n) (3 * t) (nI k0) else csR (cs3 (stS σ t n) (3 * t) (nI k0)) (fR t) ((stS σ t n).1 (fR t) + 1) (upd (shF ((stS σ t n).2.1 (fR t)) 0 ((stS σ t n).1 (fR t))) 0 (nI x))
theorem RunOK.feign (ht : t < 2) (W : WF n h L) (R : LandR σ n h L) {k0 x : Nat} (hk0 : k0 < n) (hx : x < n) : RunOK (fgS σ t n k0 h x) t n h (TF h n L k0 x) (fun k => if k = k0 then fR t else kR k) := by
  have H := RunOK.all ht W R
  obtain ⟨h1, h2, h3, h4, h5, h6, h7, h8, h9⟩ := H
  have e1 : ∀ q, q ≠ fR t → (fgS σ t n k0 h x).1 q = (stS σ t n).1 q := fun q hq => by
    simp only [fgS]
    by_cases e : x = h k0
    · rw [if_pos e]; rfl
    · rw [if_neg e, csR_1n hq]; rfl
  have e2 : ∀ q, q ≠ fR t → (fgS σ t n k0 h x).2.1 q = (stS σ t n).2.1 q := fun q hq => by
    simp only [fgS]
    by_cases e : x = h k0
    · rw [if_pos e]; rfl
    · rw [if_neg e, csR_2n hq]; rfl
  have e3 : (fgS σ t n k0 h x).2.2 (3 * t) = nI k0 := by
    simp only [fgS]
    by_cases e : x = h k0
    · rw [if_pos e]; simp [cs3, upd]
    · rw [if_neg e, csR_3]; simp [cs3, upd]
  refine ⟨h1, h2, by rw [e1 0 (by simp only [fR]; omega)]; exact h3, fun k hk => by rw [e2 0 (by simp only [fR]; omega)]; exact h4 k hk, by rw [e1 _ (by simp only [gR, fR]; omega)]; exact h5, by rw [e1 _ (by simp only [dR, fR]; omega)]; exact h6, by rw [e1 _ (by simp only [zR, fR]; omega)]; exact h7, by rw [e1 _ (by simp only [mR, fR]; omega)]; exact h8, fun k hk => ?_⟩
  by_cases e : k = k0
  · subst e
    simp only [if_pos True.intro, TF]
    rw [e3]
    refine ⟨Or.inl ⟨rfl, by first | rfl | trivial⟩, ?_⟩
    by_cases ex : x = h k
    · simp only [if_pos ex, fgS]
      exact ⟨stS_f, by simp, fun p hp => absurd hp (by simp)⟩
    · simp only [if_neg ex, fgS]
      refine ⟨by rw [csR_1, stS_f]; rfl, by simp, fun p hp => ?_⟩
      have hp0 : p = 0 := by simpa using hp
      subst hp0
      rw [csR_2, csR_2n (by simp only [fR]; omega)]
      have e4 : upd (shF ((stS σ t n).2.1 (fR t)) 0 ((stS σ t n).1 (fR t))) 0 (nI x) 0 = nI x := by simp [upd]
      rw [e4]
      exact ⟨W.find h4 hx, (W.ow hx).1⟩
  · simp only [if_neg e, TF]
    obtain ⟨g1, g2, g3, g4⟩ := h9 k hk
    have hkn := W.1
    rw [e3, e1 _ (by simp only [kR, fR]; omega), e2 0 (by simp only [fR]; omega), e2 _ (by simp only [kR, fR]; omega)]
    exact ⟨Or.inr ⟨fun q => e (nI_inj (by omega) (by omega) q), by first | rfl | trivial⟩, g2, g3, g4⟩
end LANDS
/-- the end of a run from φ on -/
def enS (φ : CS) (t n : Nat) (T : Nat → List Nat) (t0 : Nat → Bool) (h : Nat → Nat) : CS := csN φ t T t0 n h (φ.2.1 (gR t)) (φ.2.1 (dR t)) (φ.2.1 (zR t)) (φ.2.1 (mR t)) (rn T t0 n)
theorem csN_of {φ : CS} {t n : Nat} {T : Nat → List Nat} {t0 : Nat → Bool} {h : Nat → Nat} (h1 : φ.2.2 (3 * t + 1) = nI 0) (h2 : φ.2.2 (3 * t + 2) = nI 0) : csN φ t T t0 n h (φ.2.1 (gR t)) (φ.2.1 (dR t)) (φ.2.1 (zR t)) (φ.2.1 (mR t)) 0 = φ := by
  have h3 := csT_self (σ := φ) (t := t)
  rw [h1, h2] at h3
  exact h3
/-- what a run has found for those who were there does not hang on what stood there before -/
theorem clo {T : Nat → List Nat} {t0 : Nat → Bool} {k : Nat} : ∀ (R : Nat), t0 k = true → thR T t0 R k = false → ∃ r, r < R ∧ clR T t0 r k = true ∧ (∀ h g0, gtR T t0 h g0 R k = nI (h (faR T t0 r k))) ∧ (∀ d0, dnR T t0 d0 R k = nI (r + 1)) ∧ ∀ z0, zrR T t0 z0 R k = nI (cyR T t0 r k) := by
  intro R
  induction R with
  | zero => intro h1 h2; rw [show thR T t0 0 k = t0 k from rfl, h1] at h2; cases h2
  | succ R ih =>
    intro h1 h2
    cases e : clR T t0 R k
    · have h3 : thR T t0 R k = false := by rw [thR_cl, h2, e]; rfl
      obtain ⟨r, a1, a2, a3, a4, a5⟩ := ih h1 h3
      exact ⟨r, by omega, a2, fun h g0 => by simp only [gtR, e]; exact a3 h g0, fun d0 => by simp only [dnR, e]; exact a4 d0, fun z0 => by simp only [zrR, e]; exact a5 z0⟩
    · exact ⟨R, by omega, e, fun h g0 => by simp only [gtR, e]; rfl, fun d0 => by simp only [dnR, e]; rfl, fun z0 => by simp only [zrR, e]; rfl⟩
def FG (T : Nat → List Nat) (t0 : Nat → Bool) (n : Nat) (h : Nat → Nat) (k : Nat) : Int32 := gtR T t0 h (fun _ => -1) (rn T t0 n) k
def FD (T : Nat → List Nat) (t0 : Nat → Bool) (n k : Nat) : Int32 := dnR T t0 (fun _ => 0) (rn T t0 n) k
def FZ (T : Nat → List Nat) (t0 : Nat → Bool) (n k : Nat) : Int32 := zrR T t0 (fun _ => 0) (rn T t0 n) k
theorem clo_n {T : Nat → List Nat} {t0 : Nat → Bool} {n k : Nat} (h0 : tOK t0 n) (hn : n ≤ 10) (hk : t0 k = true) : ∃ r, r < rn T t0 n ∧ clR T t0 r k = true ∧ (∀ h g0, gtR T t0 h g0 (rn T t0 n) k = nI (h (faR T t0 r k))) ∧ (∀ d0, dnR T t0 d0 (rn T t0 n) k = nI (r + 1)) ∧ ∀ z0, zrR T t0 z0 (rn T t0 n) k = nI (cyR T t0 r k) :=
  clo _ hk (anyT_no h0 (rn_end h0 hn) k)
theorem FG_of {T : Nat → List Nat} {t0 : Nat → Bool} {n k : Nat} {h : Nat → Nat} (h0 : tOK t0 n) (hn : n ≤ 10) (hk : t0 k = true) (g0 : Nat → Int32) : gtR T t0 h g0 (rn T t0 n) k = FG T t0 n h k := by
  obtain ⟨r, -, -, a, -, -⟩ := clo_n (T := T) h0 hn hk
  rw [FG, a, a]
theorem FD_of {T : Nat → List Nat} {t0 : Nat → Bool} {n k : Nat} (h0 : tOK t0 n) (hn : n ≤ 10) (hk : t0 k = true) (d0 : Nat → Int32) : dnR T t0 d0 (rn T t0 n) k = FD T t0 n k := by
  obtain ⟨r, -, -, -, a, -⟩ := clo_n (T := T) h0 hn hk
  rw [FD, a, a]
theorem FZ_of {T : Nat → List Nat} {t0 : Nat → Bool} {n k : Nat} (h0 : tOK t0 n) (hn : n ≤ 10) (hk : t0 k = true) (z0 : Nat → Int32) : zrR T t0 z0 (rn T t0 n) k = FZ T t0 n k := by
  obtain ⟨r, -, -, -, -, a⟩ := clo_n (T := T) h0 hn hk
  rw [FZ, a, a]
section RUNS
variable {l : Launch} {D : va_G} {cI cZ cR cJ : ClassId} {a : Nat → Nat}
theorem wo_d0 {σ : CS} {t n o k : Nat} (ho : o < n) (hk : k < n) : (cs2 (stS σ t n) (dR t) o (-1)).2.1 (dR t) k = if t0W n o k then 0 else -1 := by
  simp only [cs2, if_pos True.intro, upd]
  by_cases e : k = o
  · have e1 : t0W n o k = false := decide_eq_false (fun q => q.2 e)
    rw [if_pos e, e1]; rfl
  · have e1 : t0W n o k = true := decide_eq_true ⟨hk, e⟩
    rw [if_neg e, e1, stS_dk hk]; rfl
theorem fg_d {σ : CS} {t n k0 x : Nat} {h : Nat → Nat} : (fgS σ t n k0 h x).2.1 (dR t) = (stS σ t n).2.1 (dR t) := by
  simp only [fgS]
  by_cases e : x = h k0
  · rw [if_pos e]; rfl
  · rw [if_neg e, csR_2n (by simp only [dR, fR]; omega)]; rfl
theorem fg_ro {σ : CS} {t n k0 x : Nat} {h : Nat → Nat} : (fgS σ t n k0 h x).2.2 (3 * t + 1) = nI 0 := by
  have e0 : (cs3 (stS σ t n) (3 * t) (nI k0)).2.2 (3 * t + 1) = nI 0 := by
    simp only [cs3, upd]
    rw [if_neg (by omega)]
    exact stS_ro
  simp only [fgS]
  by_cases e : x = h k0
  · rw [if_pos e]; exact e0
  · rw [if_neg e, csR_3]; exact e0
theorem fg_rm {σ : CS} {t n k0 x : Nat} {h : Nat → Nat} : (fgS σ t n k0 h x).2.2 (3 * t + 2) = nI 0 := by
  have e0 : (cs3 (stS σ t n) (3 * t) (nI k0)).2.2 (3 * t + 2) = nI 0 := by
    simp only [cs3, upd]
    rw [if_neg (by omega)]
    exact stS_rm
  simp only [fgS]
  by_cases e : x = h k0
  · rw [if_pos e]; exact e0
  · rw [if_neg e, csR_3]; exact e0
set_option maxHeartbeats 4000000 in
set_option maxRecDepth 100000 in
theorem c_X2_runForAll {σ : CS} {t n : Nat} {h : Nat → Nat} {L : Nat → List Nat} (ht : t < 2) (W : WF n h L) (R : LandR σ n h L) : aM l D (cTys cI cZ cR cJ) 49 a yX2_runForAll wsX2_runForAll rmX2_runForAll [.ref (ta a t)] (cv cI cR a (σ)) (none) (cv cI cR a (enS (stS σ t n) t n (TL h n L) (t0A n) h)) := by
  have hq := c_X2_runRounds (l := l) (D := D) (cI := cI) (cZ := cZ) (cR := cR) (cJ := cJ) (a := a) (RunOK.all ht W R) (t0 := t0A n) t0A_ok (d0 := (stS σ t n).2.1 (dR t)) (g0 := (stS σ t n).2.1 (gR t)) (z0 := (stS σ t n).2.1 (zR t)) (m0 := (stS σ t n).2.1 (mR t)) (fun k hk => by rw [stS_dk hk, t0A_t hk]; rfl)
  rw [csN_of (φ := stS σ t n) stS_ro stS_rm] at hq
  refine aM_of sX2_runForAll (lv0 := [some (.ref (ta a t))]) (j := 0) rfl rfl ?_
  intro pM eM sM mM argsM belowM methM cM AM C
  refine aw_aload_n C dX2_runForAll_0 Lk0 ?_
  refine aw_cV0v C dX2_runForAll_1 gX2_runForAll_X2_start sX2_start (rm := rmX2_start) rfl (recTr ht) (c_X2_start ht R.1 W.1) ?_
  refine aw_aload_n C dX2_runForAll_4 Lk0 ?_
  refine aw_cV0v C dX2_runForAll_5 gX2_runForAll_X2_runRounds sX2_runRounds (rm := rmX2_runRounds) rfl (recTr ht) hq ?_
  exact aw_vend C dX2_runForAll_8 rfl rfl


end RUNS
