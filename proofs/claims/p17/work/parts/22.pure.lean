/-! both sides tell one number -/
theorem mxF_ub {p : Nat → Bool} {v : Nat → Nat} {a : Nat} : ∀ n, a ≤ mxF p v a n ∧ (∀ i, i < n → p i = true → v i ≤ mxF p v a n) ∧ (mxF p v a n = a ∨ ∃ i, i < n ∧ p i = true ∧ mxF p v a n = v i) := by
  intro n
  induction n with
  | zero => exact ⟨Nat.le_refl _, fun i h => absurd h (by omega), Or.inl rfl⟩
  | succ n ih =>
    obtain ⟨h1, h2, h3⟩ := ih
    simp only [mxF]
    cases e : p n
    · simp only [Bool.false_eq_true, if_false]
      refine ⟨h1, fun i hi hp => ?_, ?_⟩
      · by_cases c : i = n
        · rw [c, e] at hp; cases hp
        · exact h2 i (by omega) hp
      · rcases h3 with q | ⟨i, a1, a2, a3⟩
        · exact Or.inl q
        · exact Or.inr ⟨i, by omega, a2, a3⟩
    · simp only [if_true]
      by_cases c : mxF p v a n < v n
      · rw [if_pos c]
        refine ⟨by omega, fun i hi hp => ?_, Or.inr ⟨n, by omega, e, rfl⟩⟩
        by_cases c2 : i = n
        · rw [c2]; exact Nat.le_refl _
        · have := h2 i (by omega) hp; omega
      · rw [if_neg c]
        refine ⟨h1, fun i hi hp => ?_, ?_⟩
        · by_cases c2 : i = n
          · rw [c2]; omega
          · exact h2 i (by omega) hp
        · rcases h3 with q | ⟨i, a1, a2, a3⟩
          · exact Or.inl q
          · exact Or.inr ⟨i, by omega, a2, a3⟩
theorem grR_ub {T : Nat → List Nat} {t0 : Nat → Bool} {n : Nat} : ∀ R, (∀ r i, r < R → i < n → clR T t0 r i = true → cyR T t0 r i ≤ grR T t0 n R) ∧ (grR T t0 n R = 0 ∨ ∃ r i, r < R ∧ i < n ∧ clR T t0 r i = true ∧ grR T t0 n R = cyR T t0 r i) := by
  intro R
  induction R with
  | zero => exact ⟨fun r i h => absurd h (by omega), Or.inl rfl⟩
  | succ R ih =>
    obtain ⟨h1, h2⟩ := ih
    obtain ⟨m1, m2, m3⟩ := mxF_ub (p := clR T t0 R) (v := cyR T t0 R) (a := grR T t0 n R) n
    simp only [grR]
    refine ⟨fun r i hr hi hc => ?_, ?_⟩
    · by_cases c : r = R
      · subst c; exact m2 i hi hc
      · have := h1 r i (by omega) hi hc; omega
    · rcases m3 with q | ⟨i, a1, a2, a3⟩
      · rcases h2 with u | ⟨r, i, b1, b2, b3, b4⟩
        · exact Or.inl (q.trans u)
        · exact Or.inr ⟨r, i, by omega, b2, b3, q.trans b4⟩
      · exact Or.inr ⟨R, i, by omega, a1, a2, a3⟩
theorem rMax_nI {f : Nat → Int32} {v : Nat → Nat} : ∀ n, (∀ k, k < n → f k = nI (v k) ∧ v k ≤ 10) → ∃ m, m ≤ 10 ∧ rMax f n = nI m ∧ (∀ k, k < n → v k ≤ m) ∧ (m = 0 ∨ ∃ k, k < n ∧ m = v k) := by
  intro n
  induction n with
  | zero => intro _; exact ⟨0, by omega, nI_0.symm, fun k h => absurd h (by omega), Or.inl rfl⟩
  | succ n ih =>
    intro hf
    obtain ⟨m, h1, h2, h3, h4⟩ := ih (fun k hk => hf k (by omega))
    obtain ⟨f1, f2⟩ := hf n (Nat.lt_succ_self n)
    rw [rMax, h2, f1]
    by_cases c : m < v n
    · rw [if_pos (nI_lt c (by omega))]
      refine ⟨v n, f2, rfl, fun k hk => ?_, Or.inr ⟨n, by omega, rfl⟩⟩
      by_cases c2 : k = n
      · rw [c2]; exact Nat.le_refl _
      · have := h3 k (by omega); omega
    · rw [if_neg (nI_nlt (by omega) (by omega))]
      refine ⟨m, h1, rfl, fun k hk => ?_, ?_⟩
      · by_cases c2 : k = n
        · rw [c2]; omega
        · exact h3 k (by omega)
      · rcases h4 with q | ⟨k, a1, a2⟩
        · exact Or.inl q
        · exact Or.inr ⟨k, by omega, a2⟩
section PURE
variable {σ : CS} {n : Nat} {h : Nat → Nat} {L : Nat → List Nat}
theorem FZ_gr (W : WF n h L) : rMax (FZ (TL h n L) (t0A n) n) n = nI (grR (TL h n L) (t0A n) n (rn (TL h n L) (t0A n) n)) := by
  have hn := W.1
  have hz : ∀ k, k < n → ∃ r, r < rn (TL h n L) (t0A n) n ∧ clR (TL h n L) (t0A n) r k = true ∧ FZ (TL h n L) (t0A n) n k = nI (cyR (TL h n L) (t0A n) r k) := fun k hk => by
    obtain ⟨r, h1, h2, -, -, h5⟩ := clo_n (T := TL h n L) t0A_ok hn (t0A_t hk)
    exact ⟨r, h1, h2, h5 _⟩
  have one : ∀ r q k, clR (TL h n L) (t0A n) r k = true → clR (TL h n L) (t0A n) q k = true → r = q := fun r q k a b => by
    have apart : ∀ {u w : Nat}, u < w → clR (TL h n L) (t0A n) u k = true → clR (TL h n L) (t0A n) w k = true → False := fun huw a b => by
      have h1 := (clR_th a).2.2
      rw [thR_mono huw (clR_th b).1] at h1
      cases h1
    rcases Nat.lt_trichotomy r q with z | z | z
    · exact (apart z a b).elim
    · exact z
    · exact (apart z b a).elim
  obtain ⟨g1, g2⟩ := grR_ub (T := TL h n L) (t0 := t0A n) (n := n) (rn (TL h n L) (t0A n) n)
  obtain ⟨m, h1, h2, h3, h4⟩ := rMax_nI (f := FZ (TL h n L) (t0A n) n) (v := fun k => (FZ (TL h n L) (t0A n) n k).toNatClampNeg) n (fun k hk => by
    obtain ⟨r, z1, z2, z3⟩ := hz k hk
    have := cy_le (faR (TL h n L) (t0A n) r) k
    rw [z3]
    have e9 : cyR (TL h n L) (t0A n) r k ≤ 10 := this
    show nI _ = nI ((nI _).toNatClampNeg) ∧ (nI _).toNatClampNeg ≤ 10
    rw [nI_clamp (by omega)]
    exact ⟨rfl, e9⟩)
  have hv : ∀ k, k < n → ∀ r, clR (TL h n L) (t0A n) r k = true → (FZ (TL h n L) (t0A n) n k).toNatClampNeg = cyR (TL h n L) (t0A n) r k := fun k hk r hr => by
    obtain ⟨q, z1, z2, z3⟩ := hz k hk
    have e9 : cyR (TL h n L) (t0A n) q k ≤ 10 := cy_le _ _
    rw [z3, nI_clamp (by omega), one r q k hr z2]
  rw [h2]
  congr 1
  apply Nat.le_antisymm
  · rcases h4 with q | ⟨k, a1, a2⟩
    · omega
    · obtain ⟨r, z1, z2, z3⟩ := hz k a1
      rw [a2, hv k a1 r z2]
      exact g1 r k z1 a1 z2
  · rcases g2 with q | ⟨r, k, a1, a2, a3, a4⟩
    · omega
    · rw [a4, ← hv k a2 r a3]
      exact h3 k a2
theorem rRank_P (H : HInv σ n h L) {k : Nat} (hk : k < n) {x : Int32} : rRank σ k x = rkP h L k x := by
  obtain ⟨r1, r2, r3, r4⟩ := H.2.1
  rw [rRank, rkP, r2 k hk, (r4 k hk).1, rFind_cong (g := fun p => nI ((L k).getD p 0)) _ _ (fun p _ hp => (r4 k hk).2 p (by omega))]
theorem HInv.got (H : HInv σ n h L) {k : Nat} (hk : k < n) : σ.2.1 (gR 0) k = gF n h L k ∧ σ.2.1 (dR 0) k = FD (TL h n L) (t0A n) n k ∧ σ.2.1 (zR 0) k = FZ (TL h n L) (t0A n) n k := H.2.2.2.2.2.2.2.2.2 k hk
theorem gotR_P (H : HInv σ n h L) {k : Nat} (hk : k < n) : gotR σ k = rkP h L k (gF n h L k) := by rw [gotR, rRank_P H hk, (H.got hk).1]
theorem hadB_P (H : HInv σ n h L) {k : Nat} (hk : k < n) {x : Int32} : hadB σ k x = lkP n h L k x := by rw [hadB, lkP, rRank_P H hk, gotR_P H hk]
theorem anoB_P (H : HInv σ n h L) : fb_ct (anoB σ) n = fb_ct (anP n h L) n := fb_ct_cong (fun k hk => by rw [anoB, anP, (H.got hk).1, H.2.1.2.1 k hk])
theorem toldF_P (H : HInv σ n h L) {k : Nat} (hk : k < n) {w : Nat} : toldF σ k w = toP n h L k w := by
  match w with
  | 0 => exact H.2.1.2.1 k hk
  | 1 => show nI (σ.1 (kR k)) = nI (L k).length; rw [(H.ls hk).1]
  | 2 => exact (H.got hk).1
  | 3 => exact (H.got hk).2.1
  | 4 => exact (H.got hk).2.2
  | w + 5 => exact gotR_P H hk
theorem cntF_P (H : HInv σ n h L) {w : Nat} : cntF σ n w = cnP n h L w := by
  match w with
  | 0 => rfl
  | 1 => exact H.2.2.2.2.2.2.2.1
  | 2 => exact H.2.2.2.2.2.2.2.2.1
  | 3 => show nI (fb_ct (anoB σ) n) = nI (fb_ct (anP n h L) n); rw [anoB_P H]
  | 4 => exact rSum_cong n (fun k hk => gotR_P H hk)
  | w + 5 => exact (rMax_cong n (fun k hk => (H.got hk).2.2)).trans (FZ_gr H.1)
theorem mean_P (H : HInv σ n h L) : rSum (σ.2.1 (dR 0)) n = rSum (FD (TL h n L) (t0A n) n) n := rSum_cong n (fun k hk => (H.got hk).2.1)
theorem dgF_cong {f g : Nat → Int32} {d : Int64} : ∀ m, (∀ k, k < m → f k = g k) → dgF f d m = dgF g d m := by
  intro m
  induction m with
  | zero => intro _; rfl
  | succ m ih => intro hf; rw [dgF, dgF, ih (fun k hk => hf k (by omega)), hf m (Nat.lt_succ_self m)]
theorem dgA_cong {F G : Nat → Int64 → Int64} {d : Int64} : ∀ m, (∀ k, k < m → ∀ d, F k d = G k d) → dgA F d m = dgA G d m := by
  intro m
  induction m with
  | zero => intro _; rfl
  | succ m ih => intro hf; rw [dgA, dgA, ih (fun k hk => hf k (by omega)), hf m (Nat.lt_succ_self m)]
theorem digest_P (H : HInv σ n h L) : dgA (dgC σ n h L) (dgF (cntF σ n) 1259 6) n = dgA (dgP n h L) (dgF (cnP n h L) 1259 6) n := by
  rw [dgF_cong (g := cnP n h L) 6 (fun w _ => cntF_P H)]
  refine dgA_cong n (fun k hk d => ?_)
  rw [dgC, dgP, dgK, dgK, dgF_cong (f := toldF σ k) (g := toP n h L k) 6 (fun w _ => toldF_P H hk), dgF_cong (f := σ.2.1 (kR k)) (g := fun p => nI ((L k).getD p 0)) _ (fun p hp => (H.2.1.2.2.2 k hk).2 p hp)]
theorem dn_th (H : HInv σ n h L) {X : Nat} (h1 : 1 ≤ X) (h2 : X < 2 ^ 31) {q : Nat} (hq : q < n) : thB (σ.2.1 (dR 0) q) (nI X) = thR (TL h n L) (t0A n) (X - 1) q := by
  have hn := H.1.1
  rw [(H.got hq).2.1]
  obtain ⟨r, z1, z2, -, z4, -⟩ := clo_n (T := TL h n L) t0A_ok hn (t0A_t hq)
  have z5 : FD (TL h n L) (t0A n) n q = nI (r + 1) := z4 _
  have hr := rn_le (T := TL h n L) (t0 := t0A n) (n := n)
  obtain ⟨c1, -, c3⟩ := clR_th z2
  rw [z5, thB]
  by_cases c : X ≤ r + 1
  · rw [decide_eq_true (Or.inr (nI_le c (by omega)))]
    exact (thR_mono (show X - 1 ≤ r by omega) c1).symm
  · rw [decide_eq_false (fun z => z.elim (nI_ne0 (by omega) (by omega)) (nI_ge (by omega) h2))]
    exact (th_f (show r + 1 ≤ X - 1 by omega) c3).symm
/-- how many rounds 'points' makes -/
theorem pt_rounds {T : Nat → List Nat} {t0 : Nat → Bool} {k : Nat} (X : Nat) (hz : thR T t0 10 k = false) : ∃ r9, (∀ r, r < r9 → r < X ∧ thR T t0 r k = true) ∧ (r9 < X → thR T t0 r9 k = false) := by
  have key : ∀ j r, r + j = 10 → (∀ q, q < r → q < X ∧ thR T t0 q k = true) → ∃ r9, (∀ r, r < r9 → r < X ∧ thR T t0 r k = true) ∧ (r9 < X → thR T t0 r9 k = false) := by
    intro j
    induction j with
    | zero => intro r hr hq; exact ⟨r, hq, fun _ => by rw [show r = 10 by omega]; exact hz⟩
    | succ j ih =>
      intro r hr hq
      by_cases c : r < X ∧ thR T t0 r k = true
      · refine ih (r + 1) (by omega) (fun q hq2 => ?_)
        by_cases e : q = r
        · rw [e]; exact c
        · exact hq q (by omega)
      · refine ⟨r, hq, fun hX => ?_⟩
        cases e : thR T t0 r k
        · rfl
        · exact absurd ⟨hX, e⟩ c
  exact key 10 0 (by omega) (fun q hq => absurd hq (by omega))
theorem thR_10a (W : WF n h L) {k : Nat} : thR (TL h n L) (t0A n) 10 k = false := th_f (rn_le (T := TL h n L) (t0 := t0A n) (n := n)) (anyT_no t0A_ok (rn_end t0A_ok W.1) k)
/-- nobody yet -/
def cs0 : CS := (fun _ => 0, fun _ _ => 0, fun i => if i % 3 = 0 then -1 else nI 0)
def ms0 : MS := (fun i => if i < 13 then 0 else -1, fun _ _ => 0)
theorem rn_0 {T : Nat → List Nat} {t0 : Nat → Bool} : rn T t0 0 = 0 := by
  rcases Nat.eq_zero_or_pos (rn T t0 0) with q | q
  · exact q
  · have h := rn_lt (T := T) (t0 := t0) (n := 0) q
    rw [anyT_iff] at h
    obtain ⟨k, hk, -⟩ := h
    omega
theorem WF_0 {h : Nat → Nat} {L : Nat → List Nat} : WF 0 h L := ⟨by omega, fun k hk => absurd hk (by omega), fun i j _ hj => absurd hj (by omega), fun k hk => absurd hk (by omega)⟩
theorem HInv_0 {h : Nat → Nat} {L : Nat → List Nat} : HInv cs0 0 h L := by
  refine ⟨WF_0, ⟨rfl, fun k hk => absurd hk (by omega), fun k _ _ => rfl, fun k hk => absurd hk (by omega)⟩, rfl, rfl, rfl, rfl, rfl, ?_, ?_, fun k hk => absurd hk (by omega)⟩
  · rw [rn_0]; rfl
  · rw [rn_0]; rfl
theorem MInv_0 {h : Nat → Nat} {L : Nat → List Nat} : MInv ms0 0 h L := ⟨WF_0, nI_0.symm, rfl, rfl, rfl, fun k hk => absurd hk (by omega), fun k hk => absurd hk (by omega), fun k _ _ => nI_0.symm⟩
end PURE
