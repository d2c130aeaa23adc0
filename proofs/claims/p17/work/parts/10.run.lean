/-! HutRings$Trade: the loop of the rounds, and its three beginnings -/
/-- the first place from i on, of m places, where h is x; i + m if there is none -/
def owG (h : Nat → Nat) (x : Nat) : Nat → Nat → Nat
  | 0, i => i
  | m + 1, i => if h i = x then i else owG h x m (i + 1)
def ow (h : Nat → Nat) (n x : Nat) : Nat := owG h x n 0
theorem owG_spec (h : Nat → Nat) (x : Nat) : ∀ (m i : Nat), i ≤ owG h x m i ∧ owG h x m i ≤ i + m ∧ (owG h x m i < i + m → h (owG h x m i) = x) ∧ ∀ j, i ≤ j → j < owG h x m i → h j ≠ x := by
  intro m
  induction m with
  | zero => intro i; exact ⟨Nat.le_refl _, Nat.le_refl _, fun q => absurd q (by simp only [owG]; omega), fun j h1 h2 => absurd h2 (by simp only [owG]; omega)⟩
  | succ m ih =>
    intro i
    by_cases e : h i = x
    · simp only [owG, if_pos e]
      exact ⟨Nat.le_refl _, by omega, fun _ => e, fun j h1 h2 => absurd h2 (by omega)⟩
    · simp only [owG, if_neg e]
      obtain ⟨a, b, c, d⟩ := ih (i + 1)
      refine ⟨by omega, by omega, fun q => c (by omega), fun j h1 h2 => ?_⟩
      by_cases ej : j = i
      · rw [ej]; exact e
      · exact d j (by omega) h2
theorem ow_spec {h : Nat → Nat} {n x : Nat} (he : ∃ k, k < n ∧ h k = x) : ow h n x < n ∧ h (ow h n x) = x := by
  obtain ⟨a, b, c, d⟩ := owG_spec h x n 0
  have h1 : owG h x n 0 < n := by
    obtain ⟨k, hk, e⟩ := he
    rcases Nat.lt_or_ge (owG h x n 0) n with q | q
    · exact q
    · exact absurd e (d k (Nat.zero_le _) (by omega))
  exact ⟨h1, c (by omega)⟩
theorem ow_none {h : Nat → Nat} {n x : Nat} (he : ∀ k, k < n → h k ≠ x) : ow h n x = n := by
  obtain ⟨a, b, c, d⟩ := owG_spec h x n 0
  have h1 : ¬ owG h x n 0 < n := fun q => he _ q (c (by omega))
  show owG h x n 0 = n
  omega
theorem rFind_G {f : Nat → Int32} {h : Nat → Nat} {x : Nat} (hx : x < 2 ^ 31) : ∀ (m i : Nat), (∀ k, i ≤ k → k < i + m → f k = nI (h k) ∧ h k < 2 ^ 31) → rFind f (nI x) m i = if owG h x m i < i + m then nI (owG h x m i) else -1 := by
  intro m
  induction m with
  | zero => intro i _; simp [rFind, owG]
  | succ m ih =>
    intro i hf
    obtain ⟨h1, h2⟩ := hf i (Nat.le_refl _) (by omega)
    by_cases e : h i = x
    · simp only [rFind, owG, if_pos e]
      rw [if_pos (by rw [h1, e]), if_pos (by omega)]
    · simp only [rFind, owG, if_neg e]
      rw [if_neg (fun q => e (nI_inj h2 hx (by rw [← h1]; exact q))), ih (i + 1) (fun k a b => hf k (by omega) (by omega)), show i + 1 + m = i + (m + 1) by omega]
theorem rFind_at {f : Nat → Int32} {h : Nat → Nat} {n x : Nat} (hx : x < 2 ^ 31) (hf : ∀ k, k < n → f k = nI (h k) ∧ h k < 2 ^ 31) (he : ∃ k, k < n ∧ h k = x) : rFind f (nI x) n 0 = nI (ow h n x) := by
  rw [rFind_G hx n 0 (fun k _ hk => hf k (by omega)), if_pos (by have := (ow_spec he).1; simp only [ow] at this; omega)]
  rfl
theorem rFind_no {f : Nat → Int32} {h : Nat → Nat} {n x : Nat} (hx : x < 2 ^ 31) (hf : ∀ k, k < n → f k = nI (h k) ∧ h k < 2 ^ 31) (he : ∀ k, k < n → h k ≠ x) : rFind f (nI x) n 0 = -1 := by
  rw [rFind_G hx n 0 (fun k _ hk => hf k (by omega)), if_neg (by have := ow_none he; simp only [ow] at this; omega)]
theorem rFind_un {f : Nat → Int32} {x : Int32} : ∀ (m i : Nat), (∀ k, i ≤ k → k < i + m → f k ≠ x) → rFind f x m i = -1 := by
  intro m
  induction m with
  | zero => intro i _; rfl
  | succ m ih => intro i hf; rw [rFind, if_neg (hf i (Nat.le_refl _) (by omega))]; exact ih (i + 1) (fun k a b => hf k (by omega) (by omega))
theorem rFind_so {f : Nat → Int32} {x : Int32} : ∀ (m i : Nat), (∃ k, i ≤ k ∧ k < i + m ∧ f k = x) → ∃ k, i ≤ k ∧ k < i + m ∧ rFind f x m i = nI k := by
  intro m
  induction m with
  | zero => rintro i ⟨k, h1, h2, -⟩; omega
  | succ m ih =>
    rintro i ⟨k, h1, h2, h3⟩
    by_cases e : f i = x
    · exact ⟨i, Nat.le_refl _, by omega, by rw [rFind, if_pos e]⟩
    · have hk : k ≠ i := fun q => e (by rw [← q]; exact h3)
      obtain ⟨k2, a, b, c⟩ := ih (i + 1) ⟨k, by omega, by omega, h3⟩
      exact ⟨k2, by omega, by omega, by rw [rFind, if_neg e]; exact c⟩
theorem nI_ne_m1 {k : Nat} (h : k < 2 ^ 31) : nI k ≠ -1 := fun q => by
  have h1 := nI_pos h
  rw [q] at h1
  exact h1 (by decide)
def mA (T : Nat → List Nat) (t0 : Nat → Bool) (n : Nat) (m0 : Nat → Int32) : Nat → Nat → Int32
  | 0 => m0
  | r + 1 => amF T (thR T t0 r) n (mA T t0 n m0 r)
/-- trade t behind r rounds -/
def csN (σ : CS) (t : Nat) (T : Nat → List Nat) (t0 : Nat → Bool) (n : Nat) (h : Nat → Nat) (g0 d0 z0 m0 : Nat → Int32) (r : Nat) : CS :=
  csT σ t (gtR T t0 h g0 r) (dnR T t0 d0 r) (zrR T t0 z0 r) (mA T t0 n m0 r) (nI r) (nI (rmR T t0 n r))
theorem csN_d {σ : CS} {t : Nat} {T : Nat → List Nat} {t0 : Nat → Bool} {n : Nat} {h : Nat → Nat} {g0 d0 z0 m0 : Nat → Int32} {r : Nat} : (csN σ t T t0 n h g0 d0 z0 m0 r).2.1 (dR t) = dnR T t0 d0 r := csT_d
theorem csN_1 {σ : CS} {t : Nat} {T : Nat → List Nat} {t0 : Nat → Bool} {n : Nat} {h : Nat → Nat} {g0 d0 z0 m0 : Nat → Int32} {r : Nat} (q : Nat) : (csN σ t T t0 n h g0 d0 z0 m0 r).1 q = σ.1 q := rfl
theorem csN_sro {σ : CS} {t : Nat} {T : Nat → List Nat} {t0 : Nat → Bool} {n : Nat} {h : Nat → Nat} {g0 d0 z0 m0 : Nat → Int32} {r : Nat} {x : Int32} : cs3 (csN σ t T t0 n h g0 d0 z0 m0 r) (3 * t + 1) x = csT σ t (gtR T t0 h g0 r) (dnR T t0 d0 r) (zrR T t0 z0 r) (mA T t0 n m0 r) x (nI (rmR T t0 n r)) := csT_sro
theorem csT_self {σ : CS} {t : Nat} : csT σ t (σ.2.1 (gR t)) (σ.2.1 (dR t)) (σ.2.1 (zR t)) (σ.2.1 (mR t)) (σ.2.2 (3 * t + 1)) (σ.2.2 (3 * t + 2)) = σ := by
  refine Prod.ext rfl (Prod.ext (funext fun q => ?_) (funext fun q => ?_))
  · simp only [csT]
    by_cases e1 : q = gR t
    · rw [if_pos e1, e1]
    · rw [if_neg e1]
      by_cases e2 : q = dR t
      · rw [if_pos e2, e2]
      · rw [if_neg e2]
        by_cases e3 : q = zR t
        · rw [if_pos e3, e3]
        · rw [if_neg e3]
          by_cases e4 : q = mR t
          · rw [if_pos e4, e4]
          · rw [if_neg e4]
  · simp only [csT]
    by_cases e1 : q = 3 * t + 1
    · rw [if_pos e1, e1]
    · rw [if_neg e1]
      by_cases e2 : q = 3 * t + 2
      · rw [if_pos e2, e2]
      · rw [if_neg e2]
def rfS (σ : CS) (j n : Nat) (y : Int32) : CS := csR σ j n (flF (σ.2.1 j) y n)
/-- trade t at the start of a run -/
def stS (σ : CS) (t n : Nat) : CS := cs3 (cs3 (cs3 (rfS (rfS (rfS (rfS (rfS σ (gR t) n (-1)) (dR t) n (nI 0)) (zR t) n (nI 0)) (mR t) n (-1)) (fR t) 0 (-1)) (3 * t) (-1)) (3 * t + 1) (nI 0)) (3 * t + 2) (nI 0)
theorem rfS_1 {σ : CS} {j n : Nat} {y : Int32} : (rfS σ j n y).1 j = n := csR_1
theorem rfS_1n {σ : CS} {j n q : Nat} {y : Int32} (h : q ≠ j) : (rfS σ j n y).1 q = σ.1 q := csR_1n h
theorem rfS_2 {σ : CS} {j n k : Nat} {y : Int32} (hk : k < n) : (rfS σ j n y).2.1 j k = y := by
  rw [rfS, csR_2, flF, if_pos hk]
theorem rfS_2n {σ : CS} {j n q : Nat} {y : Int32} (h : q ≠ j) : (rfS σ j n y).2.1 q = σ.2.1 q := csR_2n h
section STS
variable {σ : CS} {t n : Nat}
theorem stS_g : (stS σ t n).1 (gR t) = n := by
  show (rfS (rfS (rfS (rfS (rfS σ (gR t) n (-1)) (dR t) n (nI 0)) (zR t) n (nI 0)) (mR t) n (-1)) (fR t) 0 (-1)).1 (gR t) = n
  rw [rfS_1n (by simp only [gR, fR]; omega), rfS_1n (by simp only [gR, mR]; omega), rfS_1n (by simp only [gR, zR]; omega), rfS_1n (by simp only [gR, dR]; omega), rfS_1]
theorem stS_d : (stS σ t n).1 (dR t) = n := by
  show (rfS (rfS (rfS (rfS (rfS σ (gR t) n (-1)) (dR t) n (nI 0)) (zR t) n (nI 0)) (mR t) n (-1)) (fR t) 0 (-1)).1 (dR t) = n
  rw [rfS_1n (by simp only [dR, fR]; omega), rfS_1n (by simp only [dR, mR]; omega), rfS_1n (by simp only [dR, zR]; omega), rfS_1]
theorem stS_z : (stS σ t n).1 (zR t) = n := by
  show (rfS (rfS (rfS (rfS (rfS σ (gR t) n (-1)) (dR t) n (nI 0)) (zR t) n (nI 0)) (mR t) n (-1)) (fR t) 0 (-1)).1 (zR t) = n
  rw [rfS_1n (by simp only [zR, fR]; omega), rfS_1n (by simp only [zR, mR]; omega), rfS_1]
theorem stS_m : (stS σ t n).1 (mR t) = n := by
  show (rfS (rfS (rfS (rfS (rfS σ (gR t) n (-1)) (dR t) n (nI 0)) (zR t) n (nI 0)) (mR t) n (-1)) (fR t) 0 (-1)).1 (mR t) = n
  rw [rfS_1n (by simp only [mR, fR]; omega), rfS_1]
theorem stS_f : (stS σ t n).1 (fR t) = 0 := by
  show (rfS (rfS (rfS (rfS (rfS σ (gR t) n (-1)) (dR t) n (nI 0)) (zR t) n (nI 0)) (mR t) n (-1)) (fR t) 0 (-1)).1 (fR t) = 0
  rw [rfS_1]
theorem stS_1 {q : Nat} (h : q < gR t ∨ fR t < q) : (stS σ t n).1 q = σ.1 q := by
  show (rfS (rfS (rfS (rfS (rfS σ (gR t) n (-1)) (dR t) n (nI 0)) (zR t) n (nI 0)) (mR t) n (-1)) (fR t) 0 (-1)).1 q = σ.1 q
  simp only [gR, fR] at h
  rw [rfS_1n (by simp only [fR]; omega), rfS_1n (by simp only [mR]; omega), rfS_1n (by simp only [zR]; omega), rfS_1n (by simp only [dR]; omega), rfS_1n (by simp only [gR]; omega)]
theorem stS_2 {q : Nat} (h : q < gR t ∨ fR t < q) : (stS σ t n).2.1 q = σ.2.1 q := by
  show (rfS (rfS (rfS (rfS (rfS σ (gR t) n (-1)) (dR t) n (nI 0)) (zR t) n (nI 0)) (mR t) n (-1)) (fR t) 0 (-1)).2.1 q = σ.2.1 q
  simp only [gR, fR] at h
  rw [rfS_2n (by simp only [fR]; omega), rfS_2n (by simp only [mR]; omega), rfS_2n (by simp only [zR]; omega), rfS_2n (by simp only [dR]; omega), rfS_2n (by simp only [gR]; omega)]
theorem stS_dk {k : Nat} (hk : k < n) : (stS σ t n).2.1 (dR t) k = 0 := by
  show (rfS (rfS (rfS (rfS (rfS σ (gR t) n (-1)) (dR t) n (nI 0)) (zR t) n (nI 0)) (mR t) n (-1)) (fR t) 0 (-1)).2.1 (dR t) k = 0
  rw [rfS_2n (by simp only [dR, fR]; omega), rfS_2n (by simp only [dR, mR]; omega), rfS_2n (by simp only [dR, zR]; omega), rfS_2 hk]
  rfl
theorem stS_fe : (stS σ t n).2.2 (3 * t) = -1 := by
  simp only [stS, cs3, upd]
  rw [if_neg (by omega), if_neg (by omega)]
  simp
theorem stS_ro : (stS σ t n).2.2 (3 * t + 1) = nI 0 := by
  simp only [stS, cs3, upd]
  rw [if_neg (by omega), if_pos True.intro]
theorem stS_rm : (stS σ t n).2.2 (3 * t + 2) = nI 0 := by
  simp [stS, cs3, upd]
theorem stS_i {q : Nat} (h : q < 3 * t ∨ 3 * t + 2 < q) : (stS σ t n).2.2 q = σ.2.2 q := by
  simp only [stS, cs3, upd]
  rw [if_neg (by omega), if_neg (by omega), if_neg (by omega)]
  rfl
end STS
section RUN
variable {l : Launch} {D : va_G} {cI cZ cR cJ : ClassId} {a : Nat → Nat}
set_option maxHeartbeats 4000000 in
set_option maxRecDepth 100000 in
theorem c_X2_runRounds {σ : CS} {t n : Nat} {h : Nat → Nat} {T : Nat → List Nat} {lr : Nat → Nat} (H : RunOK σ t n h T lr) {t0 : Nat → Bool} (ht0 : tOK t0 n) {d0 g0 z0 m0 : Nat → Int32} (hd0 : ∀ k, k < n → d0 k = if t0 k then 0 else -1) : aM l D (cTys cI cZ cR cJ) 49 a yX2_runRounds wsX2_runRounds rmX2_runRounds [.ref (ta a t)] (cv cI cR a (csN σ t T t0 n h g0 d0 z0 m0 (0))) (none) (cv cI cR a (csN σ t T t0 n h g0 d0 z0 m0 (rn T t0 n))) := by
  obtain ⟨ht, hn, h0, hh, hg, hd, hz, hm, hL⟩ := id H
  have hrn := rn_le (T := T) (t0 := t0) (n := n)
  refine aM_of sX2_runRounds (lv0 := [some (.ref (ta a t)), none]) (j := 1) rfl rfl ?_
  intro pM eM sM mM argsM belowM methM cM AM C
  refine aw_iconst C dX2_runRounds_0 (x := nI 1) (by decide) ?_
  refine aw_istore_n C dX2_runRounds_1 St1 rfl ?_
  have hl_2 : ∀ (j r : Nat) (hj : r + j = rn T t0 n), aW pM l eM rmX2_runRounds sM mM argsM belowM methM cM (MQ belowM (aQ D 49 a (cv cI cR a (csN σ t T t0 n h g0 d0 z0 m0 (rn T t0 n))) (none) AM) argsM sM 0 0 AM) D AM 0 0 49 a (cv cI cR a (csN σ t T t0 n h g0 d0 z0 m0 (r))) 2 [some (.ref (ta a t)), some (.int (nI (r + 1)))] [] := by
    intro j
    induction j with
    | zero =>
      intro r hj
      refine aw_iload_n C dX2_runRounds_2 Lk1 ?_
      refine aw_bipush C dX2_runRounds_3 (x := nI 10) (by decide) ?_
      refine aw_icmp_gt C dX2_runRounds_5 (tgt := 41) (by decide) (fun c_5 => ?_) (fun c_5 => ?_)
      · skip
        exact aw_vend C dX2_runRounds_41 (by rw [show r = rn T t0 n by omega]) rfl
      · skip
        have hr10 : r < 10 := Nat.lt_of_not_le (fun z9 => c_5 (nI_lt (by omega) (by omega)))
        have hnone : rFind (dnR T t0 d0 r) (nI 0) n 0 = -1 := rFind_un n 0 (fun k _ hk e9 => by
          have h8 := (dnR_0 hd0 (show k < n by omega) r (by omega)).mp e9
          have h9 := anyT_no ht0 (rn_end (T := T) ht0 hn) k
          rw [show rn T t0 n = r by omega, h8] at h9
          cases h9)
        refine aw_aload_n C dX2_runRounds_8 Lk0 ?_
        refine aw_gX2_doneIn C H.1 dX2_runRounds_9 (by decide +kernel) (by decide +kernel) ?_
        refine aw_iconst C dX2_runRounds_12 (x := nI 0) (by decide) ?_
        refine aw_cV1 C dX2_runRounds_13 gX2_runRounds_X1_placeOf sX1_placeOf (rm := rmX1_placeOf) rfl (recRow (dR_lt ht)) (c_X1_placeOf (dR_lt ht) (by rw [csN_1]; omega)) ?_
        rw [csN_d, csN_1, hd]
        refine aw_iconst C dX2_runRounds_16 (x := -1) (by decide) ?_
        refine aw_icmp_eq C dX2_runRounds_17 (tgt := 41) (by decide) (fun c_17 => ?_) (fun c_17 => absurd hnone c_17)
        exact aw_vend C dX2_runRounds_41 (by rw [show r = rn T t0 n by omega]) rfl
    | succ j ih =>
      intro r hj
      have hany := rn_lt (T := T) (t0 := t0) (n := n) (r := r) (by omega)
      obtain ⟨k9, hk9, hk8⟩ := anyT_iff.mp hany
      have hsome : ¬ rFind (dnR T t0 d0 r) (nI 0) n 0 = -1 := by
        obtain ⟨k7, -, h7, h8⟩ := rFind_so (f := dnR T t0 d0 r) (x := nI 0) n 0 ⟨k9, Nat.zero_le _, by omega, (dnR_0 hd0 hk9 r (by omega)).mpr hk8⟩
        rw [h8]
        exact nI_ne_m1 (by omega)
      refine aw_iload_n C dX2_runRounds_2 Lk1 ?_
      refine aw_bipush C dX2_runRounds_3 (x := nI 10) (by decide) ?_
      refine aw_icmp_gt C dX2_runRounds_5 (tgt := 41) (by decide) (fun c_5 => absurd c_5 (nI_nlt (by omega) (by omega))) (fun c_5 => ?_)
      refine aw_aload_n C dX2_runRounds_8 Lk0 ?_
      refine aw_gX2_doneIn C H.1 dX2_runRounds_9 (by decide +kernel) (by decide +kernel) ?_
      refine aw_iconst C dX2_runRounds_12 (x := nI 0) (by decide) ?_
      refine aw_cV1 C dX2_runRounds_13 gX2_runRounds_X1_placeOf sX1_placeOf (rm := rmX1_placeOf) rfl (recRow (dR_lt ht)) (c_X1_placeOf (dR_lt ht) (by rw [csN_1]; omega)) ?_
      rw [csN_d, csN_1, hd]
      refine aw_iconst C dX2_runRounds_16 (x := -1) (by decide) ?_
      refine aw_icmp_eq C dX2_runRounds_17 (tgt := 41) (by decide) (fun c_17 => absurd c_17 hsome) (fun c_17 => ?_)
      refine aw_aload_n C dX2_runRounds_20 Lk0 ?_
      refine aw_iload_n C dX2_runRounds_21 Lk1 ?_
      refine aw_pX2_rounds C H.1 dX2_runRounds_22 (by decide +kernel) (by decide +kernel) ?_
      rw [csN_sro]
      refine aw_aload_n C dX2_runRounds_25 Lk0 ?_
      refine aw_iload_n C dX2_runRounds_26 Lk1 ?_
      refine aw_cV1v C dX2_runRounds_27 gX2_runRounds_X2_aimAll sX2_aimAll (rm := rmX2_aimAll) rfl (recTr H.1) (c_X2_aimAll H (fun q hq => dnR_th (T := T) hd0 hq r (Nat.le_refl _) (by omega))) ?_
      refine aw_aload_n C dX2_runRounds_30 Lk0 ?_
      refine aw_iload_n C dX2_runRounds_31 Lk1 ?_
      refine aw_cV1v C dX2_runRounds_32 gX2_runRounds_X2_closeRings sX2_closeRings (rm := rmX2_closeRings) rfl (recTr H.1) (c_X2_closeRings H ht0 (by omega) hd0 (fun q hq => by rw [amF, if_pos (thR_lt ht0 hq), hq]; rfl)) ?_
      refine aw_iinc C dX2_runRounds_35 Lk1 (nI_1 _) St1 rfl ?_
      refine aw_goto C dX2_runRounds_38 (tgt := 2) (by decide) ?_
      exact ih (r + 1) (by omega)
  exact hl_2 (rn T t0 n) 0 (by omega)
set_option maxHeartbeats 4000000 in
set_option maxRecDepth 100000 in
theorem c_X2_start {σ : CS} {t n : Nat} (ht : t < 2) (h0 : σ.1 0 = n) (hn : n ≤ 10) : aM l D (cTys cI cZ cR cJ) 49 a yX2_start wsX2_start rmX2_start [.ref (ta a t)] (cv cI cR a (σ)) (none) (cv cI cR a (stS σ t n)) := by
  refine aM_of sX2_start (lv0 := [some (.ref (ta a t)), none]) (j := 1) rfl rfl ?_
  intro pM eM sM mM argsM belowM methM cM AM C
  refine aw_aload_n C dX2_start_0 Lk0 ?_
  refine aw_gX2_land C ht dX2_start_1 (by decide +kernel) (by decide +kernel) ?_
  refine aw_cV0 C dX2_start_4 gX2_start_X0_size sX0_size (rm := rmX0_size) rfl recLand c_X0_size ?_
  rw [h0]
  refine aw_istore_n C dX2_start_7 St1 rfl ?_
  refine aw_aload_n C dX2_start_8 Lk0 ?_
  refine aw_gX2_gets C ht dX2_start_9 (by decide +kernel) (by decide +kernel) ?_
  refine aw_iload_n C dX2_start_12 Lk1 ?_
  refine aw_iconst C dX2_start_13 (x := -1) (by decide) ?_
  refine aw_cV2v C dX2_start_14 gX2_start_X1_refill sX1_refill (rm := rmX1_refill) rfl (recRow (gR_lt ht)) (c_X1_refill (gR_lt ht) hn) ?_
  refine aw_aload_n C dX2_start_17 Lk0 ?_
  refine aw_gX2_doneIn C ht dX2_start_18 (by decide +kernel) (by decide +kernel) ?_
  refine aw_iload_n C dX2_start_21 Lk1 ?_
  refine aw_iconst C dX2_start_22 (x := nI 0) (by decide) ?_
  refine aw_cV2v C dX2_start_23 gX2_start_X1_refill sX1_refill (rm := rmX1_refill) rfl (recRow (dR_lt ht)) (c_X1_refill (dR_lt ht) hn) ?_
  refine aw_aload_n C dX2_start_26 Lk0 ?_
  refine aw_gX2_ringSizes C ht dX2_start_27 (by decide +kernel) (by decide +kernel) ?_
  refine aw_iload_n C dX2_start_30 Lk1 ?_
  refine aw_iconst C dX2_start_31 (x := nI 0) (by decide) ?_
  refine aw_cV2v C dX2_start_32 gX2_start_X1_refill sX1_refill (rm := rmX1_refill) rfl (recRow (zR_lt ht)) (c_X1_refill (zR_lt ht) hn) ?_
  refine aw_aload_n C dX2_start_35 Lk0 ?_
  refine aw_gX2_aims C ht dX2_start_36 (by decide +kernel) (by decide +kernel) ?_
  refine aw_iload_n C dX2_start_39 Lk1 ?_
  refine aw_iconst C dX2_start_40 (x := -1) (by decide) ?_
  refine aw_cV2v C dX2_start_41 gX2_start_X1_refill sX1_refill (rm := rmX1_refill) rfl (recRow (mR_lt ht)) (c_X1_refill (mR_lt ht) hn) ?_
  refine aw_aload_n C dX2_start_44 Lk0 ?_
  refine aw_gX2_feignedLikes C ht dX2_start_45 (by decide +kernel) (by decide +kernel) ?_
  refine aw_iconst C dX2_start_48 (x := nI 0) (by decide) ?_
  refine aw_iconst C dX2_start_49 (x := -1) (by decide) ?_
  refine aw_cV2v C dX2_start_50 gX2_start_X1_refill sX1_refill (rm := rmX1_refill) rfl (recRow (fR_lt ht)) (c_X1_refill (fR_lt ht) (Nat.zero_le 10)) ?_
  refine aw_aload_n C dX2_start_53 Lk0 ?_
  refine aw_iconst C dX2_start_54 (x := -1) (by decide) ?_
  refine aw_pX2_feigner C ht dX2_start_55 (by decide +kernel) (by decide +kernel) ?_
  refine aw_aload_n C dX2_start_58 Lk0 ?_
  refine aw_iconst C dX2_start_59 (x := nI 0) (by decide) ?_
  refine aw_pX2_rounds C ht dX2_start_60 (by decide +kernel) (by decide +kernel) ?_
  refine aw_aload_n C dX2_start_63 Lk0 ?_
  refine aw_iconst C dX2_start_64 (x := nI 0) (by decide) ?_
  refine aw_pX2_ringsOfMore C ht dX2_start_65 (by decide +kernel) (by decide +kernel) ?_
  exact aw_vend C dX2_start_68 rfl rfl
end RUN
