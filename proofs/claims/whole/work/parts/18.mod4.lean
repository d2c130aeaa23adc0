/-! HutRingsModel: its face -/
def ms3 (τ : MS) (k : Nat) (f : Nat → Int32) : MS := (τ.1, fun q => if q = k then f else τ.2 q)
/-- rank and liking, of the land alone -/
def rkP (h : Nat → Nat) (L : Nat → List Nat) (k : Nat) (x : Int32) : Int32 := if x = nI (h k) then nI (L k).length else rFind (fun p => nI ((L k).getD p 0)) x (L k).length 0
def gF (n : Nat) (h : Nat → Nat) (L : Nat → List Nat) (k : Nat) : Int32 := FG (TL h n L) (t0A n) n h k
def lkP (n : Nat) (h : Nat → Nat) (L : Nat → List Nat) (k : Nat) (x : Int32) : Bool := decide (rkP h L k x ≠ -1 ∧ rkP h L k x < rkP h L k (gF n h L k))
def anP (n : Nat) (h : Nat → Nat) (L : Nat → List Nat) (k : Nat) : Bool := decide (gF n h L k ≠ nI (h k))
/-- what told and count tell, of the land alone -/
def toP (n : Nat) (h : Nat → Nat) (L : Nat → List Nat) (k : Nat) : Nat → Int32
  | 0 => nI (h k)
  | 1 => nI (L k).length
  | 2 => gF n h L k
  | 3 => FD (TL h n L) (t0A n) n k
  | 4 => FZ (TL h n L) (t0A n) n k
  | _ => rkP h L k (gF n h L k)
def cnP (n : Nat) (h : Nat → Nat) (L : Nat → List Nat) : Nat → Int32
  | 0 => nI n
  | 1 => nI (rn (TL h n L) (t0A n) n)
  | 2 => nI (rmR (TL h n L) (t0A n) n (rn (TL h n L) (t0A n) n))
  | 3 => nI (fb_ct (anP n h L) n)
  | 4 => rSum (fun k => rkP h L k (gF n h L k)) n
  | _ => nI (grR (TL h n L) (t0A n) n (rn (TL h n L) (t0A n) n))
/-- whom one points at in round x -/
def ptP (T : Nat → List Nat) (t0 : Nat → Bool) (X k : Nat) : Int32 := if thR T t0 (X - 1) k then nI (fT T (thR T t0 (X - 1)) k) else -1
/-- the reference's land -/
def MInv (τ : MS) (n : Nat) (h : Nat → Nat) (L : Nat → List Nat) : Prop :=
  WF n h L ∧ τ.1 1 = nI n ∧ τ.1 13 = -1 ∧ τ.1 14 = -1 ∧ τ.1 15 = -1 ∧ (∀ k, k < n → τ.2 1 k = nI (h k)) ∧ (∀ k, k < n → τ.2 2 k = nI (L k).length ∧ ∀ p, p < (L k).length → liF τ k p = nI ((L k).getD p 0)) ∧ ∀ k, n ≤ k → k < 10 → τ.2 2 k = nI 0
def slS (τ : MS) (n : Nat) (T : Nat → List Nat) (t0 : Nat → Bool) (h : Nat → Nat) : MS := smR τ n T t0 h (τ.2 4) (τ.2 5) (τ.2 6) (τ.2 7) (τ.2 8) (rn T t0 n)
def slN (n : Nat) (h : Nat → Nat) (L : Nat → List Nat) (τ : MS) : MS := slS τ n (TL h n L) (t0A n) h
/-- the reference when solved -/
def SInv (τ : MS) (n : Nat) (h : Nat → Nat) (L : Nat → List Nat) : Prop :=
  MInv τ n h L ∧ (∀ k, k < n → τ.2 4 k = gF n h L k ∧ τ.2 5 k = FD (TL h n L) (t0A n) n k ∧ τ.2 6 k = FZ (TL h n L) (t0A n) n k) ∧ τ.1 10 = nI (rn (TL h n L) (t0A n) n) ∧ τ.1 11 = nI (rmR (TL h n L) (t0A n) n (rn (TL h n L) (t0A n) n)) ∧ τ.1 12 = nI (grR (TL h n L) (t0A n) n (rn (TL h n L) (t0A n) n))
section MFACE
variable {τ : MS} {n : Nat} {h : Nat → Nat} {L : Nat → List Nat} {k i : Nat} {x : Int32} {f : Nat → Int32}
theorem ms3_1 : (ms3 τ k f).1 = τ.1 := rfl
theorem ms3_2 : (ms3 τ k f).2 k = f := if_pos rfl
theorem ms3_n {q : Nat} (hq : q ≠ k) : (ms3 τ k f).2 q = τ.2 q := if_neg hq
theorem ms3_self : ms3 τ k (τ.2 k) = τ := by
  refine Prod.ext rfl (funext fun q => ?_)
  simp only [ms3]
  by_cases e : q = k
  · rw [if_pos e, e]
  · rw [if_neg e]
theorem ms3_s : ms2 (ms3 τ k f) k i x = ms3 τ k (upd f i x) := by
  refine Prod.ext rfl (funext fun q => ?_)
  simp only [ms2, ms3]
  by_cases e : q = k
  · rw [if_pos e, if_pos e]; simp
  · rw [if_neg e, if_neg e, if_neg e]
theorem ms2_at : (ms2 τ k i x).2 k i = x := by simp [ms2, upd]
theorem ms2_n {q : Nat} (hq : q ≠ k) : (ms2 τ k i x).2 q = τ.2 q := if_neg hq
theorem ms2_is : ms2 τ k i x = ms3 τ k (upd (τ.2 k) i x) := rfl
theorem ms1_at : (ms1 τ i x).1 i = x := if_pos rfl
theorem rFind_cong {f g : Nat → Int32} {x : Int32} : ∀ (m i : Nat), (∀ p, i ≤ p → p < i + m → f p = g p) → rFind f x m i = rFind g x m i := by
  intro m
  induction m with
  | zero => intro i _; rfl
  | succ m ih =>
    intro i hf
    simp only [rFind]
    rw [hf i (Nat.le_refl _) (by omega), ih (i + 1) (fun p h1 h2 => hf p (by omega) (by omega))]
theorem rSum_cong {f g : Nat → Int32} : ∀ n, (∀ k, k < n → f k = g k) → rSum f n = rSum g n := by
  intro n
  induction n with
  | zero => intro _; rfl
  | succ n ih => intro hf; rw [rSum, rSum, ih (fun k hk => hf k (by omega)), hf n (Nat.lt_succ_self n)]
theorem rMax_cong {f g : Nat → Int32} : ∀ n, (∀ k, k < n → f k = g k) → rMax f n = rMax g n := by
  intro n
  induction n with
  | zero => intro _; rfl
  | succ n ih => intro hf; rw [rMax, rMax, ih (fun k hk => hf k (by omega)), hf n (Nat.lt_succ_self n)]
theorem inB_n {a m : Nat} (ha : a ≤ m) (hm : m < 2 ^ 31) : inB (nI a) (nI 0) (nI m) = true := inB_t (nI_pos' (by omega)) (nI_le ha hm)
theorem isW_f {y : Int32} (h : y.toInt < 0 ∨ 5 < y.toInt) : inB y (nI 0) (nI 5) = false := by
  rcases h with q | q
  · exact inB_lo (Int32.lt_iff_toInt_lt.mpr q)
  · exact inB_hi (Int32.lt_iff_toInt_lt.mpr q)
theorem MInv.of {τ' : MS} (H : MInv τ n h L) (e1 : τ'.1 1 = τ.1 1) (e13 : τ'.1 13 = -1) (e14 : τ'.1 14 = -1) (e15 : τ'.1 15 = -1) (f1 : τ'.2 1 = τ.2 1) (f2 : τ'.2 2 = τ.2 2) (f3 : τ'.2 3 = τ.2 3) : MInv τ' n h L := by
  obtain ⟨W, h1, hgo, hfe, hfd, hh, hL, hZ⟩ := H
  refine ⟨W, e1.trans h1, e13, e14, e15, fun k hk => by rw [f1]; exact hh k hk, fun k hk => ⟨by rw [f2]; exact (hL k hk).1, fun p hp => ?_⟩, fun k hk hk2 => by rw [f2]; exact hZ k hk hk2⟩
  simp only [liF, f3]
  exact (hL k hk).2 p hp
theorem MInv.thr (H : MInv τ n h L) {x : Int32} : MInv (ms1 τ 0 x) n h L := H.of rfl H.2.2.1 H.2.2.2.1 H.2.2.2.2.1 rfl rfl rfl
theorem MInv.st (H : MInv τ n h L) {g d z m e : Nat → Int32} {la ri gr : Int32} : MInv (mST τ g d z m e la ri gr) n h L := H.of rfl H.2.2.1 H.2.2.2.1 H.2.2.2.2.1 rfl rfl rfl
theorem MInv.sl (H : MInv τ n h L) {T : Nat → List Nat} {t0 : Nat → Bool} {h' : Nat → Nat} : MInv (slS τ n T t0 h') n h L := H.st
theorem MInv.lr (H : MInv τ n h L) (hk : k < n) {p : Nat} (hp : p < (L k).length) : rFind (τ.2 1) (liF τ k p) n 0 = nI (ow h n ((L k).getD p 0)) ∧ ow h n ((L k).getD p 0) < n := by
  obtain ⟨W, h1, hgo, hfe, hfd, hh, hL, hZ⟩ := H
  have hx := ((W.2.2.2 k hk).1 p hp).1
  rw [(hL k hk).2 p hp]
  exact ⟨W.find hh hx, (W.ow hx).1⟩
theorem MInv.ro (H : MInv τ n h L) {go fe fd : Int32} {T : Nat → List Nat} {t0 : Nat → Bool} (hgo : ∀ k, k < n → (t0 k = true ↔ ¬ nI k = go)) (hT : ∀ k, k < n → (nI k = fe → (fd = -1 ∧ T k = []) ∨ (¬ fd = -1 ∧ ∃ q, T k = [q] ∧ q < n ∧ rFind (τ.2 1) fd n 0 = nI q)) ∧ (¬ nI k = fe → T k = TL h n L k)) {τ' : MS} (e1 : τ'.1 1 = τ.1 1) (e13 : τ'.1 13 = go) (e14 : τ'.1 14 = fe) (e15 : τ'.1 15 = fd) (f1 : τ'.2 1 = τ.2 1) (f2 : τ'.2 2 = τ.2 2) (f3 : τ'.2 3 = τ.2 3) : MRun τ' n h T t0 := by
  have H' := H
  obtain ⟨W, h1, -, -, -, hh, hL, hZ⟩ := H'
  have hn := W.1
  refine ⟨hn, e1.trans h1, fun k hk => by rw [f1]; exact hh k hk, fun k hk => by rw [e13]; exact hgo k hk, fun k hk => ?_⟩
  rw [e14, e15, f1, f2]
  refine ⟨(hT k hk).1, fun hne => ?_⟩
  rw [(hT k hk).2 hne, TL_len]
  have hlen := W.len hk
  refine ⟨(hL k hk).1, by omega, fun p hp => ?_⟩
  rw [TL_at hp]
  simp only [liF, f3]
  exact H.lr hk hp
theorem MInv.run (H : MInv τ n h L) : MRun τ n h (TL h n L) (t0A n) := by
  have hn := H.1.1
  refine H.ro (go := -1) (fe := -1) (fd := -1) (fun k hk => ⟨fun _ => nI_ne_m1 (by omega), fun _ => t0A_t hk⟩) (fun k hk => ⟨fun q => absurd q (nI_ne_m1 (by omega)), fun _ => rfl⟩) rfl H.2.2.1 H.2.2.2.1 H.2.2.2.2.1 rfl rfl rfl
theorem MInv.wo (H : MInv τ n h L) {o : Nat} (ho : o < n) : MRun (ms1 τ 13 (nI o)) n h (TL h n L) (t0W n o) := by
  have hn := H.1.1
  refine H.ro (go := nI o) (fe := -1) (fd := -1) (fun k hk => ?_) (fun k hk => ⟨fun q => absurd q (nI_ne_m1 (by omega)), fun _ => rfl⟩) rfl ms1_at H.2.2.2.1 H.2.2.2.2.1 rfl rfl rfl
  rw [show t0W n o k = decide (k < n ∧ k ≠ o) from rfl, decide_eq_true_iff]
  exact ⟨fun q z => q.2 (nI_inj (by omega) (by omega) z), fun q => ⟨hk, fun z => q (congrArg nI z)⟩⟩
def fvP (h : Nat → Nat) (k x : Nat) : Int32 := if x = h k then -1 else nI x
theorem MInv.fe (H : MInv τ n h L) {k0 x : Nat} (hk0 : k0 < n) (hx : x < n) {y : Int32} (hy : y = fvP h k0 x) : MRun (ms1 (ms1 τ 14 (nI k0)) 15 y) n h (TF h n L k0 x) (t0A n) := by
  have hn := H.1.1
  have W := H.1
  have hh := H.2.2.2.2.2.1
  subst hy
  refine H.ro (go := -1) (fe := nI k0) (fd := fvP h k0 x) (fun k hk => ⟨fun _ => nI_ne_m1 (by omega), fun _ => t0A_t hk⟩) (fun k hk => ⟨fun q => ?_, fun q => ?_⟩) rfl H.2.2.1 rfl ms1_at rfl rfl rfl
  · have e : k = k0 := nI_inj (by omega) (by omega) q
    subst e
    simp only [TF, if_pos True.intro, fvP]
    by_cases c : x = h k
    · rw [if_pos c, if_pos c]; exact Or.inl ⟨rfl, rfl⟩
    · rw [if_neg c, if_neg c]; exact Or.inr ⟨nI_ne_m1 (by omega), _, rfl, (W.ow hx).1, W.find hh hx⟩
  · have e : ¬ k = k0 := fun z => q (congrArg nI z)
    simp only [TF, if_neg e]
theorem mRank_P (H : MInv τ n h L) (hk : k < n) : mRank τ k (L k).length x = rkP h L k x := by
  obtain ⟨W, h1, hgo, hfe, hfd, hh, hL, hZ⟩ := H
  rw [mRank, rkP, hh k hk, rFind_cong (g := fun p => nI ((L k).getD p 0)) _ _ (fun p _ hp => (hL k hk).2 p (by omega))]
theorem zm_eq {T : Nat → List Nat} {t0 : Nat → Bool} {z0 z1 : Nat → Int32} {k : Nat} : ∀ R, t0 k = true → thR T t0 R k = false → zmR T t0 z0 R k = zrR T t0 z1 R k := by
  intro R
  induction R with
  | zero => intro h1 h2; rw [show thR T t0 0 k = t0 k from rfl, h1] at h2; cases h2
  | succ R ih =>
    intro h1 h2
    have h3 := thR_cl (T := T) (t0 := t0) (r := R) (k := k)
    rw [h2, Bool.false_or] at h3
    simp only [zmR, zrR]
    rw [h3]
    cases e : clR T t0 R k
    · simp only [Bool.false_eq_true, if_false]
      exact ih h1 (h3.trans e)
    · rfl
theorem MInv.sol (H : MInv τ n h L) : SInv (slN n h L τ) n h L := by
  have hn := H.1.1
  refine ⟨H.sl, fun k hk => ⟨?_, ?_, ?_⟩, rfl, rfl, rfl⟩
  · exact FG_of t0A_ok hn (t0A_t hk) _
  · exact FD_of t0A_ok hn (t0A_t hk) _
  · exact zm_eq _ (t0A_t hk) (anyT_no t0A_ok (rn_end t0A_ok hn) k)
theorem MInv.come (H : MInv τ n h L) (hn : n < 10) : MInv (ms1 (ms2 τ 1 n (nI n)) 1 (nI (n + 1))) (n + 1) (updN h n n) (updL L n []) := by
  obtain ⟨W, h1, hgo, hfe, hfd, hh, hL, hZ⟩ := H
  refine ⟨W.come hn, ms1_at, hgo, hfe, hfd, fun k hk => ?_, fun k hk => ?_, fun k hk hk2 => hZ k (by omega) hk2⟩
  · show upd (τ.2 1) n (nI n) k = _
    by_cases e : k = n
    · rw [e, updN_s]; simp [upd]
    · rw [updN_n e, upd, if_neg e]; exact hh k (by omega)
  · by_cases e : k = n
    · rw [e, updL_s]; exact ⟨hZ n (Nat.le_refl _) hn, fun p hp => absurd hp (by simp)⟩
    · rw [updL_n e]; exact hL k (by omega)
theorem MInv.wish (H : MInv τ n h L) {i x : Nat} (hk : k < n) (hx : x < n) (hi : i ≤ (L k).length) (hN : newB h L k x) : MInv (ms2 (ms3 τ 3 (upd (shF (τ.2 3) (10 * k + i) (10 * k + (L k).length)) (10 * k + i) (nI x))) 2 k (nI ((L k).length + 1))) n h (updL L k (insL (L k) i x)) := by
  obtain ⟨W, h1, hgo, hfe, hfd, hh, hL, hZ⟩ := H
  have hn := W.1
  have hlk := W.len hk
  refine ⟨W.wish hk hx hi hN, h1, hgo, hfe, hfd, hh, fun q hq => ?_, fun q hq hq2 => ?_⟩
  · have hlq := W.len hq
    by_cases e : q = k
    · subst e
      rw [updL_s, insL_len hi]
      refine ⟨ms2_at, fun p hp => ?_⟩
      rw [insL_at hi]
      show upd (shF (τ.2 3) (10 * q + i) (10 * q + (L q).length)) (10 * q + i) (nI x) (10 * q + p) = _
      simp only [upd, shF]
      by_cases c1 : p < i
      · rw [if_neg (by omega), if_neg (by omega), if_pos c1]; exact (hL q hq).2 p (by omega)
      · rw [if_neg c1]
        by_cases c2 : p = i
        · rw [if_pos (by omega), if_pos c2]
        · rw [if_neg (by omega), if_neg c2, if_pos (by omega), show 10 * q + p - 1 = 10 * q + (p - 1) by omega]; exact (hL q hq).2 (p - 1) (by omega)
    · rw [updL_n e]
      refine ⟨?_, fun p hp => ?_⟩
      · show upd (τ.2 2) k _ q = _
        rw [upd, if_neg e]; exact (hL q hq).1
      · show upd (shF (τ.2 3) (10 * k + i) (10 * k + (L k).length)) (10 * k + i) (nI x) (10 * q + p) = _
        simp only [upd, shF]
        rw [if_neg (by omega), if_neg (by omega)]; exact (hL q hq).2 p hp
  · show upd (τ.2 2) k _ q = _
    rw [upd, if_neg (by omega)]; exact hZ q hq hq2
theorem MInv.drop (H : MInv τ n h L) {i : Nat} (hk : k < n) (hi : i < (L k).length) : MInv (ms3 (ms2 τ 2 k (nI ((L k).length - 1))) 3 (skF (τ.2 3) (10 * k + i) (10 * k + ((L k).length - 1)))) n h (updL L k (delL (L k) i)) := by
  obtain ⟨W, h1, hgo, hfe, hfd, hh, hL, hZ⟩ := H
  have hn := W.1
  have hlk := W.len hk
  refine ⟨W.drop hk hi, h1, hgo, hfe, hfd, hh, fun q hq => ?_, fun q hq hq2 => ?_⟩
  · have hlq := W.len hq
    by_cases e : q = k
    · subst e
      rw [updL_s, delL_len hi]
      refine ⟨by rw [ms3_n (by decide), ms2_at], fun p hp => ?_⟩
      rw [delL_at hi]
      show skF (τ.2 3) (10 * q + i) (10 * q + ((L q).length - 1)) (10 * q + p) = _
      simp only [skF]
      by_cases c1 : p < i
      · rw [if_neg (by omega), if_pos c1]; exact (hL q hq).2 p (by omega)
      · rw [if_neg c1, if_pos (by omega)]; exact (hL q hq).2 (p + 1) (by omega)
    · rw [updL_n e]
      refine ⟨?_, fun p hp => ?_⟩
      · show upd (τ.2 2) k _ q = _
        rw [upd, if_neg e]; exact (hL q hq).1
      · show skF (τ.2 3) (10 * k + i) (10 * k + ((L k).length - 1)) (10 * q + p) = _
        simp only [skF]
        rw [if_neg (by omega)]; exact (hL q hq).2 p hp
  · show upd (τ.2 2) k _ q = _
    rw [upd, if_neg (by omega)]; exact hZ q hq hq2
end MFACE
section PTS
variable {τ : MS} {n : Nat} {T : Nat → List Nat} {t0 : Nat → Bool} {h : Nat → Nat} {g0 d0 z0 m0 e0 : Nat → Int32} {r k : Nat}
theorem mST_la9 : (smR τ n T t0 h g0 d0 z0 m0 e0 r).1 10 = nI r := rfl
theorem mST_m9 : (smR τ n T t0 h g0 d0 z0 m0 e0 r).2 7 = mA T t0 n m0 r := rfl
theorem mST_e9 (hk : k < n) : (smR τ n T t0 h g0 d0 z0 m0 e0 r).2 8 k = bI (thR T t0 r k) := eR_at hk
theorem th_f {q : Nat} (hq : r ≤ q) (hb : thR T t0 r k = false) : thR T t0 q k = false := by
  cases e : thR T t0 q k
  · rfl
  · rw [thR_mono hq e] at hb; cases hb
theorem pt_end {X : Nat} (hX : 1 ≤ X) (_ : True) (hk : k < n) (hb : thR T t0 (X - 1) k = true) : (some (Value.int (mA T t0 n m0 X k)) : Option Value) = some (.int (ptP T t0 X k)) := by
  obtain ⟨X, rfl⟩ : ∃ q, X = q + 1 := ⟨X - 1, by omega⟩
  rw [Nat.add_sub_cancel] at hb
  simp only [mA, amF, if_pos hk, ptP, Nat.add_sub_cancel, hb, if_true]
end PTS
section MOD4
variable {l : Launch} {D : va_G} {cI cZ cR cJ : ClassId} {b : Nat → Nat}
theorem c_X4_rankP {τ : MS} {n : Nat} {h : Nat → Nat} {L : Nat → List Nat} (H : MInv τ n h L) {k : Nat} (hk : k < n) {x : Int32} : aM l D (cTys cI cZ cR cJ) 9 b yX4_rankOf wsX4_rankOf rmX4_rankOf [.ref (b 0), .int (nI k), .int x] (mv cI cZ b τ) (some (.int (rkP h L k x))) (mv cI cZ b τ) := by
  have hn := H.1.1
  have hlen := H.1.len hk
  have hq := c_X4_rankOf (l := l) (D := D) (cI := cI) (cZ := cZ) (cR := cR) (cJ := cJ) (b := b) (τ := τ) (k := k) (len := (L k).length) (x := x) (by omega) (H.2.2.2.2.2.2.1 k hk).1 (by omega)
  rw [mRank_P H hk] at hq
  exact hq
theorem c_X4_solveP {τ : MS} {n : Nat} {h : Nat → Nat} {L : Nat → List Nat} (H : MInv τ n h L) : aM l D (cTys cI cZ cR cJ) 9 b yX4_solve wsX4_solve rmX4_solve [.ref (b 0)] (mv cI cZ b τ) none (mv cI cZ b (slN n h L τ)) := c_X4_solve H.run t0A_ok
theorem c_X4_beginP {τ : MS} {n : Nat} {h : Nat → Nat} {T : Nat → List Nat} {t0 : Nat → Bool} (H : MRun τ n h T t0) : aM l D (cTys cI cZ cR cJ) 9 b yX4_begin wsX4_begin rmX4_begin [.ref (b 0)] (mv cI cZ b τ) none (mv cI cZ b (smR τ n T t0 h (τ.2 4) (τ.2 5) (τ.2 6) (τ.2 7) (τ.2 8) 0)) := by
  have hbe := c_X4_begin (l := l) (D := D) (cI := cI) (cZ := cZ) (cR := cR) (cJ := cJ) (b := b) H (g := τ.2 4) (d := τ.2 5) (z := τ.2 6) (m := τ.2 7) (e := τ.2 8) (la := τ.1 10) (ri := τ.1 11) (gr := τ.1 12)
  rw [mST_self] at hbe
  exact hbe
set_option maxHeartbeats 4000000 in
set_option maxRecDepth 100000 in
theorem c_X4_come {τ : MS} {n : Nat} {h : Nat → Nat} {L : Nat → List Nat} (H : MInv τ n h L) (hn9 : n < 10) : aM l D (cTys cI cZ cR cJ) 9 b yX4_come wsX4_come rmX4_come [.ref (b 0)] (mv cI cZ b (τ)) (some (.int (nI n))) (mv cI cZ b (ms1 (ms2 (ms1 τ 0 (nI 0)) 1 n (nI n)) 1 (nI (n + 1)))) := by
  obtain ⟨W, h1, hgo, hfe, hfd, hh, hL, hZ⟩ := H.thr (x := nI 0)
  have hn := W.1
  refine aM_of sX4_come (lv0 := [some (.ref (b 0))]) (j := 0) rfl rfl ?_
  intro pM eM sM mM argsM belowM methM cM AM C
  refine aw_aload_n C dX4_come_0 Lk0 ?_
  refine aw_iconst C dX4_come_1 (x := nI 0) (by decide) ?_
  refine aw_pX4_thrown C  dX4_come_2 (by decide +kernel) (by decide +kernel) ?_
  refine aw_aload_n C dX4_come_5 Lk0 ?_
  refine aw_gX4_keepers C  dX4_come_6 (by decide +kernel) (by decide +kernel) ?_
  rw [h1]
  refine aw_bipush C dX4_come_9 (x := nI 10) (by decide) ?_
  refine aw_icmp_ne C dX4_come_11 (tgt := 20) (by decide) (fun c_11 => ?_) (fun c_11 => absurd (fun q => absurd (nI_inj (by omega) (by omega) q) (by omega)) c_11)
  refine aw_aload_n C dX4_come_20 Lk0 ?_
  refine aw_gX4_has C  dX4_come_21 (by decide +kernel) (by decide +kernel) ?_
  refine aw_aload_n C dX4_come_24 Lk0 ?_
  refine aw_gX4_keepers C  dX4_come_25 (by decide +kernel) (by decide +kernel) ?_
  rw [h1]
  refine aw_aload_n C dX4_come_28 Lk0 ?_
  refine aw_gX4_keepers C  dX4_come_29 (by decide +kernel) (by decide +kernel) ?_
  rw [h1]
  refine aw_isX4n_1 C dX4_come_32 (by omega) ?_
  refine aw_aload_n C dX4_come_33 Lk0 ?_
  refine aw_dup C dX4_come_34 rfl ?_
  refine aw_gX4_keepers C  dX4_come_35 (by decide +kernel) (by decide +kernel) ?_
  rw [show (ms2 (ms1 τ 0 (nI 0)) 1 n (nI n)).1 1 = nI n from h1]
  refine aw_iconst C dX4_come_38 (x := nI 1) (by decide) ?_
  refine aw_iadd C dX4_come_39 ?_
  rw [nI_add]
  refine aw_pX4_keepers C  dX4_come_40 (by decide +kernel) (by decide +kernel) ?_
  refine aw_aload_n C dX4_come_43 Lk0 ?_
  refine aw_gX4_keepers C  dX4_come_44 (by decide +kernel) (by decide +kernel) ?_
  rw [ms1_at]
  refine aw_iconst C dX4_come_47 (x := nI 1) (by decide) ?_
  refine aw_isub C dX4_come_48 ?_
  rw [pk_sub (by omega), Nat.add_sub_cancel]
  exact aw_iend C dX4_come_49 rfl rfl
set_option maxHeartbeats 4000000 in
set_option maxRecDepth 100000 in
theorem f_X4_come {τ : MS} {n : Nat} {h : Nat → Nat} {L : Nat → List Nat} (H : MInv τ n h L) (hn9 : ¬ n < 10) : aM l D (cTys cI cZ cR cJ) 9 b yX4_come wsX4_come rmX4_come [.ref (b 0)] (mv cI cZ b (τ)) (some (.int (nI 0))) (mv cI cZ b (ms1 (ms1 τ 0 (nI 0)) 0 (nI 1))) := by
  obtain ⟨W, h1, hgo, hfe, hfd, hh, hL, hZ⟩ := H.thr (x := nI 0)
  have hn := W.1
  refine aM_of sX4_come (lv0 := [some (.ref (b 0))]) (j := 0) rfl rfl ?_
  intro pM eM sM mM argsM belowM methM cM AM C
  refine aw_aload_n C dX4_come_0 Lk0 ?_
  refine aw_iconst C dX4_come_1 (x := nI 0) (by decide) ?_
  refine aw_pX4_thrown C  dX4_come_2 (by decide +kernel) (by decide +kernel) ?_
  refine aw_aload_n C dX4_come_5 Lk0 ?_
  refine aw_gX4_keepers C  dX4_come_6 (by decide +kernel) (by decide +kernel) ?_
  rw [h1]
  refine aw_bipush C dX4_come_9 (x := nI 10) (by decide) ?_
  refine aw_icmp_ne C dX4_come_11 (tgt := 20) (by decide) (fun c_11 => absurd c_11 (fun q => q (congrArg nI (show n = 10 by omega)))) (fun c_11 => ?_)
  refine aw_aload_n C dX4_come_14 Lk0 ?_
  refine aw_iconst C dX4_come_15 (x := nI 1) (by decide) ?_
  refine aw_cV1 C dX4_come_16 gX4_come_X4_fail sX4_fail (rm := rmX4_fail) rfl recMod c_X4_fail ?_
  exact aw_iend C dX4_come_19 rfl rfl
set_option maxHeartbeats 4000000 in
set_option maxRecDepth 100000 in
theorem c_X4_wish {τ : MS} {n : Nat} {h : Nat → Nat} {L : Nat → List Nat} (H : MInv τ n h L) {k : Nat} (hk : k < n) {i x : Nat} (hx : x < n) (hi : i ≤ (L k).length) (hN : newB h L k x) : aM l D (cTys cI cZ cR cJ) 9 b yX4_wish wsX4_wish rmX4_wish [.ref (b 0), .int (nI k), .int (nI i), .int (nI x)] (mv cI cZ b (τ)) (some (.int (nI ((L k).length + 1)))) (mv cI cZ b (ms2 (ms3 (ms1 τ 0 (nI 0)) 3 (upd (shF ((ms1 τ 0 (nI 0)).2 3) (10 * k + i) (10 * k + (L k).length)) (10 * k + i) (nI x))) 2 k (nI ((L k).length + 1)))) := by
  obtain ⟨W, h1, hgo, hfe, hfd, hh, hL, hZ⟩ := H.thr (x := nI 0)
  have hn := W.1
  obtain ⟨hl, hcell⟩ := hL k hk
  have hlen := W.len hk
  have hhk := W.2.1 k hk
  refine aM_of sX4_wish (lv0 := [some (.ref (b 0)), some (.int (nI k)), some (.int (nI i)), some (.int (nI x)), none]) (j := 1) rfl rfl ?_
  intro pM eM sM mM argsM belowM methM cM AM C
  refine aw_aload_n C dX4_wish_0 Lk0 ?_
  refine aw_iconst C dX4_wish_1 (x := nI 0) (by decide) ?_
  refine aw_pX4_thrown C  dX4_wish_2 (by decide +kernel) (by decide +kernel) ?_
  refine aw_aload_n C dX4_wish_5 Lk0 ?_
  refine aw_iload_n C dX4_wish_6 Lk1 ?_
  refine aw_cV1 C dX4_wish_7 gX4_wish_X4_isKeeper sX4_isKeeper (rm := rmX4_isKeeper) rfl recMod (c_X4_isKeeper hn h1) ?_
  rw [isK_t (by omega) hk]
  refine aw_if_eq C dX4_wish_10 (tgt := 35) (by decide) (fun c_10 => absurd c_10 (by decide)) (fun c_10 => ?_)
  refine aw_aload_n C dX4_wish_13 Lk0 ?_
  refine aw_iload_n C dX4_wish_14 Lk3 ?_
  refine aw_cV1 C dX4_wish_15 gX4_wish_X4_isKeeper sX4_isKeeper (rm := rmX4_isKeeper) rfl recMod (c_X4_isKeeper hn h1) ?_
  rw [isK_t (by omega) hx]
  refine aw_if_eq C dX4_wish_18 (tgt := 35) (by decide) (fun c_18 => absurd c_18 (by decide)) (fun c_18 => ?_)
  refine aw_iload_n C dX4_wish_21 Lk2 ?_
  refine aw_iconst C dX4_wish_22 (x := nI 0) (by decide) ?_
  refine aw_aload_n C dX4_wish_23 Lk0 ?_
  refine aw_gX4_longs C  dX4_wish_24 (by decide +kernel) (by decide +kernel) ?_
  refine aw_iload_n C dX4_wish_27 Lk1 ?_
  refine aw_ilX4n_2 C dX4_wish_28 (by omega) ?_
  rw [hl]
  refine aw_cS3 C dX4_wish_29 gX4_wish_X4_isIn sX4_isIn (rm := rmX4_isIn) rfl c_X4_isIn ?_
  rw [inB_n hi (by omega)]
  refine aw_if_ne C dX4_wish_32 (tgt := 41) (by decide) (fun c_32 => ?_) (fun c_32 => absurd (by decide) c_32)
  refine aw_aload_n C dX4_wish_41 Lk0 ?_
  refine aw_gX4_has C  dX4_wish_42 (by decide +kernel) (by decide +kernel) ?_
  refine aw_iload_n C dX4_wish_45 Lk1 ?_
  refine aw_ilX4n_1 C dX4_wish_46 (by omega) ?_
  rw [hh k hk]
  refine aw_iload_n C dX4_wish_47 Lk3 ?_
  refine aw_icmp_eq C dX4_wish_48 (tgt := 61) (by decide) (fun c_48 => absurd c_48 (fun q => hN.1 (nI_inj (by omega) (by omega) q).symm)) (fun c_48 => ?_)
  refine aw_aload_n C dX4_wish_51 Lk0 ?_
  refine aw_iload_n C dX4_wish_52 Lk1 ?_
  refine aw_iload_n C dX4_wish_53 Lk3 ?_
  refine aw_cV2 C dX4_wish_54 gX4_wish_X4_placeOf sX4_placeOf (rm := rmX4_placeOf) rfl recMod (c_X4_placeOf (by omega) hl (by omega)) ?_
  rw [rFind_no (h := fun p => (L k).getD p 0) (n := (L k).length) (by omega) (fun p hp => ⟨hcell p hp, by have := ((W.2.2.2 k hk).1 p hp).1; omega⟩) hN.2]
  refine aw_iconst C dX4_wish_57 (x := -1) (by decide) ?_
  refine aw_icmp_eq C dX4_wish_58 (tgt := 67) (by decide) (fun c_58 => ?_) (fun c_58 => absurd rfl c_58)
  refine aw_aload_n C dX4_wish_67 Lk0 ?_
  refine aw_gX4_longs C  dX4_wish_68 (by decide +kernel) (by decide +kernel) ?_
  refine aw_iload_n C dX4_wish_71 Lk1 ?_
  refine aw_ilX4n_2 C dX4_wish_72 (by omega) ?_
  rw [hl]
  refine aw_istore C dX4_wish_73 St4 rfl ?_
  have hl_75 : ∀ (j : Nat) (hj : i + j ≤ (L k).length), aW pM l eM rmX4_wish sM mM argsM belowM methM cM (MQ belowM (aQ D 9 b (mv cI cZ b (ms2 (ms3 (ms1 τ 0 (nI 0)) 3 (upd (shF ((ms1 τ 0 (nI 0)).2 3) (10 * k + i) (10 * k + (L k).length)) (10 * k + i) (nI x))) 2 k (nI ((L k).length + 1)))) (some (.int (nI ((L k).length + 1)))) AM) argsM sM 0 0 AM) D AM 0 0 9 b (mv cI cZ b (ms3 (ms1 τ 0 (nI 0)) 3 (shF ((ms1 τ 0 (nI 0)).2 3) (10 * k + (i + j)) (10 * k + (L k).length)))) 75 [some (.ref (b 0)), some (.int (nI k)), some (.int (nI i)), some (.int (nI x)), some (.int (nI (i + j)))] [] := by
    intro j
    induction j with
    | zero =>
      intro hj
      refine aw_iload C dX4_wish_75 Lk4 ?_
      refine aw_iload_n C dX4_wish_77 Lk2 ?_
      refine aw_icmp_le C dX4_wish_78 (tgt := 108) (by decide) (fun c_78 => ?_) (fun c_78 => absurd (nI_le (by omega) (by omega)) c_78)
      refine aw_aload_n C dX4_wish_108 Lk0 ?_
      refine aw_gX4_lists C  dX4_wish_109 (by decide +kernel) (by decide +kernel) ?_
      refine aw_bipush C dX4_wish_112 (x := nI 10) (by decide) ?_
      refine aw_iload_n C dX4_wish_114 Lk1 ?_
      refine aw_imul C dX4_wish_115 ?_
      rw [pk_mul]
      refine aw_iload_n C dX4_wish_116 Lk2 ?_
      refine aw_iadd C dX4_wish_117 ?_
      rw [nI_add]
      refine aw_iload_n C dX4_wish_118 Lk3 ?_
      refine aw_isX4n_3 C dX4_wish_119 (by omega) ?_
      rw [ms3_s]
      refine aw_aload_n C dX4_wish_120 Lk0 ?_
      refine aw_gX4_longs C  dX4_wish_121 (by decide +kernel) (by decide +kernel) ?_
      refine aw_iload_n C dX4_wish_124 Lk1 ?_
      refine aw_dup2 C dX4_wish_125 rfl rfl ?_
      refine aw_ilX4n_2 C dX4_wish_126 (by omega) ?_
      rw [ms3_n (by decide), hl]
      refine aw_iconst C dX4_wish_127 (x := nI 1) (by decide) ?_
      refine aw_iadd C dX4_wish_128 ?_
      rw [nI_add]
      refine aw_isX4n_2 C dX4_wish_129 (by omega) ?_
      refine aw_aload_n C dX4_wish_130 Lk0 ?_
      refine aw_gX4_longs C  dX4_wish_131 (by decide +kernel) (by decide +kernel) ?_
      refine aw_iload_n C dX4_wish_134 Lk1 ?_
      refine aw_ilX4n_2 C dX4_wish_135 (by omega) ?_
      exact aw_iend C dX4_wish_136 rfl (by rw [ms2_at])
    | succ j ih =>
      intro hj
      rw [show i + (j + 1) = i + j + 1 from rfl]
      refine aw_iload C dX4_wish_75 Lk4 ?_
      refine aw_iload_n C dX4_wish_77 Lk2 ?_
      refine aw_icmp_le C dX4_wish_78 (tgt := 108) (by decide) (fun c_78 => absurd c_78 (nI_ge (by omega) (by omega))) (fun c_78 => ?_)
      refine aw_aload_n C dX4_wish_81 Lk0 ?_
      refine aw_gX4_lists C  dX4_wish_82 (by decide +kernel) (by decide +kernel) ?_
      refine aw_bipush C dX4_wish_85 (x := nI 10) (by decide) ?_
      refine aw_iload_n C dX4_wish_87 Lk1 ?_
      refine aw_imul C dX4_wish_88 ?_
      rw [pk_mul]
      refine aw_iload C dX4_wish_89 Lk4 ?_
      refine aw_iadd C dX4_wish_91 ?_
      rw [nI_add]
      refine aw_aload_n C dX4_wish_92 Lk0 ?_
      refine aw_iload_n C dX4_wish_93 Lk1 ?_
      refine aw_iload C dX4_wish_94 Lk4 ?_
      refine aw_iconst C dX4_wish_96 (x := nI 1) (by decide) ?_
      refine aw_isub C dX4_wish_97 ?_
      rw [pk_sub (by omega), Nat.add_sub_cancel]
      refine aw_cV2 C dX4_wish_98 gX4_wish_X4_li sX4_li (rm := rmX4_li) rfl recMod (c_X4_li (by omega)) ?_
      rw [show liF (ms3 (ms1 τ 0 (nI 0)) 3 (shF ((ms1 τ 0 (nI 0)).2 3) (10 * k + (i + j + 1)) (10 * k + (L k).length))) k (i + j) = (ms1 τ 0 (nI 0)).2 3 (10 * k + (i + j)) from shF_at]
      refine aw_isX4n_3 C dX4_wish_101 (by omega) ?_
      rw [ms3_s, show upd (shF ((ms1 τ 0 (nI 0)).2 3) (10 * k + (i + j + 1)) (10 * k + (L k).length)) (10 * k + (i + j + 1)) ((ms1 τ 0 (nI 0)).2 3 (10 * k + (i + j))) = shF ((ms1 τ 0 (nI 0)).2 3) (10 * k + (i + j)) (10 * k + (L k).length) from shF_step (t := 10 * k + (i + j)) (by omega)]
      refine aw_iinc C dX4_wish_102 Lk4 (pk_m1 _) St4 rfl ?_
      refine aw_goto C dX4_wish_105 (tgt := 75) (by decide) ?_
      exact ih (by omega)
  have hq := hl_75 ((L k).length - i) (by omega)
  rw [show i + ((L k).length - i) = (L k).length by omega, shF_0, ms3_self] at hq
  exact hq
set_option maxHeartbeats 4000000 in
set_option maxRecDepth 100000 in
theorem f_X4_wish_k {τ : MS} {n : Nat} {h : Nat → Nat} {L : Nat → List Nat} (H : MInv τ n h L) {x y z : Int32} (hx : x < 0 ∨ nI n ≤ x) : aM l D (cTys cI cZ cR cJ) 9 b yX4_wish wsX4_wish rmX4_wish [.ref (b 0), .int x, .int y, .int z] (mv cI cZ b (τ)) (some (.int (nI 0))) (mv cI cZ b (ms1 (ms1 τ 0 (nI 0)) 0 (nI 1))) := by
  obtain ⟨W, h1, hgo, hfe, hfd, hh, hL, hZ⟩ := H.thr (x := nI 0)
  have hn := W.1
  refine aM_of sX4_wish (lv0 := [some (.ref (b 0)), some (.int x), some (.int y), some (.int z), none]) (j := 1) rfl rfl ?_
  intro pM eM sM mM argsM belowM methM cM AM C
  refine aw_aload_n C dX4_wish_0 Lk0 ?_
  refine aw_iconst C dX4_wish_1 (x := nI 0) (by decide) ?_
  refine aw_pX4_thrown C  dX4_wish_2 (by decide +kernel) (by decide +kernel) ?_
  refine aw_aload_n C dX4_wish_5 Lk0 ?_
  refine aw_iload_n C dX4_wish_6 Lk1 ?_
  refine aw_cV1 C dX4_wish_7 gX4_wish_X4_isKeeper sX4_isKeeper (rm := rmX4_isKeeper) rfl recMod (c_X4_isKeeper hn h1) ?_
  rw [isK_f (by omega) hx]
  refine aw_if_eq C dX4_wish_10 (tgt := 35) (by decide) (fun c_10 => ?_) (fun c_10 => absurd (by decide) c_10)
  refine aw_aload_n C dX4_wish_35 Lk0 ?_
  refine aw_iconst C dX4_wish_36 (x := nI 1) (by decide) ?_
  refine aw_cV1 C dX4_wish_37 gX4_wish_X4_fail sX4_fail (rm := rmX4_fail) rfl recMod c_X4_fail ?_
  exact aw_iend C dX4_wish_40 rfl rfl
set_option maxHeartbeats 4000000 in
set_option maxRecDepth 100000 in
theorem f_X4_wish_x {τ : MS} {n : Nat} {h : Nat → Nat} {L : Nat → List Nat} (H : MInv τ n h L) {k : Nat} (hk : k < n) {y z : Int32} (hz : z < 0 ∨ nI n ≤ z) : aM l D (cTys cI cZ cR cJ) 9 b yX4_wish wsX4_wish rmX4_wish [.ref (b 0), .int (nI k), .int y, .int z] (mv cI cZ b (τ)) (some (.int (nI 0))) (mv cI cZ b (ms1 (ms1 τ 0 (nI 0)) 0 (nI 1))) := by
  obtain ⟨W, h1, hgo, hfe, hfd, hh, hL, hZ⟩ := H.thr (x := nI 0)
  have hn := W.1
  refine aM_of sX4_wish (lv0 := [some (.ref (b 0)), some (.int (nI k)), some (.int y), some (.int z), none]) (j := 1) rfl rfl ?_
  intro pM eM sM mM argsM belowM methM cM AM C
  refine aw_aload_n C dX4_wish_0 Lk0 ?_
  refine aw_iconst C dX4_wish_1 (x := nI 0) (by decide) ?_
  refine aw_pX4_thrown C  dX4_wish_2 (by decide +kernel) (by decide +kernel) ?_
  refine aw_aload_n C dX4_wish_5 Lk0 ?_
  refine aw_iload_n C dX4_wish_6 Lk1 ?_
  refine aw_cV1 C dX4_wish_7 gX4_wish_X4_isKeeper sX4_isKeeper (rm := rmX4_isKeeper) rfl recMod (c_X4_isKeeper hn h1) ?_
  rw [isK_t (by omega) hk]
  refine aw_if_eq C dX4_wish_10 (tgt := 35) (by decide) (fun c_10 => absurd c_10 (by decide)) (fun c_10 => ?_)
  refine aw_aload_n C dX4_wish_13 Lk0 ?_
  refine aw_iload_n C dX4_wish_14 Lk3 ?_
  refine aw_cV1 C dX4_wish_15 gX4_wish_X4_isKeeper sX4_isKeeper (rm := rmX4_isKeeper) rfl recMod (c_X4_isKeeper hn h1) ?_
  rw [isK_f (by omega) hz]
  refine aw_if_eq C dX4_wish_18 (tgt := 35) (by decide) (fun c_18 => ?_) (fun c_18 => absurd (by decide) c_18)
  refine aw_aload_n C dX4_wish_35 Lk0 ?_
  refine aw_iconst C dX4_wish_36 (x := nI 1) (by decide) ?_
  refine aw_cV1 C dX4_wish_37 gX4_wish_X4_fail sX4_fail (rm := rmX4_fail) rfl recMod c_X4_fail ?_
  exact aw_iend C dX4_wish_40 rfl rfl
set_option maxHeartbeats 4000000 in
set_option maxRecDepth 100000 in
theorem f_X4_wish_i {τ : MS} {n : Nat} {h : Nat → Nat} {L : Nat → List Nat} (H : MInv τ n h L) {k : Nat} (hk : k < n) {y : Int32} {x : Nat} (hx : x < n) (hy : y < 0 ∨ nI (L k).length < y) : aM l D (cTys cI cZ cR cJ) 9 b yX4_wish wsX4_wish rmX4_wish [.ref (b 0), .int (nI k), .int y, .int (nI x)] (mv cI cZ b (τ)) (some (.int (nI 0))) (mv cI cZ b (ms1 (ms1 τ 0 (nI 0)) 0 (nI 1))) := by
  obtain ⟨W, h1, hgo, hfe, hfd, hh, hL, hZ⟩ := H.thr (x := nI 0)
  have hn := W.1
  obtain ⟨hl, hcell⟩ := hL k hk
  have hlen := W.len hk
  refine aM_of sX4_wish (lv0 := [some (.ref (b 0)), some (.int (nI k)), some (.int y), some (.int (nI x)), none]) (j := 1) rfl rfl ?_
  intro pM eM sM mM argsM belowM methM cM AM C
  refine aw_aload_n C dX4_wish_0 Lk0 ?_
  refine aw_iconst C dX4_wish_1 (x := nI 0) (by decide) ?_
  refine aw_pX4_thrown C  dX4_wish_2 (by decide +kernel) (by decide +kernel) ?_
  refine aw_aload_n C dX4_wish_5 Lk0 ?_
  refine aw_iload_n C dX4_wish_6 Lk1 ?_
  refine aw_cV1 C dX4_wish_7 gX4_wish_X4_isKeeper sX4_isKeeper (rm := rmX4_isKeeper) rfl recMod (c_X4_isKeeper hn h1) ?_
  rw [isK_t (by omega) hk]
  refine aw_if_eq C dX4_wish_10 (tgt := 35) (by decide) (fun c_10 => absurd c_10 (by decide)) (fun c_10 => ?_)
  refine aw_aload_n C dX4_wish_13 Lk0 ?_
  refine aw_iload_n C dX4_wish_14 Lk3 ?_
  refine aw_cV1 C dX4_wish_15 gX4_wish_X4_isKeeper sX4_isKeeper (rm := rmX4_isKeeper) rfl recMod (c_X4_isKeeper hn h1) ?_
  rw [isK_t (by omega) hx]
  refine aw_if_eq C dX4_wish_18 (tgt := 35) (by decide) (fun c_18 => absurd c_18 (by decide)) (fun c_18 => ?_)
  refine aw_iload_n C dX4_wish_21 Lk2 ?_
  refine aw_iconst C dX4_wish_22 (x := nI 0) (by decide) ?_
  refine aw_aload_n C dX4_wish_23 Lk0 ?_
  refine aw_gX4_longs C  dX4_wish_24 (by decide +kernel) (by decide +kernel) ?_
  refine aw_iload_n C dX4_wish_27 Lk1 ?_
  refine aw_ilX4n_2 C dX4_wish_28 (by omega) ?_
  rw [hl]
  refine aw_cS3 C dX4_wish_29 gX4_wish_X4_isIn sX4_isIn (rm := rmX4_isIn) rfl c_X4_isIn ?_
  rw [show inB y (nI 0) (nI (L k).length) = false from hy.elim inB_lo inB_hi]
  refine aw_if_ne C dX4_wish_32 (tgt := 41) (by decide) (fun c_32 => absurd c_32 (by decide)) (fun c_32 => ?_)
  refine aw_aload_n C dX4_wish_35 Lk0 ?_
  refine aw_iconst C dX4_wish_36 (x := nI 1) (by decide) ?_
  refine aw_cV1 C dX4_wish_37 gX4_wish_X4_fail sX4_fail (rm := rmX4_fail) rfl recMod c_X4_fail ?_
  exact aw_iend C dX4_wish_40 rfl rfl
set_option maxHeartbeats 4000000 in
set_option maxRecDepth 100000 in
theorem f_X4_wish_d {τ : MS} {n : Nat} {h : Nat → Nat} {L : Nat → List Nat} (H : MInv τ n h L) {k : Nat} (hk : k < n) {i x : Nat} (hx : x < n) (hi : i ≤ (L k).length) (hN : ¬ newB h L k x) : aM l D (cTys cI cZ cR cJ) 9 b yX4_wish wsX4_wish rmX4_wish [.ref (b 0), .int (nI k), .int (nI i), .int (nI x)] (mv cI cZ b (τ)) (some (.int (nI 0))) (mv cI cZ b (ms1 (ms1 τ 0 (nI 0)) 0 (nI 2))) := by
  obtain ⟨W, h1, hgo, hfe, hfd, hh, hL, hZ⟩ := H.thr (x := nI 0)
  have hn := W.1
  obtain ⟨hl, hcell⟩ := hL k hk
  have hlen := W.len hk
  have hhk := W.2.1 k hk
  refine aM_of sX4_wish (lv0 := [some (.ref (b 0)), some (.int (nI k)), some (.int (nI i)), some (.int (nI x)), none]) (j := 1) rfl rfl ?_
  intro pM eM sM mM argsM belowM methM cM AM C
  refine aw_aload_n C dX4_wish_0 Lk0 ?_
  refine aw_iconst C dX4_wish_1 (x := nI 0) (by decide) ?_
  refine aw_pX4_thrown C  dX4_wish_2 (by decide +kernel) (by decide +kernel) ?_
  refine aw_aload_n C dX4_wish_5 Lk0 ?_
  refine aw_iload_n C dX4_wish_6 Lk1 ?_
  refine aw_cV1 C dX4_wish_7 gX4_wish_X4_isKeeper sX4_isKeeper (rm := rmX4_isKeeper) rfl recMod (c_X4_isKeeper hn h1) ?_
  rw [isK_t (by omega) hk]
  refine aw_if_eq C dX4_wish_10 (tgt := 35) (by decide) (fun c_10 => absurd c_10 (by decide)) (fun c_10 => ?_)
  refine aw_aload_n C dX4_wish_13 Lk0 ?_
  refine aw_iload_n C dX4_wish_14 Lk3 ?_
  refine aw_cV1 C dX4_wish_15 gX4_wish_X4_isKeeper sX4_isKeeper (rm := rmX4_isKeeper) rfl recMod (c_X4_isKeeper hn h1) ?_
  rw [isK_t (by omega) hx]
  refine aw_if_eq C dX4_wish_18 (tgt := 35) (by decide) (fun c_18 => absurd c_18 (by decide)) (fun c_18 => ?_)
  refine aw_iload_n C dX4_wish_21 Lk2 ?_
  refine aw_iconst C dX4_wish_22 (x := nI 0) (by decide) ?_
  refine aw_aload_n C dX4_wish_23 Lk0 ?_
  refine aw_gX4_longs C  dX4_wish_24 (by decide +kernel) (by decide +kernel) ?_
  refine aw_iload_n C dX4_wish_27 Lk1 ?_
  refine aw_ilX4n_2 C dX4_wish_28 (by omega) ?_
  rw [hl]
  refine aw_cS3 C dX4_wish_29 gX4_wish_X4_isIn sX4_isIn (rm := rmX4_isIn) rfl c_X4_isIn ?_
  rw [inB_n hi (by omega)]
  refine aw_if_ne C dX4_wish_32 (tgt := 41) (by decide) (fun c_32 => ?_) (fun c_32 => absurd (by decide) c_32)
  refine aw_aload_n C dX4_wish_41 Lk0 ?_
  refine aw_gX4_has C  dX4_wish_42 (by decide +kernel) (by decide +kernel) ?_
  refine aw_iload_n C dX4_wish_45 Lk1 ?_
  refine aw_ilX4n_1 C dX4_wish_46 (by omega) ?_
  rw [hh k hk]
  refine aw_iload_n C dX4_wish_47 Lk3 ?_
  refine aw_icmp_eq C dX4_wish_48 (tgt := 61) (by decide) (fun c_48 => ?_) (fun c_48 => ?_)
  · skip
    refine aw_aload_n C dX4_wish_61 Lk0 ?_
    refine aw_iconst C dX4_wish_62 (x := nI 2) (by decide) ?_
    refine aw_cV1 C dX4_wish_63 gX4_wish_X4_fail sX4_fail (rm := rmX4_fail) rfl recMod c_X4_fail ?_
    exact aw_iend C dX4_wish_66 rfl rfl
  · skip
    have hxk : ¬ x = h k := fun q => c_48 (congrArg nI q.symm)
    have he : ∃ p, p < (L k).length ∧ (L k).getD p 0 = x := Classical.byContradiction (fun z => hN ⟨hxk, fun p hp q => z ⟨p, hp, q⟩⟩)
    refine aw_aload_n C dX4_wish_51 Lk0 ?_
    refine aw_iload_n C dX4_wish_52 Lk1 ?_
    refine aw_iload_n C dX4_wish_53 Lk3 ?_
    refine aw_cV2 C dX4_wish_54 gX4_wish_X4_placeOf sX4_placeOf (rm := rmX4_placeOf) rfl recMod (c_X4_placeOf (by omega) hl (by omega)) ?_
    rw [rFind_at (h := fun p => (L k).getD p 0) (n := (L k).length) (by omega) (fun p hp => ⟨hcell p hp, by have := ((W.2.2.2 k hk).1 p hp).1; omega⟩) he]
    refine aw_iconst C dX4_wish_57 (x := -1) (by decide) ?_
    refine aw_icmp_eq C dX4_wish_58 (tgt := 67) (by decide) (fun c_58 => absurd c_58 (nI_ne_m1 (by have := (ow_spec he).1; omega))) (fun c_58 => ?_)
    refine aw_aload_n C dX4_wish_61 Lk0 ?_
    refine aw_iconst C dX4_wish_62 (x := nI 2) (by decide) ?_
    refine aw_cV1 C dX4_wish_63 gX4_wish_X4_fail sX4_fail (rm := rmX4_fail) rfl recMod c_X4_fail ?_
    exact aw_iend C dX4_wish_66 rfl rfl
set_option maxHeartbeats 4000000 in
set_option maxRecDepth 100000 in
theorem c_X4_drop {τ : MS} {n : Nat} {h : Nat → Nat} {L : Nat → List Nat} (H : MInv τ n h L) {k : Nat} (hk : k < n) {i : Nat} (hi : i < (L k).length) : aM l D (cTys cI cZ cR cJ) 9 b yX4_drop wsX4_drop rmX4_drop [.ref (b 0), .int (nI k), .int (nI i)] (mv cI cZ b (τ)) (some (.int (nI ((L k).getD i 0)))) (mv cI cZ b (ms3 (ms2 (ms1 τ 0 (nI 0)) 2 k (nI ((L k).length - 1))) 3 (skF ((ms1 τ 0 (nI 0)).2 3) (10 * k + i) (10 * k + ((L k).length - 1))))) := by
  obtain ⟨W, h1, hgo, hfe, hfd, hh, hL, hZ⟩ := H.thr (x := nI 0)
  have hn := W.1
  obtain ⟨hl, hcell⟩ := hL k hk
  have hlen := W.len hk
  refine aM_of sX4_drop (lv0 := [some (.ref (b 0)), some (.int (nI k)), some (.int (nI i)), none, none]) (j := 2) rfl rfl ?_
  intro pM eM sM mM argsM belowM methM cM AM C
  refine aw_aload_n C dX4_drop_0 Lk0 ?_
  refine aw_iconst C dX4_drop_1 (x := nI 0) (by decide) ?_
  refine aw_pX4_thrown C  dX4_drop_2 (by decide +kernel) (by decide +kernel) ?_
  refine aw_aload_n C dX4_drop_5 Lk0 ?_
  refine aw_iload_n C dX4_drop_6 Lk1 ?_
  refine aw_cV1 C dX4_drop_7 gX4_drop_X4_isKeeper sX4_isKeeper (rm := rmX4_isKeeper) rfl recMod (c_X4_isKeeper hn h1) ?_
  rw [isK_t (by omega) hk]
  refine aw_if_eq C dX4_drop_10 (tgt := 29) (by decide) (fun c_10 => absurd c_10 (by decide)) (fun c_10 => ?_)
  refine aw_iload_n C dX4_drop_13 Lk2 ?_
  refine aw_iconst C dX4_drop_14 (x := nI 0) (by decide) ?_
  refine aw_aload_n C dX4_drop_15 Lk0 ?_
  refine aw_gX4_longs C  dX4_drop_16 (by decide +kernel) (by decide +kernel) ?_
  refine aw_iload_n C dX4_drop_19 Lk1 ?_
  refine aw_ilX4n_2 C dX4_drop_20 (by omega) ?_
  rw [hl]
  refine aw_iconst C dX4_drop_21 (x := nI 1) (by decide) ?_
  refine aw_isub C dX4_drop_22 ?_
  refine aw_cS3 C dX4_drop_23 gX4_drop_X4_isIn sX4_isIn (rm := rmX4_isIn) rfl c_X4_isIn ?_
  rw [isK_t (by omega) hi]
  refine aw_if_ne C dX4_drop_26 (tgt := 35) (by decide) (fun c_26 => ?_) (fun c_26 => absurd (by decide) c_26)
  refine aw_aload_n C dX4_drop_35 Lk0 ?_
  refine aw_iload_n C dX4_drop_36 Lk1 ?_
  refine aw_iload_n C dX4_drop_37 Lk2 ?_
  refine aw_cV2 C dX4_drop_38 gX4_drop_X4_li sX4_li (rm := rmX4_li) rfl recMod (c_X4_li (by omega)) ?_
  rw [hcell i hi]
  refine aw_istore_n C dX4_drop_41 St3 rfl ?_
  refine aw_aload_n C dX4_drop_42 Lk0 ?_
  refine aw_gX4_longs C  dX4_drop_43 (by decide +kernel) (by decide +kernel) ?_
  refine aw_iload_n C dX4_drop_46 Lk1 ?_
  refine aw_dup2 C dX4_drop_47 rfl rfl ?_
  refine aw_ilX4n_2 C dX4_drop_48 (by omega) ?_
  rw [hl]
  refine aw_iconst C dX4_drop_49 (x := nI 1) (by decide) ?_
  refine aw_isub C dX4_drop_50 ?_
  rw [pk_sub (by omega)]
  refine aw_isX4n_2 C dX4_drop_51 (by omega) ?_
  refine aw_iload_n C dX4_drop_52 Lk2 ?_
  refine aw_istore C dX4_drop_53 St4 rfl ?_
  have hl_55 : ∀ (j q : Nat) (hj : q + j = (L k).length - 1) (hq : i ≤ q), aW pM l eM rmX4_drop sM mM argsM belowM methM cM (MQ belowM (aQ D 9 b (mv cI cZ b (ms3 (ms2 (ms1 τ 0 (nI 0)) 2 k (nI ((L k).length - 1))) 3 (skF ((ms1 τ 0 (nI 0)).2 3) (10 * k + i) (10 * k + ((L k).length - 1))))) (some (.int (nI ((L k).getD i 0)))) AM) argsM sM 0 0 AM) D AM 0 0 9 b (mv cI cZ b (ms3 (ms2 (ms1 τ 0 (nI 0)) 2 k (nI ((L k).length - 1))) 3 (skF ((ms1 τ 0 (nI 0)).2 3) (10 * k + i) (10 * k + (q))))) 55 [some (.ref (b 0)), some (.int (nI k)), some (.int (nI i)), some (.int (nI ((L k).getD i 0))), some (.int (nI q))] [] := by
    intro j
    induction j with
    | zero =>
      intro q hj hq
      have hin : q = (L k).length - 1 := by omega
      rw [hin]
      refine aw_iload C dX4_drop_55 Lk4 ?_
      refine aw_aload_n C dX4_drop_57 Lk0 ?_
      refine aw_gX4_longs C  dX4_drop_58 (by decide +kernel) (by decide +kernel) ?_
      refine aw_iload_n C dX4_drop_61 Lk1 ?_
      refine aw_ilX4n_2 C dX4_drop_62 (by omega) ?_
      rw [ms3_n (by decide), ms2_at]
      refine aw_icmp_ge C dX4_drop_63 (tgt := 93) (by decide) (fun c_63 => ?_) (fun c_63 => absurd (nI_le (by omega) (by omega)) c_63)
      refine aw_iload_n C dX4_drop_93 Lk3 ?_
      exact aw_iend C dX4_drop_94 rfl rfl
    | succ j ih =>
      intro q hj hq
      refine aw_iload C dX4_drop_55 Lk4 ?_
      refine aw_aload_n C dX4_drop_57 Lk0 ?_
      refine aw_gX4_longs C  dX4_drop_58 (by decide +kernel) (by decide +kernel) ?_
      refine aw_iload_n C dX4_drop_61 Lk1 ?_
      refine aw_ilX4n_2 C dX4_drop_62 (by omega) ?_
      rw [ms3_n (by decide), ms2_at]
      refine aw_icmp_ge C dX4_drop_63 (tgt := 93) (by decide) (fun c_63 => absurd c_63 (nI_ge (by omega) (by omega))) (fun c_63 => ?_)
      refine aw_aload_n C dX4_drop_66 Lk0 ?_
      refine aw_gX4_lists C  dX4_drop_67 (by decide +kernel) (by decide +kernel) ?_
      refine aw_bipush C dX4_drop_70 (x := nI 10) (by decide) ?_
      refine aw_iload_n C dX4_drop_72 Lk1 ?_
      refine aw_imul C dX4_drop_73 ?_
      rw [pk_mul]
      refine aw_iload C dX4_drop_74 Lk4 ?_
      refine aw_iadd C dX4_drop_76 ?_
      rw [nI_add]
      refine aw_aload_n C dX4_drop_77 Lk0 ?_
      refine aw_iload_n C dX4_drop_78 Lk1 ?_
      refine aw_iload C dX4_drop_79 Lk4 ?_
      refine aw_iconst C dX4_drop_81 (x := nI 1) (by decide) ?_
      refine aw_iadd C dX4_drop_82 ?_
      rw [nI_add]
      refine aw_cV2 C dX4_drop_83 gX4_drop_X4_li sX4_li (rm := rmX4_li) rfl recMod (c_X4_li (by omega)) ?_
      rw [show liF (ms3 (ms2 (ms1 τ 0 (nI 0)) 2 k (nI ((L k).length - 1))) 3 (skF ((ms1 τ 0 (nI 0)).2 3) (10 * k + i) (10 * k + (q)))) k (q + 1) = (ms1 τ 0 (nI 0)).2 3 (10 * k + q + 1) from skF_at]
      refine aw_isX4n_3 C dX4_drop_86 (by omega) ?_
      rw [ms3_s, skF_step (by omega)]
      refine aw_iinc C dX4_drop_87 Lk4 (nI_1 _) St4 rfl ?_
      refine aw_goto C dX4_drop_90 (tgt := 55) (by decide) ?_
      exact ih (q + 1) (by omega) (by omega)
  have hq := hl_55 ((L k).length - 1 - i) i (by omega) (Nat.le_refl i)
  rw [skF_0] at hq
  rw [show ms3 (ms2 (ms1 τ 0 (nI 0)) 2 k (nI ((L k).length - 1))) 3 ((ms1 τ 0 (nI 0)).2 3) = ms2 (ms1 τ 0 (nI 0)) 2 k (nI ((L k).length - 1)) from ms3_self] at hq
  exact hq
set_option maxHeartbeats 4000000 in
set_option maxRecDepth 100000 in
theorem f_X4_drop_k {τ : MS} {n : Nat} {h : Nat → Nat} {L : Nat → List Nat} (H : MInv τ n h L) {x y : Int32} (hx : x < 0 ∨ nI n ≤ x) : aM l D (cTys cI cZ cR cJ) 9 b yX4_drop wsX4_drop rmX4_drop [.ref (b 0), .int x, .int y] (mv cI cZ b (τ)) (some (.int (nI 0))) (mv cI cZ b (ms1 (ms1 τ 0 (nI 0)) 0 (nI 1))) := by
  obtain ⟨W, h1, hgo, hfe, hfd, hh, hL, hZ⟩ := H.thr (x := nI 0)
  have hn := W.1
  refine aM_of sX4_drop (lv0 := [some (.ref (b 0)), some (.int x), some (.int y), none, none]) (j := 2) rfl rfl ?_
  intro pM eM sM mM argsM belowM methM cM AM C
  refine aw_aload_n C dX4_drop_0 Lk0 ?_
  refine aw_iconst C dX4_drop_1 (x := nI 0) (by decide) ?_
  refine aw_pX4_thrown C  dX4_drop_2 (by decide +kernel) (by decide +kernel) ?_
  refine aw_aload_n C dX4_drop_5 Lk0 ?_
  refine aw_iload_n C dX4_drop_6 Lk1 ?_
  refine aw_cV1 C dX4_drop_7 gX4_drop_X4_isKeeper sX4_isKeeper (rm := rmX4_isKeeper) rfl recMod (c_X4_isKeeper hn h1) ?_
  rw [isK_f (by omega) hx]
  refine aw_if_eq C dX4_drop_10 (tgt := 29) (by decide) (fun c_10 => ?_) (fun c_10 => absurd (by decide) c_10)
  refine aw_aload_n C dX4_drop_29 Lk0 ?_
  refine aw_iconst C dX4_drop_30 (x := nI 1) (by decide) ?_
  refine aw_cV1 C dX4_drop_31 gX4_drop_X4_fail sX4_fail (rm := rmX4_fail) rfl recMod c_X4_fail ?_
  exact aw_iend C dX4_drop_34 rfl rfl
set_option maxHeartbeats 4000000 in
set_option maxRecDepth 100000 in
theorem f_X4_drop_i {τ : MS} {n : Nat} {h : Nat → Nat} {L : Nat → List Nat} (H : MInv τ n h L) {k : Nat} (hk : k < n) {y : Int32} (hy : y < 0 ∨ nI (L k).length ≤ y) : aM l D (cTys cI cZ cR cJ) 9 b yX4_drop wsX4_drop rmX4_drop [.ref (b 0), .int (nI k), .int y] (mv cI cZ b (τ)) (some (.int (nI 0))) (mv cI cZ b (ms1 (ms1 τ 0 (nI 0)) 0 (nI 1))) := by
  obtain ⟨W, h1, hgo, hfe, hfd, hh, hL, hZ⟩ := H.thr (x := nI 0)
  have hn := W.1
  obtain ⟨hl, hcell⟩ := hL k hk
  have hlen := W.len hk
  refine aM_of sX4_drop (lv0 := [some (.ref (b 0)), some (.int (nI k)), some (.int y), none, none]) (j := 2) rfl rfl ?_
  intro pM eM sM mM argsM belowM methM cM AM C
  refine aw_aload_n C dX4_drop_0 Lk0 ?_
  refine aw_iconst C dX4_drop_1 (x := nI 0) (by decide) ?_
  refine aw_pX4_thrown C  dX4_drop_2 (by decide +kernel) (by decide +kernel) ?_
  refine aw_aload_n C dX4_drop_5 Lk0 ?_
  refine aw_iload_n C dX4_drop_6 Lk1 ?_
  refine aw_cV1 C dX4_drop_7 gX4_drop_X4_isKeeper sX4_isKeeper (rm := rmX4_isKeeper) rfl recMod (c_X4_isKeeper hn h1) ?_
  rw [isK_t (by omega) hk]
  refine aw_if_eq C dX4_drop_10 (tgt := 29) (by decide) (fun c_10 => absurd c_10 (by decide)) (fun c_10 => ?_)
  refine aw_iload_n C dX4_drop_13 Lk2 ?_
  refine aw_iconst C dX4_drop_14 (x := nI 0) (by decide) ?_
  refine aw_aload_n C dX4_drop_15 Lk0 ?_
  refine aw_gX4_longs C  dX4_drop_16 (by decide +kernel) (by decide +kernel) ?_
  refine aw_iload_n C dX4_drop_19 Lk1 ?_
  refine aw_ilX4n_2 C dX4_drop_20 (by omega) ?_
  rw [hl]
  refine aw_iconst C dX4_drop_21 (x := nI 1) (by decide) ?_
  refine aw_isub C dX4_drop_22 ?_
  refine aw_cS3 C dX4_drop_23 gX4_drop_X4_isIn sX4_isIn (rm := rmX4_isIn) rfl c_X4_isIn ?_
  rw [isK_f (by omega) hy]
  refine aw_if_ne C dX4_drop_26 (tgt := 35) (by decide) (fun c_26 => absurd c_26 (by decide)) (fun c_26 => ?_)
  refine aw_aload_n C dX4_drop_29 Lk0 ?_
  refine aw_iconst C dX4_drop_30 (x := nI 1) (by decide) ?_
  refine aw_cV1 C dX4_drop_31 gX4_drop_X4_fail sX4_fail (rm := rmX4_fail) rfl recMod c_X4_fail ?_
  exact aw_iend C dX4_drop_34 rfl rfl
set_option maxHeartbeats 4000000 in
set_option maxRecDepth 100000 in
theorem c_X4_list {τ : MS} {n : Nat} {h : Nat → Nat} {L : Nat → List Nat} (H : MInv τ n h L) {k : Nat} (hk : k < n) {i : Nat} (hi : i < (L k).length) : aM l D (cTys cI cZ cR cJ) 9 b yX4_list wsX4_list rmX4_list [.ref (b 0), .int (nI k), .int (nI i)] (mv cI cZ b (τ)) (some (.int (nI ((L k).getD i 0)))) (mv cI cZ b ((ms1 τ 0 (nI 0)))) := by
  obtain ⟨W, h1, hgo, hfe, hfd, hh, hL, hZ⟩ := H.thr (x := nI 0)
  have hn := W.1
  obtain ⟨hl, hcell⟩ := hL k hk
  have hlen := W.len hk
  refine aM_of sX4_list (lv0 := [some (.ref (b 0)), some (.int (nI k)), some (.int (nI i))]) (j := 0) rfl rfl ?_
  intro pM eM sM mM argsM belowM methM cM AM C
  refine aw_aload_n C dX4_list_0 Lk0 ?_
  refine aw_iconst C dX4_list_1 (x := nI 0) (by decide) ?_
  refine aw_pX4_thrown C  dX4_list_2 (by decide +kernel) (by decide +kernel) ?_
  refine aw_aload_n C dX4_list_5 Lk0 ?_
  refine aw_iload_n C dX4_list_6 Lk1 ?_
  refine aw_cV1 C dX4_list_7 gX4_list_X4_isKeeper sX4_isKeeper (rm := rmX4_isKeeper) rfl recMod (c_X4_isKeeper hn h1) ?_
  rw [isK_t (by omega) hk]
  refine aw_if_eq C dX4_list_10 (tgt := 38) (by decide) (fun c_10 => absurd c_10 (by decide)) (fun c_10 => ?_)
  refine aw_iload_n C dX4_list_13 Lk2 ?_
  refine aw_iconst C dX4_list_14 (x := nI 0) (by decide) ?_
  refine aw_aload_n C dX4_list_15 Lk0 ?_
  refine aw_gX4_longs C  dX4_list_16 (by decide +kernel) (by decide +kernel) ?_
  refine aw_iload_n C dX4_list_19 Lk1 ?_
  refine aw_ilX4n_2 C dX4_list_20 (by omega) ?_
  rw [hl]
  refine aw_iconst C dX4_list_21 (x := nI 1) (by decide) ?_
  refine aw_isub C dX4_list_22 ?_
  refine aw_cS3 C dX4_list_23 gX4_list_X4_isIn sX4_isIn (rm := rmX4_isIn) rfl c_X4_isIn ?_
  rw [isK_t (by omega) hi]
  refine aw_if_eq C dX4_list_26 (tgt := 38) (by decide) (fun c_26 => absurd c_26 (by decide)) (fun c_26 => ?_)
  refine aw_aload_n C dX4_list_29 Lk0 ?_
  refine aw_iload_n C dX4_list_30 Lk1 ?_
  refine aw_iload_n C dX4_list_31 Lk2 ?_
  refine aw_cV2 C dX4_list_32 gX4_list_X4_li sX4_li (rm := rmX4_li) rfl recMod (c_X4_li (by omega)) ?_
  rw [hcell i hi]
  refine aw_goto C dX4_list_35 (tgt := 43) (by decide) ?_
  exact aw_iend C dX4_list_43 rfl rfl
set_option maxHeartbeats 4000000 in
set_option maxRecDepth 100000 in
theorem f_X4_list_k {τ : MS} {n : Nat} {h : Nat → Nat} {L : Nat → List Nat} (H : MInv τ n h L) {x y : Int32} (hx : x < 0 ∨ nI n ≤ x) : aM l D (cTys cI cZ cR cJ) 9 b yX4_list wsX4_list rmX4_list [.ref (b 0), .int x, .int y] (mv cI cZ b (τ)) (some (.int (nI 0))) (mv cI cZ b (ms1 (ms1 τ 0 (nI 0)) 0 (nI 1))) := by
  obtain ⟨W, h1, hgo, hfe, hfd, hh, hL, hZ⟩ := H.thr (x := nI 0)
  have hn := W.1
  refine aM_of sX4_list (lv0 := [some (.ref (b 0)), some (.int x), some (.int y)]) (j := 0) rfl rfl ?_
  intro pM eM sM mM argsM belowM methM cM AM C
  refine aw_aload_n C dX4_list_0 Lk0 ?_
  refine aw_iconst C dX4_list_1 (x := nI 0) (by decide) ?_
  refine aw_pX4_thrown C  dX4_list_2 (by decide +kernel) (by decide +kernel) ?_
  refine aw_aload_n C dX4_list_5 Lk0 ?_
  refine aw_iload_n C dX4_list_6 Lk1 ?_
  refine aw_cV1 C dX4_list_7 gX4_list_X4_isKeeper sX4_isKeeper (rm := rmX4_isKeeper) rfl recMod (c_X4_isKeeper hn h1) ?_
  rw [isK_f (by omega) hx]
  refine aw_if_eq C dX4_list_10 (tgt := 38) (by decide) (fun c_10 => ?_) (fun c_10 => absurd (by decide) c_10)
  refine aw_aload_n C dX4_list_38 Lk0 ?_
  refine aw_iconst C dX4_list_39 (x := nI 1) (by decide) ?_
  refine aw_cV1 C dX4_list_40 gX4_list_X4_fail sX4_fail (rm := rmX4_fail) rfl recMod c_X4_fail ?_
  exact aw_iend C dX4_list_43 rfl rfl
set_option maxHeartbeats 4000000 in
set_option maxRecDepth 100000 in
theorem f_X4_list_i {τ : MS} {n : Nat} {h : Nat → Nat} {L : Nat → List Nat} (H : MInv τ n h L) {k : Nat} (hk : k < n) {y : Int32} (hy : y < 0 ∨ nI (L k).length ≤ y) : aM l D (cTys cI cZ cR cJ) 9 b yX4_list wsX4_list rmX4_list [.ref (b 0), .int (nI k), .int y] (mv cI cZ b (τ)) (some (.int (nI 0))) (mv cI cZ b (ms1 (ms1 τ 0 (nI 0)) 0 (nI 1))) := by
  obtain ⟨W, h1, hgo, hfe, hfd, hh, hL, hZ⟩ := H.thr (x := nI 0)
  have hn := W.1
  obtain ⟨hl, hcell⟩ := hL k hk
  have hlen := W.len hk
  refine aM_of sX4_list (lv0 := [some (.ref (b 0)), some (.int (nI k)), some (.int y)]) (j := 0) rfl rfl ?_
  intro pM eM sM mM argsM belowM methM cM AM C
  refine aw_aload_n C dX4_list_0 Lk0 ?_
  refine aw_iconst C dX4_list_1 (x := nI 0) (by decide) ?_
  refine aw_pX4_thrown C  dX4_list_2 (by decide +kernel) (by decide +kernel) ?_
  refine aw_aload_n C dX4_list_5 Lk0 ?_
  refine aw_iload_n C dX4_list_6 Lk1 ?_
  refine aw_cV1 C dX4_list_7 gX4_list_X4_isKeeper sX4_isKeeper (rm := rmX4_isKeeper) rfl recMod (c_X4_isKeeper hn h1) ?_
  rw [isK_t (by omega) hk]
  refine aw_if_eq C dX4_list_10 (tgt := 38) (by decide) (fun c_10 => absurd c_10 (by decide)) (fun c_10 => ?_)
  refine aw_iload_n C dX4_list_13 Lk2 ?_
  refine aw_iconst C dX4_list_14 (x := nI 0) (by decide) ?_
  refine aw_aload_n C dX4_list_15 Lk0 ?_
  refine aw_gX4_longs C  dX4_list_16 (by decide +kernel) (by decide +kernel) ?_
  refine aw_iload_n C dX4_list_19 Lk1 ?_
  refine aw_ilX4n_2 C dX4_list_20 (by omega) ?_
  rw [hl]
  refine aw_iconst C dX4_list_21 (x := nI 1) (by decide) ?_
  refine aw_isub C dX4_list_22 ?_
  refine aw_cS3 C dX4_list_23 gX4_list_X4_isIn sX4_isIn (rm := rmX4_isIn) rfl c_X4_isIn ?_
  rw [isK_f (by omega) hy]
  refine aw_if_eq C dX4_list_26 (tgt := 38) (by decide) (fun c_26 => ?_) (fun c_26 => absurd (by decide) c_26)
  refine aw_aload_n C dX4_list_38 Lk0 ?_
  refine aw_iconst C dX4_list_39 (x := nI 1) (by decide) ?_
  refine aw_cV1 C dX4_list_40 gX4_list_X4_fail sX4_fail (rm := rmX4_fail) rfl recMod c_X4_fail ?_
  exact aw_iend C dX4_list_43 rfl rfl
set_option maxHeartbeats 4000000 in
set_option maxRecDepth 100000 in
theorem c_X4_rank {τ : MS} {n : Nat} {h : Nat → Nat} {L : Nat → List Nat} (H : MInv τ n h L) {k : Nat} (hk : k < n) {x : Nat} (hx : x < n) : aM l D (cTys cI cZ cR cJ) 9 b yX4_rank wsX4_rank rmX4_rank [.ref (b 0), .int (nI k), .int (nI x)] (mv cI cZ b (τ)) (some (.int (rkP h L k (nI x)))) (mv cI cZ b ((ms1 τ 0 (nI 0)))) := by
  obtain ⟨W, h1, hgo, hfe, hfd, hh, hL, hZ⟩ := H.thr (x := nI 0)
  have hn := W.1
  refine aM_of sX4_rank (lv0 := [some (.ref (b 0)), some (.int (nI k)), some (.int (nI x))]) (j := 0) rfl rfl ?_
  intro pM eM sM mM argsM belowM methM cM AM C
  refine aw_aload_n C dX4_rank_0 Lk0 ?_
  refine aw_iconst C dX4_rank_1 (x := nI 0) (by decide) ?_
  refine aw_pX4_thrown C  dX4_rank_2 (by decide +kernel) (by decide +kernel) ?_
  refine aw_aload_n C dX4_rank_5 Lk0 ?_
  refine aw_iload_n C dX4_rank_6 Lk1 ?_
  refine aw_cV1 C dX4_rank_7 gX4_rank_X4_isKeeper sX4_isKeeper (rm := rmX4_isKeeper) rfl recMod (c_X4_isKeeper hn h1) ?_
  rw [isK_t (by omega) hk]
  refine aw_if_eq C dX4_rank_10 (tgt := 30) (by decide) (fun c_10 => absurd c_10 (by decide)) (fun c_10 => ?_)
  refine aw_aload_n C dX4_rank_13 Lk0 ?_
  refine aw_iload_n C dX4_rank_14 Lk2 ?_
  refine aw_cV1 C dX4_rank_15 gX4_rank_X4_isKeeper sX4_isKeeper (rm := rmX4_isKeeper) rfl recMod (c_X4_isKeeper hn h1) ?_
  rw [isK_t (by omega) hx]
  refine aw_if_eq C dX4_rank_18 (tgt := 30) (by decide) (fun c_18 => absurd c_18 (by decide)) (fun c_18 => ?_)
  refine aw_aload_n C dX4_rank_21 Lk0 ?_
  refine aw_iload_n C dX4_rank_22 Lk1 ?_
  refine aw_iload_n C dX4_rank_23 Lk2 ?_
  refine aw_cV2 C dX4_rank_24 gX4_rank_X4_rankOf sX4_rankOf (rm := rmX4_rankOf) rfl recMod (c_X4_rankP (H.thr (x := nI 0)) hk) ?_
  refine aw_goto C dX4_rank_27 (tgt := 35) (by decide) ?_
  exact aw_iend C dX4_rank_35 rfl rfl
set_option maxHeartbeats 4000000 in
set_option maxRecDepth 100000 in
theorem f_X4_rank_k {τ : MS} {n : Nat} {h : Nat → Nat} {L : Nat → List Nat} (H : MInv τ n h L) {x y : Int32} (hx : x < 0 ∨ nI n ≤ x) : aM l D (cTys cI cZ cR cJ) 9 b yX4_rank wsX4_rank rmX4_rank [.ref (b 0), .int x, .int y] (mv cI cZ b (τ)) (some (.int (nI 0))) (mv cI cZ b (ms1 (ms1 τ 0 (nI 0)) 0 (nI 1))) := by
  obtain ⟨W, h1, hgo, hfe, hfd, hh, hL, hZ⟩ := H.thr (x := nI 0)
  have hn := W.1
  refine aM_of sX4_rank (lv0 := [some (.ref (b 0)), some (.int x), some (.int y)]) (j := 0) rfl rfl ?_
  intro pM eM sM mM argsM belowM methM cM AM C
  refine aw_aload_n C dX4_rank_0 Lk0 ?_
  refine aw_iconst C dX4_rank_1 (x := nI 0) (by decide) ?_
  refine aw_pX4_thrown C  dX4_rank_2 (by decide +kernel) (by decide +kernel) ?_
  refine aw_aload_n C dX4_rank_5 Lk0 ?_
  refine aw_iload_n C dX4_rank_6 Lk1 ?_
  refine aw_cV1 C dX4_rank_7 gX4_rank_X4_isKeeper sX4_isKeeper (rm := rmX4_isKeeper) rfl recMod (c_X4_isKeeper hn h1) ?_
  rw [isK_f (by omega) hx]
  refine aw_if_eq C dX4_rank_10 (tgt := 30) (by decide) (fun c_10 => ?_) (fun c_10 => absurd (by decide) c_10)
  refine aw_aload_n C dX4_rank_30 Lk0 ?_
  refine aw_iconst C dX4_rank_31 (x := nI 1) (by decide) ?_
  refine aw_cV1 C dX4_rank_32 gX4_rank_X4_fail sX4_fail (rm := rmX4_fail) rfl recMod c_X4_fail ?_
  exact aw_iend C dX4_rank_35 rfl rfl
set_option maxHeartbeats 4000000 in
set_option maxRecDepth 100000 in
theorem f_X4_rank_x {τ : MS} {n : Nat} {h : Nat → Nat} {L : Nat → List Nat} (H : MInv τ n h L) {k : Nat} (hk : k < n) {y : Int32} (hy : y < 0 ∨ nI n ≤ y) : aM l D (cTys cI cZ cR cJ) 9 b yX4_rank wsX4_rank rmX4_rank [.ref (b 0), .int (nI k), .int y] (mv cI cZ b (τ)) (some (.int (nI 0))) (mv cI cZ b (ms1 (ms1 τ 0 (nI 0)) 0 (nI 1))) := by
  obtain ⟨W, h1, hgo, hfe, hfd, hh, hL, hZ⟩ := H.thr (x := nI 0)
  have hn := W.1
  refine aM_of sX4_rank (lv0 := [some (.ref (b 0)), some (.int (nI k)), some (.int y)]) (j := 0) rfl rfl ?_
  intro pM eM sM mM argsM belowM methM cM AM C
  refine aw_aload_n C dX4_rank_0 Lk0 ?_
  refine aw_iconst C dX4_rank_1 (x := nI 0) (by decide) ?_
  refine aw_pX4_thrown C  dX4_rank_2 (by decide +kernel) (by decide +kernel) ?_
  refine aw_aload_n C dX4_rank_5 Lk0 ?_
  refine aw_iload_n C dX4_rank_6 Lk1 ?_
  refine aw_cV1 C dX4_rank_7 gX4_rank_X4_isKeeper sX4_isKeeper (rm := rmX4_isKeeper) rfl recMod (c_X4_isKeeper hn h1) ?_
  rw [isK_t (by omega) hk]
  refine aw_if_eq C dX4_rank_10 (tgt := 30) (by decide) (fun c_10 => absurd c_10 (by decide)) (fun c_10 => ?_)
  refine aw_aload_n C dX4_rank_13 Lk0 ?_
  refine aw_iload_n C dX4_rank_14 Lk2 ?_
  refine aw_cV1 C dX4_rank_15 gX4_rank_X4_isKeeper sX4_isKeeper (rm := rmX4_isKeeper) rfl recMod (c_X4_isKeeper hn h1) ?_
  rw [isK_f (by omega) hy]
  refine aw_if_eq C dX4_rank_18 (tgt := 30) (by decide) (fun c_18 => ?_) (fun c_18 => absurd (by decide) c_18)
  refine aw_aload_n C dX4_rank_30 Lk0 ?_
  refine aw_iconst C dX4_rank_31 (x := nI 1) (by decide) ?_
  refine aw_cV1 C dX4_rank_32 gX4_rank_X4_fail sX4_fail (rm := rmX4_fail) rfl recMod c_X4_fail ?_
  exact aw_iend C dX4_rank_35 rfl rfl
set_option maxHeartbeats 4000000 in
set_option maxRecDepth 100000 in
theorem c_X4_toldOf_0 {τ : MS} {n : Nat} {h : Nat → Nat} {L : Nat → List Nat} (S : SInv τ n h L) {k : Nat} (hk : k < n) : aM l D (cTys cI cZ cR cJ) 9 b yX4_toldOf wsX4_toldOf rmX4_toldOf [.ref (b 0), .int (nI k), .int (nI 0)] (mv cI cZ b (τ)) (some (.int (toP n h L k 0))) (mv cI cZ b (τ)) := by
  obtain ⟨H, hS, hs10, hs11, hs12⟩ := S
  obtain ⟨W, h1, hgo, hfe, hfd, hh, hL, hZ⟩ := id H
  have hn := W.1
  obtain ⟨hl, hcell⟩ := hL k hk
  obtain ⟨hsg, hsd, hsz⟩ := hS k hk
  refine aM_of sX4_toldOf (lv0 := [some (.ref (b 0)), some (.int (nI k)), some (.int (nI 0))]) (j := 0) rfl rfl ?_
  intro pM eM sM mM argsM belowM methM cM AM C
  refine aw_iload_n C dX4_toldOf_0 Lk2 ?_
  refine aw_tableIn C dX4_toldOf_1 (tgt := 36) (by decide) (by decide) (off := 35) (by decide) (by decide) ?_
  refine aw_aload_n C dX4_toldOf_36 Lk0 ?_
  refine aw_gX4_has C  dX4_toldOf_37 (by decide +kernel) (by decide +kernel) ?_
  refine aw_iload_n C dX4_toldOf_40 Lk1 ?_
  refine aw_ilX4n_1 C dX4_toldOf_41 (by omega) ?_
  rw [hh k hk]
  exact aw_iend C dX4_toldOf_42 rfl rfl
set_option maxHeartbeats 4000000 in
set_option maxRecDepth 100000 in
theorem c_X4_toldOf_1 {τ : MS} {n : Nat} {h : Nat → Nat} {L : Nat → List Nat} (S : SInv τ n h L) {k : Nat} (hk : k < n) : aM l D (cTys cI cZ cR cJ) 9 b yX4_toldOf wsX4_toldOf rmX4_toldOf [.ref (b 0), .int (nI k), .int (nI 1)] (mv cI cZ b (τ)) (some (.int (toP n h L k 1))) (mv cI cZ b (τ)) := by
  obtain ⟨H, hS, hs10, hs11, hs12⟩ := S
  obtain ⟨W, h1, hgo, hfe, hfd, hh, hL, hZ⟩ := id H
  have hn := W.1
  obtain ⟨hl, hcell⟩ := hL k hk
  obtain ⟨hsg, hsd, hsz⟩ := hS k hk
  refine aM_of sX4_toldOf (lv0 := [some (.ref (b 0)), some (.int (nI k)), some (.int (nI 1))]) (j := 0) rfl rfl ?_
  intro pM eM sM mM argsM belowM methM cM AM C
  refine aw_iload_n C dX4_toldOf_0 Lk2 ?_
  refine aw_tableIn C dX4_toldOf_1 (tgt := 43) (by decide) (by decide) (off := 42) (by decide) (by decide) ?_
  refine aw_aload_n C dX4_toldOf_43 Lk0 ?_
  refine aw_gX4_longs C  dX4_toldOf_44 (by decide +kernel) (by decide +kernel) ?_
  refine aw_iload_n C dX4_toldOf_47 Lk1 ?_
  refine aw_ilX4n_2 C dX4_toldOf_48 (by omega) ?_
  rw [hl]
  exact aw_iend C dX4_toldOf_49 rfl rfl
set_option maxHeartbeats 4000000 in
set_option maxRecDepth 100000 in
theorem c_X4_toldOf_2 {τ : MS} {n : Nat} {h : Nat → Nat} {L : Nat → List Nat} (S : SInv τ n h L) {k : Nat} (hk : k < n) : aM l D (cTys cI cZ cR cJ) 9 b yX4_toldOf wsX4_toldOf rmX4_toldOf [.ref (b 0), .int (nI k), .int (nI 2)] (mv cI cZ b (τ)) (some (.int (toP n h L k 2))) (mv cI cZ b (τ)) := by
  obtain ⟨H, hS, hs10, hs11, hs12⟩ := S
  obtain ⟨W, h1, hgo, hfe, hfd, hh, hL, hZ⟩ := id H
  have hn := W.1
  obtain ⟨hl, hcell⟩ := hL k hk
  obtain ⟨hsg, hsd, hsz⟩ := hS k hk
  refine aM_of sX4_toldOf (lv0 := [some (.ref (b 0)), some (.int (nI k)), some (.int (nI 2))]) (j := 0) rfl rfl ?_
  intro pM eM sM mM argsM belowM methM cM AM C
  refine aw_iload_n C dX4_toldOf_0 Lk2 ?_
  refine aw_tableIn C dX4_toldOf_1 (tgt := 50) (by decide) (by decide) (off := 49) (by decide) (by decide) ?_
  refine aw_aload_n C dX4_toldOf_50 Lk0 ?_
  refine aw_gX4_gets C  dX4_toldOf_51 (by decide +kernel) (by decide +kernel) ?_
  refine aw_iload_n C dX4_toldOf_54 Lk1 ?_
  refine aw_ilX4n_4 C dX4_toldOf_55 (by omega) ?_
  rw [hsg]
  exact aw_iend C dX4_toldOf_56 rfl rfl
set_option maxHeartbeats 4000000 in
set_option maxRecDepth 100000 in
theorem c_X4_toldOf_3 {τ : MS} {n : Nat} {h : Nat → Nat} {L : Nat → List Nat} (S : SInv τ n h L) {k : Nat} (hk : k < n) : aM l D (cTys cI cZ cR cJ) 9 b yX4_toldOf wsX4_toldOf rmX4_toldOf [.ref (b 0), .int (nI k), .int (nI 3)] (mv cI cZ b (τ)) (some (.int (toP n h L k 3))) (mv cI cZ b (τ)) := by
  obtain ⟨H, hS, hs10, hs11, hs12⟩ := S
  obtain ⟨W, h1, hgo, hfe, hfd, hh, hL, hZ⟩ := id H
  have hn := W.1
  obtain ⟨hl, hcell⟩ := hL k hk
  obtain ⟨hsg, hsd, hsz⟩ := hS k hk
  refine aM_of sX4_toldOf (lv0 := [some (.ref (b 0)), some (.int (nI k)), some (.int (nI 3))]) (j := 0) rfl rfl ?_
  intro pM eM sM mM argsM belowM methM cM AM C
  refine aw_iload_n C dX4_toldOf_0 Lk2 ?_
  refine aw_tableIn C dX4_toldOf_1 (tgt := 57) (by decide) (by decide) (off := 56) (by decide) (by decide) ?_
  refine aw_aload_n C dX4_toldOf_57 Lk0 ?_
  refine aw_gX4_rounds C  dX4_toldOf_58 (by decide +kernel) (by decide +kernel) ?_
  refine aw_iload_n C dX4_toldOf_61 Lk1 ?_
  refine aw_ilX4n_5 C dX4_toldOf_62 (by omega) ?_
  rw [hsd]
  exact aw_iend C dX4_toldOf_63 rfl rfl
set_option maxHeartbeats 4000000 in
set_option maxRecDepth 100000 in
theorem c_X4_toldOf_4 {τ : MS} {n : Nat} {h : Nat → Nat} {L : Nat → List Nat} (S : SInv τ n h L) {k : Nat} (hk : k < n) : aM l D (cTys cI cZ cR cJ) 9 b yX4_toldOf wsX4_toldOf rmX4_toldOf [.ref (b 0), .int (nI k), .int (nI 4)] (mv cI cZ b (τ)) (some (.int (toP n h L k 4))) (mv cI cZ b (τ)) := by
  obtain ⟨H, hS, hs10, hs11, hs12⟩ := S
  obtain ⟨W, h1, hgo, hfe, hfd, hh, hL, hZ⟩ := id H
  have hn := W.1
  obtain ⟨hl, hcell⟩ := hL k hk
  obtain ⟨hsg, hsd, hsz⟩ := hS k hk
  refine aM_of sX4_toldOf (lv0 := [some (.ref (b 0)), some (.int (nI k)), some (.int (nI 4))]) (j := 0) rfl rfl ?_
  intro pM eM sM mM argsM belowM methM cM AM C
  refine aw_iload_n C dX4_toldOf_0 Lk2 ?_
  refine aw_tableIn C dX4_toldOf_1 (tgt := 64) (by decide) (by decide) (off := 63) (by decide) (by decide) ?_
  refine aw_aload_n C dX4_toldOf_64 Lk0 ?_
  refine aw_gX4_ring C  dX4_toldOf_65 (by decide +kernel) (by decide +kernel) ?_
  refine aw_iload_n C dX4_toldOf_68 Lk1 ?_
  refine aw_ilX4n_6 C dX4_toldOf_69 (by omega) ?_
  rw [hsz]
  exact aw_iend C dX4_toldOf_70 rfl rfl
set_option maxHeartbeats 4000000 in
set_option maxRecDepth 100000 in
theorem c_X4_toldOf_5 {τ : MS} {n : Nat} {h : Nat → Nat} {L : Nat → List Nat} (S : SInv τ n h L) {k : Nat} (hk : k < n) : aM l D (cTys cI cZ cR cJ) 9 b yX4_toldOf wsX4_toldOf rmX4_toldOf [.ref (b 0), .int (nI k), .int (nI 5)] (mv cI cZ b (τ)) (some (.int (toP n h L k 5))) (mv cI cZ b (τ)) := by
  obtain ⟨H, hS, hs10, hs11, hs12⟩ := S
  obtain ⟨W, h1, hgo, hfe, hfd, hh, hL, hZ⟩ := id H
  have hn := W.1
  obtain ⟨hl, hcell⟩ := hL k hk
  obtain ⟨hsg, hsd, hsz⟩ := hS k hk
  refine aM_of sX4_toldOf (lv0 := [some (.ref (b 0)), some (.int (nI k)), some (.int (nI 5))]) (j := 0) rfl rfl ?_
  intro pM eM sM mM argsM belowM methM cM AM C
  refine aw_iload_n C dX4_toldOf_0 Lk2 ?_
  refine aw_tableOut C dX4_toldOf_1 (tgt := 71) (by decide) (by decide) ?_
  refine aw_aload_n C dX4_toldOf_71 Lk0 ?_
  refine aw_iload_n C dX4_toldOf_72 Lk1 ?_
  refine aw_aload_n C dX4_toldOf_73 Lk0 ?_
  refine aw_gX4_gets C  dX4_toldOf_74 (by decide +kernel) (by decide +kernel) ?_
  refine aw_iload_n C dX4_toldOf_77 Lk1 ?_
  refine aw_ilX4n_4 C dX4_toldOf_78 (by omega) ?_
  rw [hsg]
  refine aw_cV2 C dX4_toldOf_79 gX4_toldOf_X4_rankOf sX4_rankOf (rm := rmX4_rankOf) rfl recMod (c_X4_rankP H hk) ?_
  exact aw_iend C dX4_toldOf_82 rfl rfl
theorem c_X4_toldOf {τ : MS} {n : Nat} {h : Nat → Nat} {L : Nat → List Nat} (S : SInv τ n h L) {k : Nat} (hk : k < n) {w : Nat} (hw : w < 6) : aM l D (cTys cI cZ cR cJ) 9 b yX4_toldOf wsX4_toldOf rmX4_toldOf [.ref (b 0), .int (nI k), .int (nI w)] (mv cI cZ b τ) (some (.int (toP n h L k w))) (mv cI cZ b τ) := by
  rcases (show w = 0 ∨ w = 1 ∨ w = 2 ∨ w = 3 ∨ w = 4 ∨ w = 5 by omega) with rfl | rfl | rfl | rfl | rfl | rfl
  · exact c_X4_toldOf_0 S hk
  · exact c_X4_toldOf_1 S hk
  · exact c_X4_toldOf_2 S hk
  · exact c_X4_toldOf_3 S hk
  · exact c_X4_toldOf_4 S hk
  · exact c_X4_toldOf_5 S hk
set_option maxHeartbeats 4000000 in
set_option maxRecDepth 100000 in
theorem c_X4_told {τ : MS} {n : Nat} {h : Nat → Nat} {L : Nat → List Nat} (H : MInv τ n h L) {k : Nat} (hk : k < n) {w : Nat} (hw : w < 6) : aM l D (cTys cI cZ cR cJ) 9 b yX4_told wsX4_told rmX4_told [.ref (b 0), .int (nI k), .int (nI w)] (mv cI cZ b (τ)) (some (.int (toP n h L k w))) (mv cI cZ b (slN n h L (ms1 τ 0 (nI 0)))) := by
  obtain ⟨W, h1, hgo, hfe, hfd, hh, hL, hZ⟩ := H.thr (x := nI 0)
  have hn := W.1
  refine aM_of sX4_told (lv0 := [some (.ref (b 0)), some (.int (nI k)), some (.int (nI w))]) (j := 0) rfl rfl ?_
  intro pM eM sM mM argsM belowM methM cM AM C
  refine aw_aload_n C dX4_told_0 Lk0 ?_
  refine aw_iconst C dX4_told_1 (x := nI 0) (by decide) ?_
  refine aw_pX4_thrown C  dX4_told_2 (by decide +kernel) (by decide +kernel) ?_
  refine aw_aload_n C dX4_told_5 Lk0 ?_
  refine aw_iload_n C dX4_told_6 Lk1 ?_
  refine aw_cV1 C dX4_told_7 gX4_told_X4_isKeeper sX4_isKeeper (rm := rmX4_isKeeper) rfl recMod (c_X4_isKeeper hn h1) ?_
  rw [isK_t (by omega) hk]
  refine aw_if_eq C dX4_told_10 (tgt := 22) (by decide) (fun c_10 => absurd c_10 (by decide)) (fun c_10 => ?_)
  refine aw_iload_n C dX4_told_13 Lk2 ?_
  refine aw_iconst C dX4_told_14 (x := nI 0) (by decide) ?_
  refine aw_iconst C dX4_told_15 (x := nI 5) (by decide) ?_
  refine aw_cS3 C dX4_told_16 gX4_told_X4_isIn sX4_isIn (rm := rmX4_isIn) rfl c_X4_isIn ?_
  rw [inB_n (show w ≤ 5 by omega) (by decide)]
  refine aw_if_ne C dX4_told_19 (tgt := 28) (by decide) (fun c_19 => ?_) (fun c_19 => absurd (by decide) c_19)
  refine aw_aload_n C dX4_told_28 Lk0 ?_
  refine aw_cV0v C dX4_told_29 gX4_told_X4_solve sX4_solve (rm := rmX4_solve) rfl recMod (c_X4_solveP H.thr) ?_
  refine aw_aload_n C dX4_told_32 Lk0 ?_
  refine aw_iload_n C dX4_told_33 Lk1 ?_
  refine aw_iload_n C dX4_told_34 Lk2 ?_
  refine aw_cV2 C dX4_told_35 gX4_told_X4_toldOf sX4_toldOf (rm := rmX4_toldOf) rfl recMod (c_X4_toldOf H.thr.sol hk hw) ?_
  exact aw_iend C dX4_told_38 rfl rfl
set_option maxHeartbeats 4000000 in
set_option maxRecDepth 100000 in
theorem f_X4_told_k {τ : MS} {n : Nat} {h : Nat → Nat} {L : Nat → List Nat} (H : MInv τ n h L) {x y : Int32} (hx : x < 0 ∨ nI n ≤ x) : aM l D (cTys cI cZ cR cJ) 9 b yX4_told wsX4_told rmX4_told [.ref (b 0), .int x, .int y] (mv cI cZ b (τ)) (some (.int (nI 0))) (mv cI cZ b (ms1 (ms1 τ 0 (nI 0)) 0 (nI 1))) := by
  obtain ⟨W, h1, hgo, hfe, hfd, hh, hL, hZ⟩ := H.thr (x := nI 0)
  have hn := W.1
  refine aM_of sX4_told (lv0 := [some (.ref (b 0)), some (.int x), some (.int y)]) (j := 0) rfl rfl ?_
  intro pM eM sM mM argsM belowM methM cM AM C
  refine aw_aload_n C dX4_told_0 Lk0 ?_
  refine aw_iconst C dX4_told_1 (x := nI 0) (by decide) ?_
  refine aw_pX4_thrown C  dX4_told_2 (by decide +kernel) (by decide +kernel) ?_
  refine aw_aload_n C dX4_told_5 Lk0 ?_
  refine aw_iload_n C dX4_told_6 Lk1 ?_
  refine aw_cV1 C dX4_told_7 gX4_told_X4_isKeeper sX4_isKeeper (rm := rmX4_isKeeper) rfl recMod (c_X4_isKeeper hn h1) ?_
  rw [isK_f (by omega) hx]
  refine aw_if_eq C dX4_told_10 (tgt := 22) (by decide) (fun c_10 => ?_) (fun c_10 => absurd (by decide) c_10)
  refine aw_aload_n C dX4_told_22 Lk0 ?_
  refine aw_iconst C dX4_told_23 (x := nI 1) (by decide) ?_
  refine aw_cV1 C dX4_told_24 gX4_told_X4_fail sX4_fail (rm := rmX4_fail) rfl recMod c_X4_fail ?_
  exact aw_iend C dX4_told_27 rfl rfl
set_option maxHeartbeats 4000000 in
set_option maxRecDepth 100000 in
theorem f_X4_told_w {τ : MS} {n : Nat} {h : Nat → Nat} {L : Nat → List Nat} (H : MInv τ n h L) {k : Nat} (hk : k < n) {y : Int32} (hy : y.toInt < 0 ∨ 5 < y.toInt) : aM l D (cTys cI cZ cR cJ) 9 b yX4_told wsX4_told rmX4_told [.ref (b 0), .int (nI k), .int y] (mv cI cZ b (τ)) (some (.int (nI 0))) (mv cI cZ b (ms1 (ms1 τ 0 (nI 0)) 0 (nI 1))) := by
  obtain ⟨W, h1, hgo, hfe, hfd, hh, hL, hZ⟩ := H.thr (x := nI 0)
  have hn := W.1
  refine aM_of sX4_told (lv0 := [some (.ref (b 0)), some (.int (nI k)), some (.int y)]) (j := 0) rfl rfl ?_
  intro pM eM sM mM argsM belowM methM cM AM C
  refine aw_aload_n C dX4_told_0 Lk0 ?_
  refine aw_iconst C dX4_told_1 (x := nI 0) (by decide) ?_
  refine aw_pX4_thrown C  dX4_told_2 (by decide +kernel) (by decide +kernel) ?_
  refine aw_aload_n C dX4_told_5 Lk0 ?_
  refine aw_iload_n C dX4_told_6 Lk1 ?_
  refine aw_cV1 C dX4_told_7 gX4_told_X4_isKeeper sX4_isKeeper (rm := rmX4_isKeeper) rfl recMod (c_X4_isKeeper hn h1) ?_
  rw [isK_t (by omega) hk]
  refine aw_if_eq C dX4_told_10 (tgt := 22) (by decide) (fun c_10 => absurd c_10 (by decide)) (fun c_10 => ?_)
  refine aw_iload_n C dX4_told_13 Lk2 ?_
  refine aw_iconst C dX4_told_14 (x := nI 0) (by decide) ?_
  refine aw_iconst C dX4_told_15 (x := nI 5) (by decide) ?_
  refine aw_cS3 C dX4_told_16 gX4_told_X4_isIn sX4_isIn (rm := rmX4_isIn) rfl c_X4_isIn ?_
  rw [isW_f hy]
  refine aw_if_ne C dX4_told_19 (tgt := 28) (by decide) (fun c_19 => absurd c_19 (by decide)) (fun c_19 => ?_)
  refine aw_aload_n C dX4_told_22 Lk0 ?_
  refine aw_iconst C dX4_told_23 (x := nI 1) (by decide) ?_
  refine aw_cV1 C dX4_told_24 gX4_told_X4_fail sX4_fail (rm := rmX4_fail) rfl recMod c_X4_fail ?_
  exact aw_iend C dX4_told_27 rfl rfl

set_option maxHeartbeats 4000000 in
set_option maxRecDepth 100000 in
theorem c_X4_points {τ : MS} {n : Nat} {h : Nat → Nat} {L : Nat → List Nat} (H : MInv τ n h L) {k : Nat} (hk : k < n) {X r9 : Nat} (hX1 : 1 ≤ X) (hX2 : X < 2 ^ 31) (hr1 : ∀ r, r < r9 → r < X ∧ thR (TL h n L) (t0A n) r k = true) (hr2 : r9 < X → thR (TL h n L) (t0A n) r9 k = false) : aM l D (cTys cI cZ cR cJ) 9 b yX4_points wsX4_points rmX4_points [.ref (b 0), .int (nI k), .int (nI X)] (mv cI cZ b (τ)) (some (.int (ptP (TL h n L) (t0A n) X k))) (mv cI cZ b (smR (ms1 τ 0 (nI 0)) n (TL h n L) (t0A n) h ((ms1 τ 0 (nI 0)).2 4) ((ms1 τ 0 (nI 0)).2 5) ((ms1 τ 0 (nI 0)).2 6) ((ms1 τ 0 (nI 0)).2 7) ((ms1 τ 0 (nI 0)).2 8) (r9))) := by
  obtain ⟨W, h1, hgo, hfe, hfd, hh, hL, hZ⟩ := H.thr (x := nI 0)
  have hn := W.1
  have hrn : ∀ r, thR (TL h n L) (t0A n) r k = true → r < 10 := fun r hr => by
    have h9 := rn_le (T := TL h n L) (t0 := t0A n) (n := n)
    refine Classical.byContradiction (fun z9 => ?_)
    have h8 := thR_mono (show rn (TL h n L) (t0A n) n ≤ r by omega) hr
    rw [anyT_no t0A_ok (rn_end t0A_ok hn) k] at h8
    cases h8
  have hr9 : r9 ≤ 10 := by
    rcases Nat.eq_zero_or_pos r9 with q | q
    · omega
    · have := hrn (r9 - 1) (hr1 (r9 - 1) (by omega)).2; omega
  have hr8 : r9 ≤ X := by
    rcases Nat.eq_zero_or_pos r9 with q | q
    · omega
    · have := (hr1 (r9 - 1) (by omega)).1; omega
  refine aM_of sX4_points (lv0 := [some (.ref (b 0)), some (.int (nI k)), some (.int (nI X))]) (j := 0) rfl rfl ?_
  intro pM eM sM mM argsM belowM methM cM AM C
  refine aw_aload_n C dX4_points_0 Lk0 ?_
  refine aw_iconst C dX4_points_1 (x := nI 0) (by decide) ?_
  refine aw_pX4_thrown C  dX4_points_2 (by decide +kernel) (by decide +kernel) ?_
  refine aw_aload_n C dX4_points_5 Lk0 ?_
  refine aw_iload_n C dX4_points_6 Lk1 ?_
  refine aw_cV1 C dX4_points_7 gX4_points_X4_isKeeper sX4_isKeeper (rm := rmX4_isKeeper) rfl recMod (c_X4_isKeeper hn h1) ?_
  rw [isK_t (by omega) hk]
  refine aw_if_ne C dX4_points_10 (tgt := 19) (by decide) (fun c_10 => ?_) (fun c_10 => absurd (by decide) c_10)
  refine aw_iload_n C dX4_points_19 Lk2 ?_
  refine aw_iconst C dX4_points_20 (x := nI 1) (by decide) ?_
  refine aw_icmp_ge C dX4_points_21 (tgt := 30) (by decide) (fun c_21 => ?_) (fun c_21 => absurd (nI_le hX1 hX2) c_21)
  refine aw_aload_n C dX4_points_30 Lk0 ?_
  refine aw_cV0v C dX4_points_31 gX4_points_X4_begin sX4_begin (rm := rmX4_begin) rfl recMod (c_X4_beginP H.thr.run) ?_
  have hl_34 : ∀ (j r : Nat) (hj : r + j = r9), aW pM l eM rmX4_points sM mM argsM belowM methM cM (MQ belowM (aQ D 9 b (mv cI cZ b (smR (ms1 τ 0 (nI 0)) n (TL h n L) (t0A n) h ((ms1 τ 0 (nI 0)).2 4) ((ms1 τ 0 (nI 0)).2 5) ((ms1 τ 0 (nI 0)).2 6) ((ms1 τ 0 (nI 0)).2 7) ((ms1 τ 0 (nI 0)).2 8) (r9))) (some (.int (ptP (TL h n L) (t0A n) X k))) AM) argsM sM 0 0 AM) D AM 0 0 9 b (mv cI cZ b (smR (ms1 τ 0 (nI 0)) n (TL h n L) (t0A n) h ((ms1 τ 0 (nI 0)).2 4) ((ms1 τ 0 (nI 0)).2 5) ((ms1 τ 0 (nI 0)).2 6) ((ms1 τ 0 (nI 0)).2 7) ((ms1 τ 0 (nI 0)).2 8) (r))) 34 [some (.ref (b 0)), some (.int (nI k)), some (.int (nI X))] [] := by
    intro j
    induction j with
    | zero =>
      intro r hj
      have hin : r = r9 := by omega
      subst hin
      refine aw_aload_n C dX4_points_34 Lk0 ?_
      refine aw_gX4_last C  dX4_points_35 (by decide +kernel) (by decide +kernel) ?_
      rw [mST_la9]
      refine aw_iload_n C dX4_points_38 Lk2 ?_
      refine aw_icmp_ge C dX4_points_39 (tgt := 58) (by decide) (fun c_39 => ?_) (fun c_39 => ?_)
      · skip
        have hge : r = X := by
          refine Classical.byContradiction (fun z9 => ?_)
          exact absurd c_39 (nI_ge (show r < X by omega) hX2)
        refine aw_aload_n C dX4_points_58 Lk0 ?_
        refine aw_gX4_last C  dX4_points_59 (by decide +kernel) (by decide +kernel) ?_
        rw [mST_la9]
        refine aw_iload_n C dX4_points_62 Lk2 ?_
        refine aw_icmp_ge C dX4_points_63 (tgt := 70) (by decide) (fun c_63 => ?_) (fun c_63 => absurd (by rw [hge]; exact nI_le (Nat.le_refl _) hX2) c_63)
        refine aw_aload_n C dX4_points_70 Lk0 ?_
        refine aw_gX4_aims C  dX4_points_71 (by decide +kernel) (by decide +kernel) ?_
        refine aw_iload_n C dX4_points_74 Lk1 ?_
        refine aw_ilX4n_7 C dX4_points_75 (by omega) ?_
        exact aw_iend C dX4_points_76 rfl (by rw [mST_m9, hge]; exact pt_end hX1 True.intro hk (hr1 (X - 1) (by omega)).2)
      · skip
        have hlt : r < X := by
          refine Classical.byContradiction (fun z9 => ?_)
          exact c_39 (nI_le (show X ≤ r by omega) (by omega))
        have hb := hr2 hlt
        refine aw_aload_n C dX4_points_42 Lk0 ?_
        refine aw_gX4_there C  dX4_points_43 (by decide +kernel) (by decide +kernel) ?_
        refine aw_iload_n C dX4_points_46 Lk1 ?_
        refine aw_ilX4n_8 C dX4_points_47 (by omega) ?_
        rw [mST_e9 hk, hb]
        refine aw_if_eq C dX4_points_48 (tgt := 58) (by decide) (fun c_48 => ?_) (fun c_48 => absurd rfl c_48)
        refine aw_aload_n C dX4_points_58 Lk0 ?_
        refine aw_gX4_last C  dX4_points_59 (by decide +kernel) (by decide +kernel) ?_
        rw [mST_la9]
        refine aw_iload_n C dX4_points_62 Lk2 ?_
        refine aw_icmp_ge C dX4_points_63 (tgt := 70) (by decide) (fun c_63 => absurd c_63 (nI_ge hlt hX2)) (fun c_63 => ?_)
        refine aw_iconst C dX4_points_66 (x := -1) (by decide) ?_
        refine aw_goto C dX4_points_67 (tgt := 76) (by decide) ?_
        exact aw_iend C dX4_points_76 rfl (by rw [ptP, show thR (TL h n L) (t0A n) (X - 1) k = false from th_f (show r ≤ X - 1 by omega) hb]; rfl)
    | succ j ih =>
      intro r hj
      refine aw_aload_n C dX4_points_34 Lk0 ?_
      refine aw_gX4_last C  dX4_points_35 (by decide +kernel) (by decide +kernel) ?_
      rw [mST_la9]
      refine aw_iload_n C dX4_points_38 Lk2 ?_
      refine aw_icmp_ge C dX4_points_39 (tgt := 58) (by decide) (fun c_39 => absurd c_39 (nI_ge (hr1 r (by omega)).1 hX2)) (fun c_39 => ?_)
      refine aw_aload_n C dX4_points_42 Lk0 ?_
      refine aw_gX4_there C  dX4_points_43 (by decide +kernel) (by decide +kernel) ?_
      refine aw_iload_n C dX4_points_46 Lk1 ?_
      refine aw_ilX4n_8 C dX4_points_47 (by omega) ?_
      rw [mST_e9 hk, (hr1 r (by omega)).2]
      refine aw_if_eq C dX4_points_48 (tgt := 58) (by decide) (fun c_48 => absurd c_48 (by decide)) (fun c_48 => ?_)
      refine aw_aload_n C dX4_points_51 Lk0 ?_
      refine aw_cV0v C dX4_points_52 gX4_points_X4_roundOn sX4_roundOn (rm := rmX4_roundOn) rfl recMod (c_X4_roundOn H.thr.run t0A_ok (hrn r (hr1 r (by omega)).2)) ?_
      refine aw_goto C dX4_points_55 (tgt := 34) (by decide) ?_
      exact ih (r + 1) (by omega)
  exact hl_34 r9 0 (by omega)
set_option maxHeartbeats 4000000 in
set_option maxRecDepth 100000 in
theorem f_X4_points_k {τ : MS} {n : Nat} {h : Nat → Nat} {L : Nat → List Nat} (H : MInv τ n h L) {x y : Int32} (hx : x < 0 ∨ nI n ≤ x) : aM l D (cTys cI cZ cR cJ) 9 b yX4_points wsX4_points rmX4_points [.ref (b 0), .int x, .int y] (mv cI cZ b (τ)) (some (.int (nI 0))) (mv cI cZ b (ms1 (ms1 τ 0 (nI 0)) 0 (nI 1))) := by
  obtain ⟨W, h1, hgo, hfe, hfd, hh, hL, hZ⟩ := H.thr (x := nI 0)
  have hn := W.1
  refine aM_of sX4_points (lv0 := [some (.ref (b 0)), some (.int x), some (.int y)]) (j := 0) rfl rfl ?_
  intro pM eM sM mM argsM belowM methM cM AM C
  refine aw_aload_n C dX4_points_0 Lk0 ?_
  refine aw_iconst C dX4_points_1 (x := nI 0) (by decide) ?_
  refine aw_pX4_thrown C  dX4_points_2 (by decide +kernel) (by decide +kernel) ?_
  refine aw_aload_n C dX4_points_5 Lk0 ?_
  refine aw_iload_n C dX4_points_6 Lk1 ?_
  refine aw_cV1 C dX4_points_7 gX4_points_X4_isKeeper sX4_isKeeper (rm := rmX4_isKeeper) rfl recMod (c_X4_isKeeper hn h1) ?_
  rw [isK_f (by omega) hx]
  refine aw_if_ne C dX4_points_10 (tgt := 19) (by decide) (fun c_10 => absurd c_10 (by decide)) (fun c_10 => ?_)
  refine aw_aload_n C dX4_points_13 Lk0 ?_
  refine aw_iconst C dX4_points_14 (x := nI 1) (by decide) ?_
  refine aw_cV1 C dX4_points_15 gX4_points_X4_fail sX4_fail (rm := rmX4_fail) rfl recMod c_X4_fail ?_
  exact aw_iend C dX4_points_18 rfl rfl
set_option maxHeartbeats 4000000 in
set_option maxRecDepth 100000 in
theorem f_X4_points_r {τ : MS} {n : Nat} {h : Nat → Nat} {L : Nat → List Nat} (H : MInv τ n h L) {k : Nat} (hk : k < n) {y : Int32} (hy : ¬ nI 1 ≤ y) : aM l D (cTys cI cZ cR cJ) 9 b yX4_points wsX4_points rmX4_points [.ref (b 0), .int (nI k), .int y] (mv cI cZ b (τ)) (some (.int (nI 0))) (mv cI cZ b (ms1 (ms1 τ 0 (nI 0)) 0 (nI 2))) := by
  obtain ⟨W, h1, hgo, hfe, hfd, hh, hL, hZ⟩ := H.thr (x := nI 0)
  have hn := W.1
  refine aM_of sX4_points (lv0 := [some (.ref (b 0)), some (.int (nI k)), some (.int y)]) (j := 0) rfl rfl ?_
  intro pM eM sM mM argsM belowM methM cM AM C
  refine aw_aload_n C dX4_points_0 Lk0 ?_
  refine aw_iconst C dX4_points_1 (x := nI 0) (by decide) ?_
  refine aw_pX4_thrown C  dX4_points_2 (by decide +kernel) (by decide +kernel) ?_
  refine aw_aload_n C dX4_points_5 Lk0 ?_
  refine aw_iload_n C dX4_points_6 Lk1 ?_
  refine aw_cV1 C dX4_points_7 gX4_points_X4_isKeeper sX4_isKeeper (rm := rmX4_isKeeper) rfl recMod (c_X4_isKeeper hn h1) ?_
  rw [isK_t (by omega) hk]
  refine aw_if_ne C dX4_points_10 (tgt := 19) (by decide) (fun c_10 => ?_) (fun c_10 => absurd (by decide) c_10)
  refine aw_iload_n C dX4_points_19 Lk2 ?_
  refine aw_iconst C dX4_points_20 (x := nI 1) (by decide) ?_
  refine aw_icmp_ge C dX4_points_21 (tgt := 30) (by decide) (fun c_21 => absurd c_21 hy) (fun c_21 => ?_)
  refine aw_aload_n C dX4_points_24 Lk0 ?_
  refine aw_iconst C dX4_points_25 (x := nI 2) (by decide) ?_
  refine aw_cV1 C dX4_points_26 gX4_points_X4_fail sX4_fail (rm := rmX4_fail) rfl recMod c_X4_fail ?_
  exact aw_iend C dX4_points_29 rfl rfl
end MOD4
