/-! what the class tells, of the land alone -/
theorem rFind_cong {f g : Nat → Int32} {x : Int32} : ∀ (m i : Nat), (∀ p, i ≤ p → p < i + m → f p = g p) → rFind f x m i = rFind g x m i := by
  intro m
  induction m with
  | zero => intro i _; rfl
  | succ m ih =>
    intro i hf
    simp only [rFind]
    rw [hf i (Nat.le_refl _) (by omega), ih (i + 1) (fun p h1 h2 => hf p (by omega) (by omega))]
theorem rSum_cong {f g : Nat → Int32} : ∀ n, (∀ k, k < n → f k = g k) → rSum f n = rSum g n := by
  intro n
  induction n with
  | zero => intro _; rfl
  | succ n ih => intro hf; rw [rSum, rSum, ih (fun k hk => hf k (by omega)), hf n (Nat.lt_succ_self n)]
theorem rMax_cong {f g : Nat → Int32} : ∀ n, (∀ k, k < n → f k = g k) → rMax f n = rMax g n := by
  intro n
  induction n with
  | zero => intro _; rfl
  | succ n ih => intro hf; rw [rMax, rMax, ih (fun k hk => hf k (by omega)), hf n (Nat.lt_succ_self n)]
theorem th_f {T : Nat → List Nat} {t0 : Nat → Bool} {r q k : Nat} (hq : r ≤ q) (hb : thR T t0 r k = false) : thR T t0 q k = false := by
  cases e : thR T t0 q k
  · rfl
  · rw [thR_mono hq e] at hb; cases hb
def rkP (h : Nat → Nat) (L : Nat → List Nat) (k : Nat) (x : Int32) : Int32 := if x = nI (h k) then nI (L k).length else rFind (fun p => nI ((L k).getD p 0)) x (L k).length 0
def gF (n : Nat) (h : Nat → Nat) (L : Nat → List Nat) (k : Nat) : Int32 := FG (TL h n L) (t0A n) n h k
def anP (n : Nat) (h : Nat → Nat) (L : Nat → List Nat) (k : Nat) : Bool := decide (gF n h L k ≠ nI (h k))
def toP (n : Nat) (h : Nat → Nat) (L : Nat → List Nat) (k : Nat) : Nat → Int32
  | 0 => nI (h k)
  | 1 => nI (L k).length
  | 2 => gF n h L k
  | 3 => FD (TL h n L) (t0A n) n k
  | 4 => FZ (TL h n L) (t0A n) n k
  | _ => rkP h L k (gF n h L k)
def cnP (n : Nat) (h : Nat → Nat) (L : Nat → List Nat) : Nat → Int32
  | 0 => nI n
  | 1 => nI (rn (TL h n L) (t0A n) n)
  | 2 => nI (rmR (TL h n L) (t0A n) n (rn (TL h n L) (t0A n) n))
  | 3 => nI (fb_ct (anP n h L) n)
  | 4 => rSum (fun k => rkP h L k (gF n h L k)) n
  | _ => rMax (FZ (TL h n L) (t0A n) n) n
/-- whom one points at in round r, from 0 -/
def ptP (n : Nat) (h : Nat → Nat) (L : Nat → List Nat) (k r : Nat) : Int32 := if thR (TL h n L) (t0A n) r k then nI (faR (TL h n L) (t0A n) r k) else -1
def mnP (n : Nat) (h : Nat → Nat) (L : Nat → List Nat) : UInt64 := if n = 0 then 0 else FP.ddiv (FP.i2d (rSum (FD (TL h n L) (t0A n) n) n)) (FP.i2d (nI n))
theorem rMax_nI {f : Nat → Int32} {v : Nat → Nat} : ∀ n, (∀ k, k < n → f k = nI (v k) ∧ v k ≤ 10) → ∃ m, m ≤ 10 ∧ rMax f n = nI m ∧ (∀ k, k < n → v k ≤ m) ∧ (m = 0 ∨ ∃ k, k < n ∧ m = v k) := by
  intro n
  induction n with
  | zero => intro _; exact ⟨0, by omega, nI_0.symm, fun k h => absurd h (by omega), Or.inl rfl⟩
  | succ n ih =>
    intro hf
    obtain ⟨m, h1, h2, h3, h4⟩ := ih (fun k hk => hf k (by omega))
    obtain ⟨f1, f2⟩ := hf n (Nat.lt_succ_self n)
    rw [rMax, h2, f1]
    by_cases c : m < v n
    · rw [if_pos (nI_lt c (by omega))]
      refine ⟨v n, f2, rfl, fun k hk => ?_, Or.inr ⟨n, by omega, rfl⟩⟩
      by_cases c2 : k = n
      · rw [c2]; exact Nat.le_refl _
      · have := h3 k (by omega); omega
    · rw [if_neg (nI_nlt (by omega) (by omega))]
      refine ⟨m, h1, rfl, fun k hk => ?_, ?_⟩
      · by_cases c2 : k = n
        · rw [c2]; omega
        · exact h3 k (by omega)
      · rcases h4 with q | ⟨k, a1, a2⟩
        · exact Or.inl q
        · exact Or.inr ⟨k, by omega, a2⟩
section PURE
variable {σ : CS} {n : Nat} {h : Nat → Nat} {L : Nat → List Nat}
theorem rRank_P (H : HInv σ n h L) {k : Nat} (hk : k < n) {x : Int32} : rRank σ k x = rkP h L k x := by
  obtain ⟨r1, r2, r3, r4⟩ := H.2.1
  rw [rRank, rkP, r2 k hk, (r4 k hk).1, rFind_cong (g := fun p => nI ((L k).getD p 0)) _ _ (fun p _ hp => (r4 k hk).2 p (by omega))]
theorem HInv.got (H : HInv σ n h L) {k : Nat} (hk : k < n) : σ.2.1 (gR 0) k = gF n h L k ∧ σ.2.1 (dR 0) k = FD (TL h n L) (t0A n) n k ∧ σ.2.1 (zR 0) k = FZ (TL h n L) (t0A n) n k := H.2.2.2.2.2.2.2.2.2 k hk
theorem gotR_P (H : HInv σ n h L) {k : Nat} (hk : k < n) : gotR σ k = rkP h L k (gF n h L k) := by rw [gotR, rRank_P H hk, (H.got hk).1]
theorem anoB_P (H : HInv σ n h L) : fb_ct (anoB σ) n = fb_ct (anP n h L) n := fb_ct_cong (fun k hk => by rw [anoB, anP, (H.got hk).1, H.2.1.2.1 k hk])
theorem toldF_P (H : HInv σ n h L) {k : Nat} (hk : k < n) {w : Nat} : toldF σ k w = toP n h L k w := by
  match w with
  | 0 => exact H.2.1.2.1 k hk
  | 1 => show nI (σ.1 (kR k)) = nI (L k).length; rw [(H.ls hk).1]
  | 2 => exact (H.got hk).1
  | 3 => exact (H.got hk).2.1
  | 4 => exact (H.got hk).2.2
  | w + 5 => exact gotR_P H hk
theorem cntF_0 (H : HInv σ n h L) : cntF σ n 0 = cnP n h L 0 := by simp only [cntF, cnP]
theorem cntF_1 (H : HInv σ n h L) : cntF σ n 1 = cnP n h L 1 := by simp only [cntF, cnP]; exact H.2.2.2.2.2.2.2.1
theorem cntF_2 (H : HInv σ n h L) : cntF σ n 2 = cnP n h L 2 := by simp only [cntF, cnP]; exact H.2.2.2.2.2.2.2.2.1
theorem cntF_3 (H : HInv σ n h L) : cntF σ n 3 = cnP n h L 3 := by simp only [cntF, cnP]; rw [anoB_P H]
theorem cntF_4 (H : HInv σ n h L) : cntF σ n 4 = cnP n h L 4 := by simp only [cntF, cnP]; exact rSum_cong n (fun k hk => gotR_P H hk)
theorem cntF_5 (H : HInv σ n h L) : cntF σ n 5 = cnP n h L 5 := by simp only [cntF, cnP]; exact rMax_cong n (fun k hk => (H.got hk).2.2)
theorem cntF_P (H : HInv σ n h L) {w : Nat} (hw : w < 6) : cntF σ n w = cnP n h L w := by
  rcases (show w = 0 ∨ w = 1 ∨ w = 2 ∨ w = 3 ∨ w = 4 ∨ w = 5 by omega) with rfl | rfl | rfl | rfl | rfl | rfl
  · exact cntF_0 H
  · exact cntF_1 H
  · exact cntF_2 H
  · exact cntF_3 H
  · exact cntF_4 H
  · exact cntF_5 H
theorem mean_P (H : HInv σ n h L) : rSum (σ.2.1 (dR 0)) n = rSum (FD (TL h n L) (t0A n) n) n := rSum_cong n (fun k hk => (H.got hk).2.1)
theorem dn_th (H : HInv σ n h L) {X : Nat} (h1 : 1 ≤ X) (h2 : X < 2 ^ 31) {q : Nat} (hq : q < n) : thB (σ.2.1 (dR 0) q) (nI X) = thR (TL h n L) (t0A n) (X - 1) q := by
  have hn := H.1.1
  rw [(H.got hq).2.1]
  obtain ⟨r, z1, z2, -, z4, -⟩ := clo_n (T := TL h n L) t0A_ok hn (t0A_t hq)
  have z5 : FD (TL h n L) (t0A n) n q = nI (r + 1) := z4 _
  have hr := rn_le (T := TL h n L) (t0 := t0A n) (n := n)
  obtain ⟨c1, -, c3⟩ := clR_th z2
  rw [z5, thB]
  by_cases c : X ≤ r + 1
  · rw [decide_eq_true (Or.inr (nI_le c (by omega)))]
    exact (thR_mono (show X - 1 ≤ r by omega) c1).symm
  · rw [decide_eq_false (fun z => z.elim (nI_ne0 (by omega) (by omega)) (nI_ge (by omega) h2))]
    exact (th_f (show r + 1 ≤ X - 1 by omega) c3).symm
/-- nobody yet -/
def cs0 : CS := (fun _ => 0, fun _ _ => 0, fun i => if i % 3 = 0 then -1 else nI 0)
theorem rn_0 {T : Nat → List Nat} {t0 : Nat → Bool} : rn T t0 0 = 0 := by
  rcases Nat.eq_zero_or_pos (rn T t0 0) with q | q
  · exact q
  · have h := rn_lt (T := T) (t0 := t0) (n := 0) q
    rw [anyT_iff] at h
    obtain ⟨k, hk, -⟩ := h
    omega
theorem WF_0 {h : Nat → Nat} {L : Nat → List Nat} : WF 0 h L := ⟨by omega, fun k hk => absurd hk (by omega), fun i j _ hj => absurd hj (by omega), fun k hk => absurd hk (by omega)⟩
theorem HInv_0 {h : Nat → Nat} {L : Nat → List Nat} : HInv cs0 0 h L := by
  refine ⟨WF_0, ⟨rfl, fun k hk => absurd hk (by omega), fun k _ _ => rfl, fun k hk => absurd hk (by omega)⟩, rfl, rfl, rfl, rfl, rfl, ?_, ?_, fun k hk => absurd hk (by omega)⟩
  · rw [rn_0]; rfl
  · rw [rn_0]; rfl
end PURE
section FACE
variable {l : Launch} {D : va_G} {cI cZ cR cJ : ClassId} {a : Nat → Nat} {σ : CS} {n : Nat} {h : Nat → Nat} {L : Nat → List Nat}
theorem f_told (H : HInv σ n h L) {k : Nat} (hk : k < n) {w : Nat} (hw : w < 6) : aM l D (cTys cI cZ cR cJ) 49 a yX3_told wsX3_told rmX3_told [.ref (a 44), .int (nI k), .int (nI w)] (cv cI cR a σ) (some (.int (toP n h L k w))) (cv cI cR a σ) := by
  rw [← toldF_P H hk]; exact c_X3_told H hk hw
theorem f_count (H : HInv σ n h L) {w : Nat} (hw : w < 6) : aM l D (cTys cI cZ cR cJ) 49 a yX3_count wsX3_count rmX3_count [.ref (a 44), .int (nI w)] (cv cI cR a σ) (some (.int (cnP n h L w))) (cv cI cR a σ) := by
  rw [← cntF_P H hw]; exact c_X3_count H hw
theorem f_points (H : HInv σ n h L) {k : Nat} (hk : k < n) {r : Nat} (hr : r < 1000) : aM l D (cTys cI cZ cR cJ) 49 a yX3_points wsX3_points rmX3_points [.ref (a 44), .int (nI k), .int (nI (r + 1))] (cv cI cR a σ) (some (.int (ptP n h L k r))) (cv cI cR a σ) :=
  c_X3_points H hk (th := thR (TL h n L) (t0A n) r) (nI_le (by omega) (by omega)) (fun q hq => dn_th H (X := r + 1) (by omega) (by omega) hq)
theorem f_rank (H : HInv σ n h L) {k : Nat} (hk : k < n) {x : Nat} (hx : x < n) : aM l D (cTys cI cZ cR cJ) 49 a yX3_rank wsX3_rank rmX3_rank [.ref (a 44), .int (nI k), .int (nI x)] (cv cI cR a σ) (some (.int (rkP h L k (nI x)))) (cv cI cR a σ) := by
  rw [← rRank_P H hk]; exact c_X3_rank H hk hx
theorem f_list (H : HInv σ n h L) {k : Nat} (hk : k < n) {p : Nat} (hp : p < (L k).length) : aM l D (cTys cI cZ cR cJ) 49 a yX3_list wsX3_list rmX3_list [.ref (a 44), .int (nI k), .int (nI p)] (cv cI cR a σ) (some (.int (nI ((L k).getD p 0)))) (cv cI cR a σ) := by
  rw [← (H.2.1.2.2.2 k hk).2 p hp]; exact c_X3_list H hk hp
theorem f_mean (H : HInv σ n h L) : aM l D (cTys cI cZ cR cJ) 49 a yX3_mean wsX3_mean rmX3_mean [.ref (a 44)] (cv cI cR a σ) (some (.double (mnP n h L))) (cv cI cR a σ) := by
  rw [mnP, ← mean_P H]; exact c_X3_mean H
theorem f_drop (H : HInv σ n h L) {k : Nat} (hk : k < n) {i : Nat} (hi : i < (L k).length) : ∃ σ', HInv σ' n h (updL L k (delL (L k) i)) ∧ aM l D (cTys cI cZ cR cJ) 49 a yX3_drop wsX3_drop rmX3_drop [.ref (a 44), .int (nI k), .int (nI i)] (cv cI cR a σ) (some (.int (nI ((L k).getD i 0)))) (cv cI cR a σ') :=
  ⟨_, HInv.of (H.1.drop hk hi) (H.2.1.drop hk H.1.1 hi), by rw [← (H.2.1.2.2.2 k hk).2 i hi]; exact c_X3_drop H hk hi⟩
theorem f_come (H : HInv σ n h L) (hn9 : n < 10) : ∃ σ', HInv σ' (n + 1) (updN h n n) (updL L n []) ∧ aM l D (cTys cI cZ cR cJ) 49 a yX3_come wsX3_come rmX3_come [.ref (a 44)] (cv cI cR a σ) (some (.int (nI n))) (cv cI cR a σ') :=
  ⟨_, HInv.of (H.1.come hn9) (H.2.1.come hn9), c_X3_come H hn9⟩
theorem f_wish (H : HInv σ n h L) {k : Nat} (hk : k < n) {i x : Nat} (hx : x < n) (hi : i ≤ (L k).length) (hN : newB h L k x) : ∃ σ', HInv σ' n h (updL L k (insL (L k) i x)) ∧ aM l D (cTys cI cZ cR cJ) 49 a yX3_wish wsX3_wish rmX3_wish [.ref (a 44), .int (nI k), .int (nI i), .int (nI x)] (cv cI cR a σ) (some (.int (nI ((L k).length + 1)))) (cv cI cR a σ') :=
  ⟨_, HInv.of (H.1.wish hk hx hi hN) (H.2.1.wish hk H.1.1 hi), c_X3_wish H hk hx hi hN⟩
theorem f_move (H : HInv σ n h L) : ∃ σ', HInv σ' n (GN h n L) (mvL h n L) ∧ aM l D (cTys cI cZ cR cJ) 49 a yX3_move wsX3_move rmX3_move [.ref (a 44)] (cv cI cR a σ) (some (.int (nI (fb_ct (anP n h L) n)))) (cv cI cR a σ') :=
  ⟨_, HInv.of H.1.move (LandR.move H.1 H.2.1), by rw [← anoB_P H]; exact c_X3_move H⟩
end FACE
