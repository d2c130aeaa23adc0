/-! HutRings: what changes the land, and what is imagined -/
def insL (l : List Nat) (i x : Nat) : List Nat := l.take i ++ x :: l.drop i
def delL (l : List Nat) (i : Nat) : List Nat := l.take i ++ l.drop (i + 1)
theorem insL_len {l : List Nat} {i x : Nat} (h : i ≤ l.length) : (insL l i x).length = l.length + 1 := by
  simp [insL]; omega
theorem insL_at {l : List Nat} {i x p : Nat} (h : i ≤ l.length) : (insL l i x).getD p 0 = if p < i then l.getD p 0 else if p = i then x else l.getD (p - 1) 0 := by
  have ht : (l.take i).length = i := by simp; omega
  simp only [insL, List.getD_eq_getElem?_getD]
  by_cases h1 : p < i
  · rw [if_pos h1, List.getElem?_append_left (by omega), List.getElem?_take, if_pos h1]
  · rw [if_neg h1, List.getElem?_append_right (by omega), ht]
    by_cases h2 : p = i
    · rw [if_pos h2, h2, Nat.sub_self]; rfl
    · rw [if_neg h2, show p - i = (p - 1 - i) + 1 by omega, List.getElem?_cons_succ, List.getElem?_drop, show i + (p - 1 - i) = p - 1 by omega]
theorem delL_len {l : List Nat} {i : Nat} (h : i < l.length) : (delL l i).length = l.length - 1 := by
  simp [delL]; omega
theorem delL_at {l : List Nat} {i p : Nat} (h : i < l.length) : (delL l i).getD p 0 = if p < i then l.getD p 0 else l.getD (p + 1) 0 := by
  have ht : (l.take i).length = i := by simp; omega
  simp only [delL, List.getD_eq_getElem?_getD]
  by_cases h1 : p < i
  · rw [if_pos h1, List.getElem?_append_left (by omega), List.getElem?_take, if_pos h1]
  · rw [if_neg h1, List.getElem?_append_right (by omega), ht, List.getElem?_drop, show i + 1 + (p - i) = p + 1 by omega]
theorem takL_at {l : List Nat} {m p : Nat} (h : p < m) : (l.take m).getD p 0 = l.getD p 0 := by
  simp only [List.getD_eq_getElem?_getD, List.getElem?_take, if_pos h]
def updL (L : Nat → List Nat) (k : Nat) (x : List Nat) : Nat → List Nat := fun q => if q = k then x else L q
theorem updL_s {L : Nat → List Nat} {k : Nat} {x : List Nat} : updL L k x k = x := if_pos rfl
theorem updL_n {L : Nat → List Nat} {k q : Nat} {x : List Nat} (h : q ≠ k) : updL L k x q = L q := if_neg h
theorem updN_s {f : Nat → Nat} {k x : Nat} : updN f k x k = x := if_pos rfl
theorem updN_n {f : Nat → Nat} {k q x : Nat} (h : q ≠ k) : updN f k x q = f q := if_neg h
section LAND2
variable {σ : CS} {n : Nat} {h : Nat → Nat} {L : Nat → List Nat}
theorem WF.come (W : WF n h L) (hn : n < 10) : WF (n + 1) (updN h n n) (updL L n []) := by
  obtain ⟨-, w2, w3, w4⟩ := W
  refine ⟨by omega, fun k hk => ?_, fun i j hij hj => ?_, fun k hk => ?_⟩
  · by_cases e : k = n
    · rw [e, updN_s]; omega
    · rw [updN_n e]; have := w2 k (by omega); omega
  · rw [updN_n (by omega)]
    by_cases e : j = n
    · rw [e, updN_s]; have := w2 i (by omega); omega
    · rw [updN_n e]; exact w3 i j hij (by omega)
  · by_cases e : k = n
    · rw [e, updL_s]; exact ⟨fun p hp => absurd hp (by simp), fun p q _ hq => absurd hq (by simp)⟩
    · rw [updL_n e, updN_n e]
      obtain ⟨a, b⟩ := w4 k (by omega)
      exact ⟨fun p hp => ⟨by have := (a p hp).1; omega, (a p hp).2⟩, b⟩
theorem LandR.come (R : LandR σ n h L) (hn : n < 10) : LandR (csR σ 0 (n + 1) (upd (σ.2.1 0) n (nI n))) (n + 1) (updN h n n) (updL L n []) := by
  obtain ⟨r1, r2, r3, r4⟩ := R
  refine ⟨csR_1, fun k hk => ?_, fun k hk hk2 => by rw [csR_1n (by simp only [kR]; omega)]; exact r3 k hk (by omega), fun k hk => ?_⟩
  · rw [csR_2]
    by_cases e : k = n
    · rw [e, updN_s]; simp [upd]
    · rw [updN_n e, upd, if_neg e]; exact r2 k (by omega)
  · by_cases e : k = n
    · rw [e, updL_s, csR_1n (by simp only [kR]; omega)]
      exact ⟨r3 n hn (Nat.le_refl _), fun p hp => absurd hp (by simp)⟩
    · rw [updL_n e, csR_1n (by simp only [kR]; omega), csR_2n (by simp only [kR]; omega)]
      exact r4 k (by omega)
/-- x is a hut that keeper k neither has nor lists -/
def newB (h : Nat → Nat) (L : Nat → List Nat) (k x : Nat) : Prop := x ≠ h k ∧ ∀ p, p < (L k).length → (L k).getD p 0 ≠ x
theorem WF.wish (W : WF n h L) {k x i : Nat} (hk : k < n) (hx : x < n) (hi : i ≤ (L k).length) (hN : newB h L k x) : WF n h (updL L k (insL (L k) i x)) := by
  obtain ⟨w1, w2, w3, w4⟩ := W
  refine ⟨w1, w2, w3, fun q hq => ?_⟩
  by_cases e : q = k
  · subst e
    rw [updL_s, insL_len hi]
    obtain ⟨a, b⟩ := w4 q hq
    refine ⟨fun p hp => ?_, fun p r hpr hr => ?_⟩
    · rw [insL_at hi]
      by_cases c1 : p < i
      · rw [if_pos c1]; exact a p (by omega)
      · rw [if_neg c1]
        by_cases c2 : p = i
        · rw [if_pos c2]; exact ⟨hx, hN.1⟩
        · rw [if_neg c2]; exact a (p - 1) (by omega)
    · rw [insL_at hi, insL_at hi]
      by_cases c1 : p < i
      · rw [if_pos c1]
        by_cases d1 : r < i
        · rw [if_pos d1]; exact b p r hpr (by omega)
        · rw [if_neg d1]
          by_cases d2 : r = i
          · rw [if_pos d2]; exact hN.2 p (by omega)
          · rw [if_neg d2]; exact b p (r - 1) (by omega) (by omega)
      · rw [if_neg c1, if_neg (show ¬ r < i by omega), if_neg (show ¬ r = i by omega)]
        by_cases c2 : p = i
        · rw [if_pos c2]; exact fun z => hN.2 (r - 1) (by omega) z.symm
        · rw [if_neg c2]; exact b (p - 1) (r - 1) (by omega) (by omega)
  · rw [updL_n e]; exact w4 q hq
theorem LandR.wish (R : LandR σ n h L) {k x i : Nat} (hk : k < n) (hn : n ≤ 10) (hi : i ≤ (L k).length) : LandR (csR σ (kR k) ((L k).length + 1) (upd (shF (σ.2.1 (kR k)) i (L k).length) i (nI x))) n h (updL L k (insL (L k) i x)) := by
  obtain ⟨r1, r2, r3, r4⟩ := R
  refine ⟨by rw [csR_1n (by simp only [kR]; omega)]; exact r1, fun q hq => by rw [csR_2n (by simp only [kR]; omega)]; exact r2 q hq, fun q hq hq2 => by rw [csR_1n (by simp only [kR]; omega)]; exact r3 q hq hq2, fun q hq => ?_⟩
  by_cases e : q = k
  · subst e
    rw [updL_s, insL_len hi, csR_1, csR_2]
    refine ⟨rfl, fun p hp => ?_⟩
    rw [insL_at hi]
    simp only [upd, shF]
    by_cases c1 : p < i
    · rw [if_neg (by omega), if_neg (by omega), if_pos c1]; exact (r4 q hq).2 p (by omega)
    · rw [if_neg c1]
      by_cases c2 : p = i
      · rw [if_pos c2, if_pos c2]
      · rw [if_neg c2, if_neg c2, if_pos (by omega)]; exact (r4 q hq).2 (p - 1) (by omega)
  · rw [updL_n e, csR_1n (by simp only [kR]; omega), csR_2n (by simp only [kR]; omega)]; exact r4 q hq
theorem WF.drop (W : WF n h L) {k i : Nat} (hk : k < n) (hi : i < (L k).length) : WF n h (updL L k (delL (L k) i)) := by
  obtain ⟨w1, w2, w3, w4⟩ := W
  refine ⟨w1, w2, w3, fun q hq => ?_⟩
  by_cases e : q = k
  · subst e
    rw [updL_s, delL_len hi]
    obtain ⟨a, b⟩ := w4 q hq
    refine ⟨fun p hp => ?_, fun p r hpr hr => ?_⟩
    · rw [delL_at hi]
      by_cases c1 : p < i
      · rw [if_pos c1]; exact a p (by omega)
      · rw [if_neg c1]; exact a (p + 1) (by omega)
    · rw [delL_at hi, delL_at hi]
      by_cases c1 : p < i
      · rw [if_pos c1]
        by_cases d1 : r < i
        · rw [if_pos d1]; exact b p r hpr (by omega)
        · rw [if_neg d1]; exact b p (r + 1) (by omega) (by omega)
      · rw [if_neg c1, if_neg (show ¬ r < i by omega)]; exact b (p + 1) (r + 1) (by omega) (by omega)
  · rw [updL_n e]; exact w4 q hq
theorem LandR.drop (R : LandR σ n h L) {k i : Nat} (hk : k < n) (hn : n ≤ 10) (hi : i < (L k).length) : LandR (csR σ (kR k) ((L k).length - 1) (skF (σ.2.1 (kR k)) i ((L k).length - 1))) n h (updL L k (delL (L k) i)) := by
  obtain ⟨r1, r2, r3, r4⟩ := R
  refine ⟨by rw [csR_1n (by simp only [kR]; omega)]; exact r1, fun q hq => by rw [csR_2n (by simp only [kR]; omega)]; exact r2 q hq, fun q hq hq2 => by rw [csR_1n (by simp only [kR]; omega)]; exact r3 q hq hq2, fun q hq => ?_⟩
  by_cases e : q = k
  · subst e
    rw [updL_s, delL_len hi, csR_1, csR_2]
    refine ⟨rfl, fun p hp => ?_⟩
    rw [delL_at hi]
    simp only [skF]
    by_cases c1 : p < i
    · rw [if_neg (by omega), if_pos c1]; exact (r4 q hq).2 p (by omega)
    · rw [if_neg c1, if_pos (by omega)]; exact (r4 q hq).2 (p + 1) (by omega)
  · rw [updL_n e, csR_1n (by simp only [kR]; omega), csR_2n (by simp only [kR]; omega)]; exact r4 q hq
/-- behind a run for all -/
theorem HInv.of (W : WF n h L) (R : LandR σ n h L) : HInv (enS (stS σ 0 n) 0 n (TL h n L) (t0A n) h) n h L := by
  obtain ⟨r1, r2, r3, r4⟩ := R
  have hn := W.1
  have e1 : ∀ q, q < 11 → (enS (stS σ 0 n) 0 n (TL h n L) (t0A n) h).1 q = σ.1 q := fun q hq => by
    show (stS σ 0 n).1 q = σ.1 q
    exact stS_1 (by simp only [gR]; omega)
  have e2 : ∀ q, q < 11 → (enS (stS σ 0 n) 0 n (TL h n L) (t0A n) h).2.1 q = σ.2.1 q := fun q hq => by
    show (csT _ _ _ _ _ _ _ _).2.1 q = _
    rw [csT_o (Or.inl hq)]
    exact stS_2 (by simp only [gR]; omega)
  refine ⟨W, ⟨by rw [e1 0 (by omega)]; exact r1, fun k hk => by rw [e2 0 (by omega)]; exact r2 k hk, fun k hk hk2 => by rw [e1 _ (by simp only [kR]; omega)]; exact r3 k hk hk2, fun k hk => by rw [e1 _ (by simp only [kR]; omega), e2 _ (by simp only [kR]; omega)]; exact r4 k hk⟩, stS_g (σ := σ) (t := 0) (n := n), stS_d (σ := σ) (t := 0) (n := n), stS_z (σ := σ) (t := 0) (n := n), stS_m (σ := σ) (t := 0) (n := n), ?_, csT_ro, csT_rm, fun k hk => ⟨?_, ?_, ?_⟩⟩
  · show (csT _ 0 _ _ _ _ _ _).2.2 (3 * 0) = -1
    rw [csT_fe]; exact stS_fe
  · show (csT _ _ _ _ _ _ _ _).2.1 (gR 0) k = _
    rw [csT_g]; exact FG_of t0A_ok hn (t0A_t hk) _
  · show (csT _ _ _ _ _ _ _ _).2.1 (dR 0) k = _
    rw [csT_d]; exact FD_of t0A_ok hn (t0A_t hk) _
  · show (csT _ _ _ _ _ _ _ _).2.1 (zR 0) k = _
    rw [csT_z]; exact FZ_of t0A_ok hn (t0A_t hk) _
/-- what the other trade does leaves all this -/
theorem HInv.same {σ' : CS} (H : HInv σ n h L) (e1 : ∀ q, q < 17 → σ'.1 q = σ.1 q) (e2 : ∀ q, q < 17 → σ'.2.1 q = σ.2.1 q) (e3 : ∀ q, q < 3 → σ'.2.2 q = σ.2.2 q) : HInv σ' n h L := by
  obtain ⟨W, ⟨r1, r2, r3, r4⟩, h3, h4, h5, h6, h7, h8, h9, h10⟩ := H
  have hn := W.1
  refine ⟨W, ⟨by rw [e1 0 (by omega)]; exact r1, fun k hk => by rw [e2 0 (by omega)]; exact r2 k hk, fun k hk hk2 => by rw [e1 _ (by simp only [kR]; omega)]; exact r3 k hk hk2, fun k hk => by rw [e1 _ (by simp only [kR]; omega), e2 _ (by simp only [kR]; omega)]; exact r4 k hk⟩,
    by rw [e1 _ (by simp only [gR]; omega)]; exact h3, by rw [e1 _ (by simp only [dR]; omega)]; exact h4, by rw [e1 _ (by simp only [zR]; omega)]; exact h5, by rw [e1 _ (by simp only [mR]; omega)]; exact h6, by rw [e3 _ (by omega)]; exact h7, by rw [e3 _ (by omega)]; exact h8, by rw [e3 _ (by omega)]; exact h9, fun k hk => ?_⟩
  rw [e2 _ (by simp only [gR]; omega), e2 _ (by simp only [dR]; omega), e2 _ (by simp only [zR]; omega)]
  exact h10 k hk
theorem enS_1 {φ : CS} {t : Nat} {T : Nat → List Nat} {t0 : Nat → Bool} (q : Nat) : (enS φ t n T t0 h).1 q = φ.1 q := rfl
theorem enS_2 {φ : CS} {T : Nat → List Nat} {t0 : Nat → Bool} {q : Nat} (hq : q < 17) : (enS φ 1 n T t0 h).2.1 q = φ.2.1 q := by
  show (csT _ _ _ _ _ _ _ _).2.1 q = _
  simp only [csT]
  rw [if_neg (by simp only [gR]; omega), if_neg (by simp only [dR]; omega), if_neg (by simp only [zR]; omega), if_neg (by simp only [mR]; omega)]
theorem enS_3 {φ : CS} {T : Nat → List Nat} {t0 : Nat → Bool} {q : Nat} (hq : q < 3) : (enS φ 1 n T t0 h).2.2 q = φ.2.2 q := by
  show (csT _ _ _ _ _ _ _ _).2.2 q = _
  simp only [csT]
  rw [if_neg (by omega), if_neg (by omega)]
/-- the states behind 'without' and 'feign' -/
def woS (σ : CS) (n : Nat) (h : Nat → Nat) (L : Nat → List Nat) (o : Nat) : CS := enS (cs2 (stS σ 1 n) (dR 1) o (-1)) 1 n (TL h n L) (t0W n o) h
def feS (σ : CS) (n : Nat) (h : Nat → Nat) (L : Nat → List Nat) (k0 x : Nat) : CS := enS (fgS σ 1 n k0 h x) 1 n (TF h n L k0 x) (t0A n) h
theorem HInv.wo (H : HInv σ n h L) {o : Nat} : HInv (woS σ n h L o) n h L := by
  refine H.same (fun q hq => ?_) (fun q hq => ?_) (fun q hq => ?_)
  · show (stS σ 1 n).1 q = _
    exact stS_1 (by simp only [gR]; omega)
  · rw [woS, enS_2 hq]
    simp only [cs2]
    rw [if_neg (by simp only [dR]; omega)]
    exact stS_2 (by simp only [gR]; omega)
  · rw [woS, enS_3 hq]
    exact stS_i (by omega)
theorem HInv.fe (H : HInv σ n h L) {k0 x : Nat} : HInv (feS σ n h L k0 x) n h L := by
  refine H.same (fun q hq => ?_) (fun q hq => ?_) (fun q hq => ?_)
  · rw [feS, enS_1]
    have e : (fgS σ 1 n k0 h x).1 q = (stS σ 1 n).1 q := by
      simp only [fgS]
      by_cases e : x = h k0
      · rw [if_pos e]; rfl
      · rw [if_neg e, csR_1n (by simp only [fR]; omega)]; rfl
    rw [e]; exact stS_1 (by simp only [gR]; omega)
  · rw [feS, enS_2 hq]
    have e : (fgS σ 1 n k0 h x).2.1 q = (stS σ 1 n).2.1 q := by
      simp only [fgS]
      by_cases e : x = h k0
      · rw [if_pos e]; rfl
      · rw [if_neg e, csR_2n (by simp only [fR]; omega)]; rfl
    rw [e]; exact stS_2 (by simp only [gR]; omega)
  · rw [feS, enS_3 hq]
    have e : (fgS σ 1 n k0 h x).2.2 q = (stS σ 1 n).2.2 q := by
      have e0 : (cs3 (stS σ 1 n) (3 * 1) (nI k0)).2.2 q = (stS σ 1 n).2.2 q := by
        simp only [cs3, upd]
        rw [if_neg (by omega)]
      simp only [fgS]
      by_cases e : x = h k0
      · rw [if_pos e]; exact e0
      · rw [if_neg e, csR_3]; exact e0
    rw [e]; exact stS_i (by omega)
theorem rRank_new (H : HInv σ n h L) {k x : Nat} (hk : k < n) (hx : x < n) (hN : newB h L k x) : rRank σ k (nI x) = -1 := by
  obtain ⟨r1, r2, r3, r4⟩ := H.2.1
  have hn := H.1.1
  have hh := H.1.2.1 k hk
  rw [rRank, r2 k hk, if_neg (fun q => hN.1 (nI_inj (by omega) (by omega) q)), (r4 k hk).1]
  refine rFind_no (h := fun p => (L k).getD p 0) (by omega) (fun p hp => ⟨(r4 k hk).2 p hp, ?_⟩) hN.2
  have := ((H.1.2.2.2 k hk).1 p hp).1
  omega
theorem rRank_old (H : HInv σ n h L) {k x : Nat} (hk : k < n) (hx : x < n) (hN : ¬ newB h L k x) : ¬ rRank σ k (nI x) = -1 := by
  obtain ⟨r1, r2, r3, r4⟩ := H.2.1
  have hn := H.1.1
  have hl := H.ls hk
  rw [rRank, r2 k hk, (r4 k hk).1]
  by_cases e : x = h k
  · rw [if_pos (congrArg nI e)]; exact nI_ne_m1 (by omega)
  · have hh := H.1.2.1 k hk
    rw [if_neg (fun q => e (nI_inj (by omega) (by omega) q))]
    have he : ∃ p, p < (L k).length ∧ (L k).getD p 0 = x := by
      refine Classical.byContradiction (fun z => hN ⟨e, fun p hp q => z ⟨p, hp, q⟩⟩)
    rw [rFind_at (h := fun p => (L k).getD p 0) (by omega) (fun p hp => ⟨(r4 k hk).2 p hp, by have := ((H.1.2.2.2 k hk).1 p hp).1; omega⟩) he]
    have := (ow_spec he).1
    exact nI_ne_m1 (by omega)
end LAND2
section HUT2
variable {l : Launch} {D : va_G} {cI cZ cR cJ : ClassId} {a : Nat → Nat}
set_option maxHeartbeats 4000000 in
set_option maxRecDepth 100000 in
theorem c_X3_come {σ : CS} {n : Nat} {h : Nat → Nat} {L : Nat → List Nat} (H : HInv σ n h L) (hn9 : n < 10) : aM l D (cTys cI cZ cR cJ) 49 a yX3_come wsX3_come rmX3_come [.ref (a 44)] (cv cI cR a (σ)) (some (.int (nI n))) (cv cI cR a (enS (stS (csR σ 0 (n + 1) (upd (σ.2.1 0) n (nI n))) 0 (n + 1)) 0 (n + 1) (TL (updN h n n) (n + 1) (updL L n [])) (t0A (n + 1)) (updN h n n))) := by
  obtain ⟨hn, s0, sg, sd, sz, sm⟩ := H.sz
  refine aM_of sX3_come (lv0 := [some (.ref (a 44)), none]) (j := 1) rfl rfl ?_
  intro pM eM sM mM argsM belowM methM cM AM C
  refine aw_aload_n C dX3_come_0 Lk0 ?_
  refine aw_gX3_land C  dX3_come_1 (by decide +kernel) (by decide +kernel) ?_
  refine aw_cV0 C dX3_come_4 gX3_come_X0_size sX0_size (rm := rmX0_size) rfl recLand c_X0_size ?_
  rw [s0]
  refine aw_bipush C dX3_come_7 (x := nI 10) (by decide) ?_
  refine aw_icmp_lt C dX3_come_9 (tgt := 22) (by decide) (fun c_9 => ?_) (fun c_9 => absurd (nI_lt hn9 (by omega)) c_9)
  refine aw_aload_n C dX3_come_22 Lk0 ?_
  refine aw_gX3_land C  dX3_come_23 (by decide +kernel) (by decide +kernel) ?_
  refine aw_cV0 C dX3_come_26 gX3_come_X0_settle sX0_settle (rm := rmX0_settle) rfl recLand (c_X0_settle (by omega)) ?_
  rw [s0]
  refine aw_istore_n C dX3_come_29 St1 rfl ?_
  refine aw_aload_n C dX3_come_30 Lk0 ?_
  refine aw_gX3_trade C  dX3_come_31 (by decide +kernel) (by decide +kernel) ?_
  refine aw_cV0v C dX3_come_34 gX3_come_X2_runForAll sX2_runForAll (rm := rmX2_runForAll) rfl (recTr (show 0 < 2 by decide)) (c_X2_runForAll (show 0 < 2 by decide) (H.1.come hn9) (H.2.1.come hn9)) ?_
  refine aw_iload_n C dX3_come_37 Lk1 ?_
  exact aw_iend C dX3_come_38 rfl rfl

set_option maxHeartbeats 4000000 in
set_option maxRecDepth 100000 in
theorem c_X3_wish {σ : CS} {n : Nat} {h : Nat → Nat} {L : Nat → List Nat} (H : HInv σ n h L) {k : Nat} (hk : k < n) {i x : Nat} (hx : x < n) (hi : i ≤ (L k).length) (hN : newB h L k x) : aM l D (cTys cI cZ cR cJ) 49 a yX3_wish wsX3_wish rmX3_wish [.ref (a 44), .int (nI k), .int (nI i), .int (nI x)] (cv cI cR a (σ)) (some (.int (nI ((L k).length + 1)))) (cv cI cR a (enS (stS (csR σ (kR k) ((L k).length + 1) (upd (shF (σ.2.1 (kR k)) i (L k).length) i (nI x))) 0 n) 0 n (TL h n (updL L k (insL (L k) i x))) (t0A n) h)) := by
  obtain ⟨hn, s0, sg, sd, sz, sm⟩ := H.sz
  obtain ⟨hl1, hl2⟩ := H.ls hk
  have hj := kR_lt (show k < 10 by omega)
  refine aM_of sX3_wish (lv0 := [some (.ref (a 44)), some (.int (nI k)), some (.int (nI i)), some (.int (nI x)), none]) (j := 1) rfl rfl ?_
  intro pM eM sM mM argsM belowM methM cM AM C
  refine aw_aload_n C dX3_wish_0 Lk0 ?_
  refine aw_iload_n C dX3_wish_1 Lk1 ?_
  refine aw_cV1v C dX3_wish_2 gX3_wish_X3_needKeeper sX3_needKeeper (rm := rmX3_needKeeper) rfl recHut (c_X3_needKeeper H hk) ?_
  refine aw_aload_n C dX3_wish_5 Lk0 ?_
  refine aw_iload_n C dX3_wish_6 Lk3 ?_
  refine aw_cV1v C dX3_wish_7 gX3_wish_X3_needHut sX3_needHut (rm := rmX3_needHut) rfl recHut (c_X3_needHut H hx) ?_
  refine aw_aload_n C dX3_wish_10 Lk0 ?_
  refine aw_gX3_land C  dX3_wish_11 (by decide +kernel) (by decide +kernel) ?_
  refine aw_iload_n C dX3_wish_14 Lk1 ?_
  refine aw_cV1 C dX3_wish_15 gX3_wish_X0_likesOf sX0_likesOf (rm := rmX0_likesOf) rfl recLand (c_X0_likesOf (by omega)) ?_
  refine aw_astore C dX3_wish_18 St4 rfl ?_
  refine aw_iload_n C dX3_wish_20 Lk2 ?_
  refine aw_if_lt C dX3_wish_21 (tgt := 33) (by decide) (fun c_21 => absurd c_21 (nI_pos (by omega))) (fun c_21 => ?_)
  refine aw_iload_n C dX3_wish_24 Lk2 ?_
  refine aw_aload C dX3_wish_25 Lk4 ?_
  refine aw_cV0 C dX3_wish_27 gX3_wish_X1_size sX1_size (rm := rmX1_size) rfl (recRow hj) (c_X1_size hj) ?_
  rw [hl1]
  refine aw_icmp_le C dX3_wish_30 (tgt := 43) (by decide) (fun c_30 => ?_) (fun c_30 => absurd (nI_le hi (by omega)) c_30)
  refine aw_aload_n C dX3_wish_43 Lk0 ?_
  refine aw_gX3_land C  dX3_wish_44 (by decide +kernel) (by decide +kernel) ?_
  refine aw_iload_n C dX3_wish_47 Lk1 ?_
  refine aw_iload_n C dX3_wish_48 Lk3 ?_
  refine aw_cV2 C dX3_wish_49 gX3_wish_X0_rankOf sX0_rankOf (rm := rmX0_rankOf) rfl recLand (c_X0_rankOf (by omega) (by omega) (by omega) (by omega)) ?_
  rw [rRank_new H hk hx hN]
  refine aw_iconst C dX3_wish_52 (x := -1) (by decide) ?_
  refine aw_icmp_eq C dX3_wish_53 (tgt := 66) (by decide) (fun c_53 => ?_) (fun c_53 => absurd rfl c_53)
  refine aw_aload C dX3_wish_66 Lk4 ?_
  refine aw_iload_n C dX3_wish_68 Lk2 ?_
  refine aw_iload_n C dX3_wish_69 Lk3 ?_
  refine aw_cV2v C dX3_wish_70 gX3_wish_X1_insert sX1_insert (rm := rmX1_insert) rfl (recRow hj) (c_X1_insert hj (by omega) (by omega)) ?_
  rw [hl1]
  refine aw_aload_n C dX3_wish_73 Lk0 ?_
  refine aw_gX3_trade C  dX3_wish_74 (by decide +kernel) (by decide +kernel) ?_
  refine aw_cV0v C dX3_wish_77 gX3_wish_X2_runForAll sX2_runForAll (rm := rmX2_runForAll) rfl (recTr (show 0 < 2 by decide)) (c_X2_runForAll (show 0 < 2 by decide) (H.1.wish hk hx hi hN) (H.2.1.wish hk hn hi)) ?_
  refine aw_aload C dX3_wish_80 Lk4 ?_
  refine aw_cV0 C dX3_wish_82 gX3_wish_X1_size sX1_size (rm := rmX1_size) rfl (recRow hj) (c_X1_size hj) ?_
  exact aw_iend C dX3_wish_85 rfl (by rw [enS_1, stS_1 (by simp only [gR, kR]; omega), csR_1])




set_option maxHeartbeats 4000000 in
set_option maxRecDepth 100000 in
theorem c_X3_drop {σ : CS} {n : Nat} {h : Nat → Nat} {L : Nat → List Nat} (H : HInv σ n h L) {k : Nat} (hk : k < n) {i : Nat} (hi : i < (L k).length) : aM l D (cTys cI cZ cR cJ) 49 a yX3_drop wsX3_drop rmX3_drop [.ref (a 44), .int (nI k), .int (nI i)] (cv cI cR a (σ)) (some (.int (σ.2.1 (kR k) i))) (cv cI cR a (enS (stS (csR σ (kR k) ((L k).length - 1) (skF (σ.2.1 (kR k)) i ((L k).length - 1))) 0 n) 0 n (TL h n (updL L k (delL (L k) i))) (t0A n) h)) := by
  obtain ⟨hn, s0, sg, sd, sz, sm⟩ := H.sz
  obtain ⟨hl1, hl2⟩ := H.ls hk
  have hj := kR_lt (show k < 10 by omega)
  refine aM_of sX3_drop (lv0 := [some (.ref (a 44)), some (.int (nI k)), some (.int (nI i)), none, none]) (j := 2) rfl rfl ?_
  intro pM eM sM mM argsM belowM methM cM AM C
  refine aw_aload_n C dX3_drop_0 Lk0 ?_
  refine aw_iload_n C dX3_drop_1 Lk1 ?_
  refine aw_cV1v C dX3_drop_2 gX3_drop_X3_needKeeper sX3_needKeeper (rm := rmX3_needKeeper) rfl recHut (c_X3_needKeeper H hk) ?_
  refine aw_aload_n C dX3_drop_5 Lk0 ?_
  refine aw_gX3_land C  dX3_drop_6 (by decide +kernel) (by decide +kernel) ?_
  refine aw_iload_n C dX3_drop_9 Lk1 ?_
  refine aw_cV1 C dX3_drop_10 gX3_drop_X0_likesOf sX0_likesOf (rm := rmX0_likesOf) rfl recLand (c_X0_likesOf (by omega)) ?_
  refine aw_astore_n C dX3_drop_13 St3 rfl ?_
  refine aw_aload_n C dX3_drop_14 Lk3 ?_
  refine aw_iload_n C dX3_drop_15 Lk2 ?_
  refine aw_cS2v C dX3_drop_16 gX3_drop_X3_needPlace sX3_needPlace (rm := rmX3_needPlace) rfl (c_X3_needPlace hj (by omega) (by omega)) ?_
  refine aw_aload_n C dX3_drop_19 Lk3 ?_
  refine aw_iload_n C dX3_drop_20 Lk2 ?_
  refine aw_cV1 C dX3_drop_21 gX3_drop_X1_take sX1_take (rm := rmX1_take) rfl (recRow hj) (c_X1_take hj (by omega) (by omega)) ?_
  rw [hl1]
  refine aw_istore C dX3_drop_24 St4 rfl ?_
  refine aw_aload_n C dX3_drop_26 Lk0 ?_
  refine aw_gX3_trade C  dX3_drop_27 (by decide +kernel) (by decide +kernel) ?_
  refine aw_cV0v C dX3_drop_30 gX3_drop_X2_runForAll sX2_runForAll (rm := rmX2_runForAll) rfl (recTr (show 0 < 2 by decide)) (c_X2_runForAll (show 0 < 2 by decide) (H.1.drop hk hi) (H.2.1.drop hk hn hi)) ?_
  refine aw_iload C dX3_drop_33 Lk4 ?_
  exact aw_iend C dX3_drop_35 rfl rfl









end HUT2
