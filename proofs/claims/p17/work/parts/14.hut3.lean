/-! HutRings: move, mean, digest -/
/-- the hut that k gets -/
def GN (h : Nat → Nat) (n : Nat) (L : Nat → List Nat) (k : Nat) : Nat := (FG (TL h n L) (t0A n) n h k).toNatClampNeg
/-- the place of x in a list -/
def ixL (l : List Nat) (x : Nat) : Nat := ow (fun p => l.getD p 0) l.length x
/-- the lists behind a move -/
def mvL (h : Nat → Nat) (n : Nat) (L : Nat → List Nat) (k : Nat) : List Nat := if GN h n L k = h k then L k else (L k).take (ixL (L k) (GN h n L k))
section GOT
variable {σ : CS} {n : Nat} {h : Nat → Nat} {L : Nat → List Nat}
theorem GN_spec (W : WF n h L) {k : Nat} (hk : k < n) : ∃ r, r < rn (TL h n L) (t0A n) n ∧ clR (TL h n L) (t0A n) r k = true ∧ GN h n L k = h (faR (TL h n L) (t0A n) r k) ∧ FG (TL h n L) (t0A n) n h k = nI (GN h n L k) ∧ GN h n L k < n := by
  obtain ⟨r, h1, h2, h3, -, -⟩ := clo_n (T := TL h n L) t0A_ok W.1 (t0A_t hk)
  have h4 : FG (TL h n L) (t0A n) n h k = nI (h (faR (TL h n L) (t0A n) r k)) := h3 h _
  have h5 := W.2.1 _ (thR_lt t0A_ok (faR_th (clR_th h2).1))
  have hn := W.1
  have h6 : GN h n L k = h (faR (TL h n L) (t0A n) r k) := by rw [GN, h4, nI_clamp (by omega)]
  exact ⟨r, h1, h2, h6, by rw [h4, h6], by rw [h6]; exact h5⟩
theorem faR_back {T : Nat → List Nat} {t0 : Nat → Bool} {r i : Nat} (h : clR T t0 r i = true) : itF (faR T t0 r) (cyR T t0 r i - 1) (faR T t0 r i) = i := by
  obtain ⟨a1, -, a3, -⟩ := cy_pos (clR_th h).2.1
  have e := itF_back a3 (show 1 ≤ cyR T t0 r i from a1)
  exact e
theorem clR_next {T : Nat → List Nat} {t0 : Nat → Bool} {r i : Nat} (h : clR T t0 r i = true) : clR T t0 r (faR T t0 r i) = true ∧ cyR T t0 r (faR T t0 r i) = cyR T t0 r i := by
  by_cases e : 1 < cyR T t0 r i
  · exact clR_ring h e
  · obtain ⟨a1, -, a3, -⟩ := cy_pos (clR_th h).2.1
    have e1 : cyR T t0 r i = 1 := by have : 1 ≤ cyR T t0 r i := a1; omega
    have e2 : faR T t0 r i = i := by
      have a4 : itF (faR T t0 r) (cyR T t0 r i) i = i := a3
      rw [e1] at a4
      exact a4
    rw [e2]; exact ⟨h, rfl⟩
theorem GN_inj (W : WF n h L) {i j : Nat} (hij : i < j) (hj : j < n) : GN h n L i ≠ GN h n L j := by
  intro e
  obtain ⟨r, -, c1, g1, -, -⟩ := GN_spec W (show i < n by omega)
  obtain ⟨q, -, c2, g2, -, -⟩ := GN_spec W hj
  have f1 := clR_next c1
  have f2 := clR_next c2
  have hf : faR (TL h n L) (t0A n) r i = faR (TL h n L) (t0A n) q j := W.inj (thR_lt t0A_ok (clR_th f1.1).1) (thR_lt t0A_ok (clR_th f2.1).1) (by rw [← g1, ← g2]; exact e)
  have apart : ∀ {u w x : Nat}, u < w → clR (TL h n L) (t0A n) u x = true → clR (TL h n L) (t0A n) w x = true → False := fun huw a b => by
    have h1 := (clR_th a).2.2
    rw [thR_mono huw (clR_th b).1] at h1
    cases h1
  rcases Nat.lt_trichotomy r q with hr | hr | hr
  · exact apart hr f1.1 (by rw [hf]; exact f2.1)
  · subst hr
    have b1 := faR_back c1
    have b2 := faR_back c2
    rw [← f1.2, hf] at b1
    rw [← f2.2] at b2
    rw [b1] at b2
    omega
  · exact apart hr f2.1 (by rw [← hf]; exact f1.1)
theorem GN_in (W : WF n h L) {k : Nat} (hk : k < n) : GN h n L k = h k ∨ ∃ p, p < (L k).length ∧ (L k).getD p 0 = GN h n L k := by
  obtain ⟨r, -, c1, g1, -, -⟩ := GN_spec W hk
  rw [g1]
  simp only [faR, fT]
  cases e : (TL h n L k).find? (thR (TL h n L) (t0A n) r) with
  | none => exact Or.inl rfl
  | some q =>
    refine Or.inr ?_
    have hm := List.mem_of_find?_eq_some e
    obtain ⟨x, hx, rfl⟩ := List.mem_map.mp hm
    obtain ⟨p, hp⟩ := List.getElem?_of_mem hx
    have hp2 : p < (L k).length := (List.getElem?_eq_some_iff.mp hp).1
    have hp3 : (L k).getD p 0 = x := by rw [List.getD_eq_getElem?_getD, hp]; rfl
    have hxn : x < n := by rw [← hp3]; exact ((W.2.2.2 k hk).1 p hp2).1
    exact ⟨p, hp2, by rw [hp3]; exact (W.ow hxn).2.symm⟩
theorem ixL_lt (W : WF n h L) {k : Nat} (hk : k < n) (hg : ¬ GN h n L k = h k) : ixL (L k) (GN h n L k) < (L k).length ∧ (L k).getD (ixL (L k) (GN h n L k)) 0 = GN h n L k :=
  ow_spec (h := fun p => (L k).getD p 0) ((GN_in W hk).resolve_left hg)
theorem WF.move (W : WF n h L) : WF n (GN h n L) (mvL h n L) := by
  refine ⟨W.1, fun k hk => ?_, fun i j hij hj => GN_inj W hij hj, fun k hk => ?_⟩
  · obtain ⟨-, -, -, -, -, h6⟩ := GN_spec W hk
    exact h6
  · obtain ⟨a, b⟩ := W.2.2.2 k hk
    by_cases e : GN h n L k = h k
    · simp only [mvL, if_pos e, e]
      exact ⟨a, b⟩
    · simp only [mvL, if_neg e]
      obtain ⟨i1, i2⟩ := ixL_lt W hk e
      have hlen : ((L k).take (ixL (L k) (GN h n L k))).length = ixL (L k) (GN h n L k) := by simp; omega
      refine ⟨fun p hp => ?_, fun p q hpq hq => ?_⟩
      · rw [hlen] at hp
        rw [takL_at hp]
        refine ⟨(a p (by omega)).1, ?_⟩
        exact (owG_spec (fun p => (L k).getD p 0) (GN h n L k) (L k).length 0).2.2.2 p (Nat.zero_le _) hp
      · rw [hlen] at hq
        rw [takL_at (by omega), takL_at hq]
        exact b p q hpq (by omega)
/-- the state while all move: the keepers below i have -/
def mvS (σ : CS) (h : Nat → Nat) (n : Nat) (L : Nat → List Nat) : Nat → CS
  | 0 => σ
  | i + 1 => cs2 (if GN h n L i = h i then mvS σ h n L i else csR (mvS σ h n L i) (kR i) (ixL (L i) (GN h n L i)) ((mvS σ h n L i).2.1 (kR i))) 0 i (nI (GN h n L i))
theorem mvS_at (i : Nat) : (mvS σ h n L i).1 0 = σ.1 0 ∧ (i ≤ 10 → ∀ q, 10 < q → (mvS σ h n L i).1 q = σ.1 q) ∧ (∀ q, 0 < q → (mvS σ h n L i).2.1 q = σ.2.1 q) ∧ (∀ k, (mvS σ h n L i).2.1 0 k = if k < i then nI (GN h n L k) else σ.2.1 0 k) ∧
    (i ≤ 10 → ∀ k, k < 10 → (mvS σ h n L i).1 (kR k) = if k < i ∧ ¬ GN h n L k = h k then ixL (L k) (GN h n L k) else σ.1 (kR k)) := by
  induction i with
  | zero => exact ⟨rfl, fun _ _ _ => rfl, fun _ _ => rfl, fun k => by simp [mvS], fun _ k _ => by simp [mvS]⟩
  | succ i ih =>
    obtain ⟨b1, b2, b3, b4, b5⟩ := ih
    have hk0 : ∀ k, kR k ≠ 0 := fun k => by simp only [kR]; omega
    refine ⟨?_, fun hi q hq => ?_, fun q hq => ?_, fun k => ?_, fun hi k hk => ?_⟩
    · simp only [mvS]
      by_cases e : GN h n L i = h i
      · rw [if_pos e]; exact b1
      · rw [if_neg e]; show (csR (mvS σ h n L i) (kR i) (ixL (L i) (GN h n L i)) ((mvS σ h n L i).2.1 (kR i))).1 0 = _; rw [csR_1n (fun z => hk0 i z.symm)]; exact b1
    · simp only [mvS]
      by_cases e : GN h n L i = h i
      · rw [if_pos e]; exact b2 (by omega) q hq
      · rw [if_neg e]
        show (csR (mvS σ h n L i) (kR i) (ixL (L i) (GN h n L i)) ((mvS σ h n L i).2.1 (kR i))).1 q = _
        rw [csR_1n (by simp only [kR]; omega)]; exact b2 (by omega) q hq
    · simp only [mvS, cs2]
      rw [if_neg (by omega)]
      by_cases e : GN h n L i = h i
      · rw [if_pos e]; exact b3 q hq
      · rw [if_neg e]
        by_cases e2 : q = kR i
        · rw [e2, csR_2]; exact b3 _ (by simp only [kR]; omega)
        · rw [csR_2n e2]; exact b3 q hq
    · simp only [mvS, cs2, if_pos True.intro, upd]
      by_cases ek : k = i
      · rw [if_pos ek, ek, if_pos (Nat.lt_succ_self i)]
      · rw [if_neg ek]
        have e3 : (if GN h n L i = h i then mvS σ h n L i else csR (mvS σ h n L i) (kR i) (ixL (L i) (GN h n L i)) ((mvS σ h n L i).2.1 (kR i))).2.1 0 = (mvS σ h n L i).2.1 0 := by
          by_cases e : GN h n L i = h i
          · rw [if_pos e]
          · rw [if_neg e, csR_2n (fun z => hk0 i z.symm)]
        rw [e3, b4 k]
        by_cases c : k < i
        · rw [if_pos c, if_pos (by omega)]
        · rw [if_neg c, if_neg (by omega)]
    · simp only [mvS]
      show (if GN h n L i = h i then mvS σ h n L i else csR (mvS σ h n L i) (kR i) (ixL (L i) (GN h n L i)) ((mvS σ h n L i).2.1 (kR i))).1 (kR k) = _
      by_cases ek : k = i
      · subst ek
        by_cases e : GN h n L k = h k
        · rw [if_pos e, b5 (by omega) k hk, if_neg (fun z => z.2 e), if_neg (fun z => z.2 e)]
        · rw [if_neg e, csR_1, if_pos ⟨Nat.lt_succ_self k, e⟩]
      · have e3 : (if GN h n L i = h i then mvS σ h n L i else csR (mvS σ h n L i) (kR i) (ixL (L i) (GN h n L i)) ((mvS σ h n L i).2.1 (kR i))).1 (kR k) = (mvS σ h n L i).1 (kR k) := by
          by_cases e : GN h n L i = h i
          · rw [if_pos e]
          · rw [if_neg e, csR_1n (by simp only [kR]; omega)]
        rw [e3, b5 (by omega) k hk]
        by_cases c : k < i ∧ ¬ GN h n L k = h k
        · rw [if_pos c, if_pos ⟨by omega, c.2⟩]
        · rw [if_neg c, if_neg (fun z => c ⟨by omega, z.2⟩)]
theorem LandR.move (W : WF n h L) (R : LandR σ n h L) : LandR (mvS σ h n L n) n (GN h n L) (mvL h n L) := by
  have hn := W.1
  obtain ⟨r1, r2, r3, r4⟩ := R
  obtain ⟨b1, b2, b3, b4, b5⟩ := mvS_at (σ := σ) (h := h) (n := n) (L := L) n
  refine ⟨by rw [b1]; exact r1, fun k hk => by rw [b4 k, if_pos hk], fun k hk hk2 => by rw [b5 hn k hk, if_neg (by omega)]; exact r3 k hk hk2, fun k hk => ?_⟩
  rw [b5 hn k (by omega), b3 (kR k) (by simp only [kR]; omega)]
  by_cases e : GN h n L k = h k
  · rw [if_neg (fun z => z.2 e)]
    simp only [mvL, if_pos e]
    exact r4 k hk
  · rw [if_pos ⟨hk, e⟩]
    simp only [mvL, if_neg e]
    obtain ⟨i1, i2⟩ := ixL_lt W hk e
    have hlen : ((L k).take (ixL (L k) (GN h n L k))).length = ixL (L k) (GN h n L k) := by simp; omega
    rw [hlen]
    refine ⟨rfl, fun p hp => ?_⟩
    rw [takL_at hp]
    exact (r4 k hk).2 p (by omega)
theorem rSum_le {f : Nat → Int32} {m : Nat} : ∀ n, (∀ k, k < n → ∃ d, d ≤ m ∧ f k = nI d) → ∃ s, s ≤ n * m ∧ rSum f n = nI s := by
  intro n
  induction n with
  | zero => intro _; exact ⟨0, by omega, rfl⟩
  | succ n ih =>
    intro hf
    obtain ⟨s, h1, h2⟩ := ih (fun k hk => hf k (by omega))
    obtain ⟨d, h3, h4⟩ := hf n (Nat.lt_succ_self n)
    refine ⟨s + d, by rw [Nat.succ_mul]; omega, ?_⟩
    rw [rSum, h2, h4, nI_add]
theorem mean_ok : ∀ s, s < 101 → ∀ n, n < 11 → n ≠ 0 → vf_n64 (FP.ddiv (FP.i2d (nI s)) (FP.i2d (nI n))) := by
  have h : (List.range 101).all (fun s => (List.range 11).all (fun n => n == 0 || decide (FP.ddiv (FP.i2d (nI s)) (FP.i2d (nI n)) &&& 0x7fffffffffffffff ≤ 0x7ff0000000000000))) = true := by decide +kernel
  intro s hs n hn h0
  have h1 := List.all_eq_true.mp h s (List.mem_range.mpr hs)
  have h2 := List.all_eq_true.mp h1 n (List.mem_range.mpr hn)
  simp only [Bool.or_eq_true, beq_iff_eq, decide_eq_true_eq] at h2
  exact h2.resolve_left h0
theorem FD_le (W : WF n h L) {k : Nat} (hk : k < n) : ∃ d, d ≤ 10 ∧ FD (TL h n L) (t0A n) n k = nI d := by
  obtain ⟨r, h1, -, -, h4, -⟩ := clo_n (T := TL h n L) t0A_ok W.1 (t0A_t hk)
  have := rn_le (T := TL h n L) (t0 := t0A n) (n := n)
  exact ⟨r + 1, by omega, h4 _⟩
/-- what told and count tell, by their numbers -/
def toldF (σ : CS) (k : Nat) : Nat → Int32
  | 0 => σ.2.1 0 k
  | 1 => nI (σ.1 (kR k))
  | 2 => σ.2.1 (gR 0) k
  | 3 => σ.2.1 (dR 0) k
  | 4 => σ.2.1 (zR 0) k
  | _ => gotR σ k
def cntF (σ : CS) (n : Nat) : Nat → Int32
  | 0 => nI n
  | 1 => σ.2.2 (3 * 0 + 1)
  | 2 => σ.2.2 (3 * 0 + 2)
  | 3 => nI (fb_ct (anoB σ) n)
  | 4 => rSum (gotR σ) n
  | _ => rMax (σ.2.1 (zR 0)) n
def dgF (f : Nat → Int32) (d : Int64) : Nat → Int64
  | 0 => d
  | m + 1 => dgF f d m * 31 + (f m).toInt64
/-- a keeper's part of the checksum: what told tells, the list, whom it points at first -/
def dgK (f g : Nat → Int32) (len : Nat) (x : Int32) (d : Int64) : Int64 := dgF g (dgF f d 6) len * 31 + x.toInt64
def dgA (F : Nat → Int64 → Int64) (d : Int64) : Nat → Int64
  | 0 => d
  | m + 1 => F m (dgA F d m)
def dgC (σ : CS) (n : Nat) (h : Nat → Nat) (L : Nat → List Nat) (k : Nat) (d : Int64) : Int64 := dgK (toldF σ k) (σ.2.1 (kR k)) (L k).length (nI (fT (TL h n L) (t0A n) k)) d
end GOT
section HUT3
variable {l : Launch} {D : va_G} {cI cZ cR cJ : ClassId} {a : Nat → Nat}
theorem c_X3_told {σ : CS} {n : Nat} {h : Nat → Nat} {L : Nat → List Nat} (H : HInv σ n h L) {k : Nat} (hk : k < n) {w : Nat} (hw : w < 6) : aM l D (cTys cI cZ cR cJ) 49 a yX3_told wsX3_told rmX3_told [.ref (a 44), .int (nI k), .int (nI w)] (cv cI cR a σ) (some (.int (toldF σ k w))) (cv cI cR a σ) := by
  rcases (show w = 0 ∨ w = 1 ∨ w = 2 ∨ w = 3 ∨ w = 4 ∨ w = 5 by omega) with rfl | rfl | rfl | rfl | rfl | rfl
  · exact c_X3_told_0 H hk
  · exact c_X3_told_1 H hk
  · exact c_X3_told_2 H hk
  · exact c_X3_told_3 H hk
  · exact c_X3_told_4 H hk
  · exact c_X3_told_5 H hk
theorem c_X3_count {σ : CS} {n : Nat} {h : Nat → Nat} {L : Nat → List Nat} (H : HInv σ n h L) {w : Nat} (hw : w < 6) : aM l D (cTys cI cZ cR cJ) 49 a yX3_count wsX3_count rmX3_count [.ref (a 44), .int (nI w)] (cv cI cR a σ) (some (.int (cntF σ n w))) (cv cI cR a σ) := by
  rcases (show w = 0 ∨ w = 1 ∨ w = 2 ∨ w = 3 ∨ w = 4 ∨ w = 5 by omega) with rfl | rfl | rfl | rfl | rfl | rfl
  · exact c_X3_count_0 H
  · exact c_X3_count_1 H
  · exact c_X3_count_2 H
  · exact c_X3_count_3 H
  · exact c_X3_count_4 H
  · exact c_X3_count_5 H
set_option maxHeartbeats 4000000 in
set_option maxRecDepth 100000 in
theorem c_X3_move {σ : CS} {n : Nat} {h : Nat → Nat} {L : Nat → List Nat} (H : HInv σ n h L) : aM l D (cTys cI cZ cR cJ) 49 a yX3_move wsX3_move rmX3_move [.ref (a 44)] (cv cI cR a (σ)) (some (.int (nI (fb_ct (anoB σ) n)))) (cv cI cR a (enS (stS (mvS σ h n L n) 0 n) 0 n (TL (GN h n L) n (mvL h n L)) (t0A n) (GN h n L))) := by
  obtain ⟨hn, s0, sg, sd, sz, sm⟩ := H.sz
  refine aM_of sX3_move (lv0 := [some (.ref (a 44)), none, none]) (j := 2) rfl rfl ?_
  intro pM eM sM mM argsM belowM methM cM AM C
  refine aw_aload_n C dX3_move_0 Lk0 ?_
  refine aw_cV0 C dX3_move_1 gX3_move_X3_keepersWithAnotherHut sX3_keepersWithAnotherHut (rm := rmX3_keepersWithAnotherHut) rfl recHut (c_X3_keepersWithAnotherHut H) ?_
  refine aw_istore_n C dX3_move_4 St1 rfl ?_
  refine aw_iconst C dX3_move_5 (x := nI 0) (by decide) ?_
  refine aw_istore_n C dX3_move_6 St2 rfl ?_
  have hl_7 : ∀ (j i : Nat) (hj : i + j = n), aW pM l eM rmX3_move sM mM argsM belowM methM cM (MQ belowM (aQ D 49 a (cv cI cR a (enS (stS (mvS σ h n L n) 0 n) 0 n (TL (GN h n L) n (mvL h n L)) (t0A n) (GN h n L))) (some (.int (nI (fb_ct (anoB σ) n)))) AM) argsM sM 0 0 AM) D AM 0 0 49 a (cv cI cR a (mvS σ h n L i)) 7 [some (.ref (a 44)), some (.int (nI (fb_ct (anoB σ) n))), some (.int (nI i))] [] := by
    intro j
    induction j with
    | zero =>
      intro i hj
      have hin : i = n := by omega
      rw [hin]
      obtain ⟨b1, -, -, -, -⟩ := mvS_at (σ := σ) (h := h) (n := n) (L := L) n
      refine aw_iload_n C dX3_move_7 Lk2 ?_
      refine aw_aload_n C dX3_move_8 Lk0 ?_
      refine aw_gX3_land C  dX3_move_9 (by decide +kernel) (by decide +kernel) ?_
      refine aw_cV0 C dX3_move_12 gX3_move_X0_size sX0_size (rm := rmX0_size) rfl recLand c_X0_size ?_
      rw [b1, s0]
      refine aw_icmp_ge C dX3_move_15 (tgt := 40) (by decide) (fun c_15 => ?_) (fun c_15 => absurd (nI_le (Nat.le_refl _) (by omega)) c_15)
      refine aw_aload_n C dX3_move_40 Lk0 ?_
      refine aw_gX3_trade C  dX3_move_41 (by decide +kernel) (by decide +kernel) ?_
      refine aw_cV0v C dX3_move_44 gX3_move_X2_runForAll sX2_runForAll (rm := rmX2_runForAll) rfl (recTr (show 0 < 2 by decide)) (c_X2_runForAll (show 0 < 2 by decide) H.1.move (LandR.move H.1 H.2.1)) ?_
      refine aw_iload_n C dX3_move_47 Lk1 ?_
      exact aw_iend C dX3_move_48 rfl rfl
    | succ j ih =>
      intro i hj
      have hi : i < n := by omega
      obtain ⟨b1, b2, b3, b4, b5⟩ := mvS_at (σ := σ) (h := h) (n := n) (L := L) i
      obtain ⟨-, -, -, -, hfg, hgn⟩ := GN_spec H.1 hi
      have hlen := H.ls hi
      have hcell := (H.2.1.2.2.2 i hi).2
      have hhut := H.1.2.1 i hi
      have hk1 : (mvS σ h n L i).1 (kR i) = (L i).length := by rw [b5 (by omega) i (by omega), if_neg (by omega)]; exact hlen.1
      have hk2 : (mvS σ h n L i).2.1 (kR i) = σ.2.1 (kR i) := b3 _ (by simp only [kR]; omega)
      have hkb : ∀ p, p < (L i).length → σ.2.1 (kR i) p = nI ((L i).getD p 0) ∧ (L i).getD p 0 < 2 ^ 31 := fun p hp => ⟨hcell p hp, by have := ((H.1.2.2.2 i hi).1 p hp).1; omega⟩
      have hmv : aM l D (cTys cI cZ cR cJ) 49 a yX0_moveInto wsX0_moveInto rmX0_moveInto [.ref (a 45), .int (nI i), .int (nI (GN h n L i))] (cv cI cR a (mvS σ h n L i)) none (cv cI cR a (mvS σ h n L (i + 1))) := by
        by_cases hg : GN h n L i = h i
        · have hm : mvS σ h n L (i + 1) = cs2 (mvS σ h n L i) 0 i (nI (GN h n L i)) := by simp only [mvS, if_pos hg]
          rw [hm]
          refine c_X0_moveInto_neg (by omega) (by omega) (by omega) (by omega) ?_
          rw [hk1, hk2]
          exact rFind_no (h := fun p => (L i).getD p 0) (by omega) hkb (fun p hp => by rw [hg]; exact ((H.1.2.2.2 i hi).1 p hp).2)
        · have hm : mvS σ h n L (i + 1) = cs2 (csR (mvS σ h n L i) (kR i) (ixL (L i) (GN h n L i)) ((mvS σ h n L i).2.1 (kR i))) 0 i (nI (GN h n L i)) := by simp only [mvS, if_neg hg]
          rw [hm]
          obtain ⟨i1, i2⟩ := ixL_lt H.1 hi hg
          refine c_X0_moveInto (by omega) (by omega) (by omega) (by omega) (by rw [hk1]; exact i1) ?_
          rw [hk1, hk2]
          exact rFind_at (h := fun p => (L i).getD p 0) (by omega) hkb ((GN_in H.1 hi).resolve_left hg)
      refine aw_iload_n C dX3_move_7 Lk2 ?_
      refine aw_aload_n C dX3_move_8 Lk0 ?_
      refine aw_gX3_land C  dX3_move_9 (by decide +kernel) (by decide +kernel) ?_
      refine aw_cV0 C dX3_move_12 gX3_move_X0_size sX0_size (rm := rmX0_size) rfl recLand c_X0_size ?_
      rw [b1, s0]
      refine aw_icmp_ge C dX3_move_15 (tgt := 40) (by decide) (fun c_15 => absurd c_15 (nI_ge hi (by omega))) (fun c_15 => ?_)
      refine aw_aload_n C dX3_move_18 Lk0 ?_
      refine aw_gX3_land C  dX3_move_19 (by decide +kernel) (by decide +kernel) ?_
      refine aw_iload_n C dX3_move_22 Lk2 ?_
      refine aw_aload_n C dX3_move_23 Lk0 ?_
      refine aw_gX3_trade C  dX3_move_24 (by decide +kernel) (by decide +kernel) ?_
      refine aw_iload_n C dX3_move_27 Lk2 ?_
      refine aw_cV1 C dX3_move_28 gX3_move_X2_hutFor sX2_hutFor (rm := rmX2_hutFor) rfl (recTr (show 0 < 2 by decide)) (c_X2_hutFor (show 0 < 2 by decide) (by rw [b2 (by omega) _ (by decide)]; omega) (by rw [b2 (by omega) _ (by decide)]; omega)) ?_
      rw [b3 (gR 0) (by decide), (H.2.2.2.2.2.2.2.2.2 i hi).1, hfg]
      refine aw_cV2v C dX3_move_31 gX3_move_X0_moveInto sX0_moveInto (rm := rmX0_moveInto) rfl recLand hmv ?_
      refine aw_iinc C dX3_move_34 Lk2 (nI_1 _) St2 rfl ?_
      refine aw_goto C dX3_move_37 (tgt := 7) (by decide) ?_
      exact ih (i + 1) (by omega)
  exact hl_7 n 0 (by omega)
set_option maxHeartbeats 4000000 in
set_option maxRecDepth 100000 in
theorem c_X3_mean {σ : CS} {n : Nat} {h : Nat → Nat} {L : Nat → List Nat} (H : HInv σ n h L) : aM l D (cTys cI cZ cR cJ) 49 a yX3_mean wsX3_mean rmX3_mean [.ref (a 44)] (cv cI cR a (σ)) (some (.double (if n = 0 then 0 else FP.ddiv (FP.i2d (rSum (σ.2.1 (dR 0)) n)) (FP.i2d (nI n))))) (cv cI cR a (σ)) := by
  obtain ⟨hn, s0, sg, sd, sz, sm⟩ := H.sz
  refine aM_of sX3_mean (lv0 := [some (.ref (a 44)), none]) (j := 1) rfl rfl ?_
  intro pM eM sM mM argsM belowM methM cM AM C
  refine aw_aload_n C dX3_mean_0 Lk0 ?_
  refine aw_gX3_land C  dX3_mean_1 (by decide +kernel) (by decide +kernel) ?_
  refine aw_cV0 C dX3_mean_4 gX3_mean_X0_size sX0_size (rm := rmX0_size) rfl recLand c_X0_size ?_
  rw [s0]
  refine aw_istore_n C dX3_mean_7 St1 rfl ?_
  refine aw_iload_n C dX3_mean_8 Lk1 ?_
  refine aw_if_ne C dX3_mean_9 (tgt := 16) (by decide) (fun c_9 => ?_) (fun c_9 => ?_)
  · skip
    have h0 : n ≠ 0 := fun z9 => c_9 (congrArg nI z9)
    obtain ⟨sv, hs1, hs2⟩ := rSum_le (f := σ.2.1 (dR 0)) (m := 10) n (fun k hk => by rw [(H.2.2.2.2.2.2.2.2.2 k hk).2.1]; exact FD_le H.1 hk)
    refine aw_aload_n C dX3_mean_16 Lk0 ?_
    refine aw_gX3_trade C  dX3_mean_17 (by decide +kernel) (by decide +kernel) ?_
    refine aw_cV0 C dX3_mean_20 gX3_mean_X2_roundsAdded sX2_roundsAdded (rm := rmX2_roundsAdded) rfl (recTr (show 0 < 2 by decide)) (c_X2_roundsAdded (show 0 < 2 by decide) (by omega)) ?_
    rw [sd]
    refine aw_i2d C dX3_mean_23 ?_
    refine aw_iload_n C dX3_mean_24 Lk1 ?_
    refine aw_i2d C dX3_mean_25 ?_
    refine aw_ddiv C dX3_mean_26 (by rw [hs2]; exact mean_ok sv (by omega) n (by omega) h0) ?_
    exact aw_dend C dX3_mean_27 rfl (by rw [if_neg h0])
  · skip
    have h0 : n = 0 := nI_inj (by omega) (by omega) (Classical.not_not.mp c_9)
    refine aw_dconst0 C dX3_mean_12 rfl ?_
    refine aw_goto C dX3_mean_13 (tgt := 27) (by decide) ?_
    exact aw_dend C dX3_mean_27 rfl (by rw [if_pos h0])


end HUT3
