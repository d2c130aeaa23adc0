/-! HutRingsModel: its rounds -/
def mST (τ : MS) (g d z m e : Nat → Int32) (la ri gr : Int32) : MS :=
  (fun i => if i = 10 then la else if i = 11 then ri else if i = 12 then gr else τ.1 i, fun q => if q = 4 then g else if q = 5 then d else if q = 6 then z else if q = 7 then m else if q = 8 then e else τ.2 q)
section MSTS
variable {τ : MS} {g d z m e : Nat → Int32} {la ri gr : Int32} {i : Nat} {x : Int32}
theorem mST_g : (mST τ g d z m e la ri gr).2 4 = g := rfl
theorem mST_d : (mST τ g d z m e la ri gr).2 5 = d := rfl
theorem mST_z : (mST τ g d z m e la ri gr).2 6 = z := rfl
theorem mST_m : (mST τ g d z m e la ri gr).2 7 = m := rfl
theorem mST_e : (mST τ g d z m e la ri gr).2 8 = e := rfl
theorem mST_la : (mST τ g d z m e la ri gr).1 10 = la := rfl
theorem mST_ri : (mST τ g d z m e la ri gr).1 11 = ri := rfl
theorem mST_gr : (mST τ g d z m e la ri gr).1 12 = gr := rfl
theorem mST_n : (mST τ g d z m e la ri gr).1 1 = τ.1 1 := rfl
theorem mST_h : (mST τ g d z m e la ri gr).2 1 = τ.2 1 := rfl
theorem mST_l : (mST τ g d z m e la ri gr).2 2 = τ.2 2 := rfl
theorem mST_go : (mST τ g d z m e la ri gr).1 13 = τ.1 13 := rfl
theorem mST_fe : (mST τ g d z m e la ri gr).1 14 = τ.1 14 := rfl
theorem mST_fd : (mST τ g d z m e la ri gr).1 15 = τ.1 15 := rfl
theorem mST_li {k : Nat} : liF (mST τ g d z m e la ri gr) k = liF τ k := rfl
theorem mST_self : mST τ (τ.2 4) (τ.2 5) (τ.2 6) (τ.2 7) (τ.2 8) (τ.1 10) (τ.1 11) (τ.1 12) = τ := by
  refine Prod.ext (funext fun q => ?_) (funext fun q => ?_)
  · simp only [mST]
    by_cases e1 : q = 10
    · rw [if_pos e1, e1]
    · rw [if_neg e1]
      by_cases e2 : q = 11
      · rw [if_pos e2, e2]
      · rw [if_neg e2]
        by_cases e3 : q = 12
        · rw [if_pos e3, e3]
        · rw [if_neg e3]
  · simp only [mST]
    by_cases e1 : q = 4
    · rw [if_pos e1, e1]
    · rw [if_neg e1]
      by_cases e2 : q = 5
      · rw [if_pos e2, e2]
      · rw [if_neg e2]
        by_cases e3 : q = 6
        · rw [if_pos e3, e3]
        · rw [if_neg e3]
          by_cases e4 : q = 7
          · rw [if_pos e4, e4]
          · rw [if_neg e4]
            by_cases e5 : q = 8
            · rw [if_pos e5, e5]
            · rw [if_neg e5]
theorem mST_sg : ms2 (mST τ g d z m e la ri gr) 4 i x = mST τ (upd g i x) d z m e la ri gr := by
  refine Prod.ext rfl (funext fun q => ?_)
  simp only [ms2, mST]
  by_cases e1 : q = 4
  · subst e1; rfl
  · simp only [if_neg e1]
theorem mST_sd : ms2 (mST τ g d z m e la ri gr) 5 i x = mST τ g (upd d i x) z m e la ri gr := by
  refine Prod.ext rfl (funext fun q => ?_)
  simp only [ms2, mST]
  by_cases e1 : q = 5
  · subst e1; rfl
  · simp only [if_neg e1]
theorem mST_sz : ms2 (mST τ g d z m e la ri gr) 6 i x = mST τ g d (upd z i x) m e la ri gr := by
  refine Prod.ext rfl (funext fun q => ?_)
  simp only [ms2, mST]
  by_cases e1 : q = 6
  · subst e1; rfl
  · simp only [if_neg e1]
theorem mST_sm : ms2 (mST τ g d z m e la ri gr) 7 i x = mST τ g d z (upd m i x) e la ri gr := by
  refine Prod.ext rfl (funext fun q => ?_)
  simp only [ms2, mST]
  by_cases e1 : q = 7
  · subst e1; rfl
  · simp only [if_neg e1]
theorem mST_se : ms2 (mST τ g d z m e la ri gr) 8 i x = mST τ g d z m (upd e i x) la ri gr := by
  refine Prod.ext rfl (funext fun q => ?_)
  simp only [ms2, mST]
  by_cases e1 : q = 8
  · subst e1; rfl
  · simp only [if_neg e1]
theorem mST_sla : ms1 (mST τ g d z m e la ri gr) 10 x = mST τ g d z m e x ri gr := by
  refine Prod.ext (funext fun q => ?_) rfl
  simp only [ms1, mST, upd]
  by_cases e1 : q = 10
  · subst e1; rfl
  · simp only [if_neg e1]
theorem mST_sri : ms1 (mST τ g d z m e la ri gr) 11 x = mST τ g d z m e la x gr := by
  refine Prod.ext (funext fun q => ?_) rfl
  simp only [ms1, mST, upd]
  by_cases e1 : q = 11
  · subst e1; rfl
  · simp only [if_neg e1]
theorem mST_sgr : ms1 (mST τ g d z m e la ri gr) 12 x = mST τ g d z m e la ri x := by
  refine Prod.ext (funext fun q => ?_) rfl
  simp only [ms1, mST, upd]
  by_cases e1 : q = 12
  · subst e1; rfl
  · simp only [if_neg e1]
end MSTS
/-- the land by which the reference runs: who is gone, whose list is feigned -/
def MRun (τ : MS) (n : Nat) (h : Nat → Nat) (T : Nat → List Nat) (t0 : Nat → Bool) : Prop :=
  n ≤ 10 ∧ τ.1 1 = nI n ∧ (∀ k, k < n → τ.2 1 k = nI (h k)) ∧ (∀ k, k < n → (t0 k = true ↔ ¬ nI k = τ.1 13)) ∧
  ∀ k, k < n → (nI k = τ.1 14 → (τ.1 15 = -1 ∧ T k = []) ∨ (¬ τ.1 15 = -1 ∧ ∃ q, T k = [q] ∧ q < n ∧ rFind (τ.2 1) (τ.1 15) n 0 = nI q)) ∧
    (¬ nI k = τ.1 14 → τ.2 2 k = nI (T k).length ∧ (T k).length ≤ 10 ∧ ∀ p, p < (T k).length → rFind (τ.2 1) (liF τ k p) n 0 = nI ((T k).getD p 0) ∧ (T k).getD p 0 < n)
/-- the greatest ring so far -/
def mxF (p : Nat → Bool) (v : Nat → Nat) (a : Nat) : Nat → Nat
  | 0 => a
  | i + 1 => if p i then (if mxF p v a i < v i then v i else mxF p v a i) else mxF p v a i
def grR (T : Nat → List Nat) (t0 : Nat → Bool) (n : Nat) : Nat → Nat
  | 0 => 0
  | r + 1 => mxF (clR T t0 r) (cyR T t0 r) (grR T t0 n r) n
/-- the ring that the reference writes: of all who are there, also 0 -/
def zmR (T : Nat → List Nat) (t0 : Nat → Bool) (z0 : Nat → Int32) : Nat → Nat → Int32
  | 0 => z0
  | r + 1 => fun k => if thR T t0 r k then nI (cyR T t0 r k) else zmR T t0 z0 r k
/-- old, with val at those below i for whom p holds -/
def lpF (p : Nat → Bool) (val old : Nat → Int32) (i : Nat) : Nat → Int32 := fun q => if q < i ∧ p q = true then val q else old q
section LPF
variable {p : Nat → Bool} {val old : Nat → Int32} {i : Nat}
theorem lpF_0 : lpF p val old 0 = old := by
  funext q; simp [lpF]
theorem lpF_t (h : p i = true) : upd (lpF p val old i) i (val i) = lpF p val old (i + 1) := by
  funext q
  simp only [upd, lpF]
  by_cases e : q = i
  · subst e
    rw [if_pos rfl, if_pos ⟨Nat.lt_succ_self q, h⟩]
  · rw [if_neg e]
    by_cases c : q < i ∧ p q = true
    · rw [if_pos c, if_pos ⟨by omega, c.2⟩]
    · rw [if_neg c, if_neg (fun z => c ⟨by omega, z.2⟩)]
theorem lpF_f (h : p i = false) : lpF p val old (i + 1) = lpF p val old i := by
  funext q
  simp only [lpF]
  by_cases c : q < i ∧ p q = true
  · rw [if_pos c, if_pos ⟨by omega, c.2⟩]
  · rw [if_neg c, if_neg]
    rintro ⟨z1, z2⟩
    by_cases e : q = i
    · rw [e, h] at z2; cases z2
    · exact c ⟨by omega, z2⟩
theorem lpF_at (q : Nat) (h : ¬ q < i) : lpF p val old i q = old q := if_neg (fun z => h z.1)
end LPF
theorem upd_self {f : Nat → Int32} {i : Nat} : upd f i (f i) = f := by
  funext q
  simp only [upd]
  by_cases e : q = i
  · rw [if_pos e, e]
  · rw [if_neg e]
/-- who is there, as the reference holds it -/
def eR (n : Nat) (e0 : Nat → Int32) (th : Nat → Bool) : Nat → Int32 := fun q => if q < n then bI (th q) else e0 q
theorem eR_at {n q : Nat} {e0 : Nat → Int32} {th : Nat → Bool} (h : q < n) : eR n e0 th q = bI (th q) := if_pos h
theorem eR_0 {e0 : Nat → Int32} {th : Nat → Bool} : eR 0 e0 th = e0 := by funext q; simp [eR]
theorem eR_s {i : Nat} {e0 : Nat → Int32} {th : Nat → Bool} : upd (eR i e0 th) i (bI (th i)) = eR (i + 1) e0 th := by
  funext q
  simp only [upd, eR]
  by_cases e : q = i
  · subst e
    rw [if_pos rfl, if_pos (Nat.lt_succ_self q)]
  · rw [if_neg e]
    by_cases c : q < i
    · rw [if_pos c, if_pos (by omega)]
    · rw [if_neg c, if_neg (by omega)]
theorem cyG_up {f : Nat → Nat} {k : Nat} (hP : True) : True := hP
/-- a keeper is the least of the ring, as far as s steps show -/
def lsB (f : Nat → Nat) (k s : Nat) : Bool := decide (∀ j, j < s → j = 0 ∨ k < itF f j k)
theorem lsB_1 {f : Nat → Nat} {k : Nat} : lsB f k 1 = true := decide_eq_true (fun j hj => Or.inl (by omega))
theorem lsB_s {f : Nat → Nat} {k s : Nat} (h : 1 ≤ s) : lsB f k (s + 1) = (lsB f k s && decide (k < itF f s k)) := by
  apply Bool.eq_iff_iff.mpr
  simp only [lsB, Bool.and_eq_true, decide_eq_true_eq]
  constructor
  · intro a
    exact ⟨fun j hj => a j (by omega), (a s (by omega)).resolve_left (by omega)⟩
  · rintro ⟨a, c⟩ j hj
    by_cases e : j = s
    · rw [e]; exact Or.inr c
    · exact a j (by omega)
theorem bI_eq {x y : Bool} (h : x = y) : bI x = bI y := by rw [h]
section MOD2
variable {l : Launch} {D : va_G} {cI cZ cR cJ : ClassId} {b : Nat → Nat}
set_option maxHeartbeats 4000000 in
set_option maxRecDepth 100000 in
theorem c_X4_aim {τ : MS} {n : Nat} {h : Nat → Nat} {T : Nat → List Nat} {t0 : Nat → Bool} (H : MRun τ n h T t0) {g d z m e : Nat → Int32} {la ri gr : Int32} {th : Nat → Bool} (hth : ∀ q, q < n → e q = bI (th q)) {k : Nat} (hk : k < n) : aM l D (cTys cI cZ cR cJ) 9 b yX4_aim wsX4_aim rmX4_aim [.ref (b 0), .int (nI k)] (mv cI cZ b (mST τ g d z m e la ri gr)) (some (.int (nI (fT T th k)))) (mv cI cZ b (mST τ g d z m e la ri gr)) := by
  obtain ⟨hn, h1, hh, hgo, hL⟩ := id H
  obtain ⟨hA, hB⟩ := hL k hk
  refine aM_of sX4_aim (lv0 := [some (.ref (b 0)), some (.int (nI k)), none]) (j := 1) rfl rfl ?_
  intro pM eM sM mM argsM belowM methM cM AM C
  refine aw_iload_n C dX4_aim_0 Lk1 ?_
  refine aw_aload_n C dX4_aim_1 Lk0 ?_
  refine aw_gX4_feigner C  dX4_aim_2 (by decide +kernel) (by decide +kernel) ?_
  rw [mST_fe]
  refine aw_icmp_ne C dX4_aim_5 (tgt := 45) (by decide) (fun c_5 => ?_) (fun c_5 => ?_)
  · skip
    obtain ⟨hl1, hl2, hl3⟩ := hB c_5
    refine aw_iconst C dX4_aim_45 (x := nI 0) (by decide) ?_
    refine aw_istore_n C dX4_aim_46 St2 rfl ?_
    have hl_47 : ∀ (j p : Nat) (hj : p + j = (T k).length) (he : (T k).find? th = ((T k).drop p).find? th), aW pM l eM rmX4_aim sM mM argsM belowM methM cM (MQ belowM (aQ D 9 b (mv cI cZ b (mST τ g d z m e la ri gr)) (some (.int (nI (fT T th k)))) AM) argsM sM 0 0 AM) D AM 0 0 9 b (mv cI cZ b (mST τ g d z m e la ri gr)) 47 [some (.ref (b 0)), some (.int (nI k)), some (.int (nI p))] [] := by
      intro j
      induction j with
      | zero =>
        intro p hj he
        refine aw_iload_n C dX4_aim_47 Lk2 ?_
        refine aw_aload_n C dX4_aim_48 Lk0 ?_
        refine aw_gX4_longs C  dX4_aim_49 (by decide +kernel) (by decide +kernel) ?_
        refine aw_iload_n C dX4_aim_52 Lk1 ?_
        refine aw_ilX4n_2 C dX4_aim_53 (by omega) ?_
        rw [mST_l, hl1]
        refine aw_icmp_ge C dX4_aim_54 (tgt := 92) (by decide) (fun c_54 => ?_) (fun c_54 => absurd (nI_le (by omega) (by omega)) c_54)
        refine aw_iload_n C dX4_aim_92 Lk1 ?_
        exact aw_iend C dX4_aim_93 rfl (by rw [fT, he, List.drop_eq_nil_of_le (by omega)]; rfl)
      | succ j ih =>
        intro p hj he
        have hp : p < (T k).length := by omega
        have how := hl3 p hp
        refine aw_iload_n C dX4_aim_47 Lk2 ?_
        refine aw_aload_n C dX4_aim_48 Lk0 ?_
        refine aw_gX4_longs C  dX4_aim_49 (by decide +kernel) (by decide +kernel) ?_
        refine aw_iload_n C dX4_aim_52 Lk1 ?_
        refine aw_ilX4n_2 C dX4_aim_53 (by omega) ?_
        rw [mST_l, hl1]
        refine aw_icmp_ge C dX4_aim_54 (tgt := 92) (by decide) (fun c_54 => absurd c_54 (nI_ge (by omega) (by omega))) (fun c_54 => ?_)
        refine aw_aload_n C dX4_aim_57 Lk0 ?_
        refine aw_gX4_there C  dX4_aim_58 (by decide +kernel) (by decide +kernel) ?_
        refine aw_aload_n C dX4_aim_61 Lk0 ?_
        refine aw_aload_n C dX4_aim_62 Lk0 ?_
        refine aw_iload_n C dX4_aim_63 Lk1 ?_
        refine aw_iload_n C dX4_aim_64 Lk2 ?_
        refine aw_cV2 C dX4_aim_65 gX4_aim_X4_li sX4_li (rm := rmX4_li) rfl recMod (c_X4_li (by omega)) ?_
        rw [mST_li]
        refine aw_cV1 C dX4_aim_68 gX4_aim_X4_owner sX4_owner (rm := rmX4_owner) rfl recMod (c_X4_owner hn (by rw [mST_n]; exact h1)) ?_
        rw [mST_h, how.1]
        refine aw_ilX4n_8 C dX4_aim_71 (by omega) ?_
        rw [mST_e, hth _ how.2]
        refine aw_if_eq C dX4_aim_72 (tgt := 86) (by decide) (fun c_72 => ?_) (fun c_72 => ?_)
        · skip
          have hb : th ((T k).getD p 0) = false := bI_0.mp c_72
          refine aw_iinc C dX4_aim_86 Lk2 (nI_1 _) St2 rfl ?_
          refine aw_goto C dX4_aim_89 (tgt := 47) (by decide) ?_
          exact ih (p + 1) (by omega) (by rw [he, find_drop hp, hb]; rfl)
        · skip
          have hb : th ((T k).getD p 0) = true := by cases e9 : th ((T k).getD p 0) <;> first | rfl | (rw [e9] at c_72; exact absurd rfl c_72)
          refine aw_aload_n C dX4_aim_75 Lk0 ?_
          refine aw_aload_n C dX4_aim_76 Lk0 ?_
          refine aw_iload_n C dX4_aim_77 Lk1 ?_
          refine aw_iload_n C dX4_aim_78 Lk2 ?_
          refine aw_cV2 C dX4_aim_79 gX4_aim_X4_li sX4_li (rm := rmX4_li) rfl recMod (c_X4_li (by omega)) ?_
          rw [mST_li]
          refine aw_cV1 C dX4_aim_82 gX4_aim_X4_owner sX4_owner (rm := rmX4_owner) rfl recMod (c_X4_owner hn (by rw [mST_n]; exact h1)) ?_
          rw [mST_h, how.1]
          exact aw_iend C dX4_aim_85 rfl (by rw [fT, he, find_drop hp, hb]; rfl)
    exact hl_47 (T k).length 0 (by omega) rfl
  · skip
    have hA9 := hA (Classical.not_not.mp c_5)
    refine aw_aload_n C dX4_aim_8 Lk0 ?_
    refine aw_gX4_feigned C  dX4_aim_9 (by decide +kernel) (by decide +kernel) ?_
    rw [mST_fd]
    refine aw_iconst C dX4_aim_12 (x := -1) (by decide) ?_
    refine aw_icmp_eq C dX4_aim_13 (tgt := 43) (by decide) (fun c_13 => ?_) (fun c_13 => ?_)
    · skip
      have hTk : T k = [] := hA9.elim (fun q => q.2) (fun q => absurd c_13 q.1)
      refine aw_iload_n C dX4_aim_43 Lk1 ?_
      exact aw_iend C dX4_aim_44 rfl (by rw [fT, hTk]; rfl)
    · skip
      obtain ⟨q, hTk, hq, hfq⟩ := (hA9.resolve_left (fun q => c_13 q.1)).2
      refine aw_aload_n C dX4_aim_16 Lk0 ?_
      refine aw_gX4_there C  dX4_aim_17 (by decide +kernel) (by decide +kernel) ?_
      refine aw_aload_n C dX4_aim_20 Lk0 ?_
      refine aw_aload_n C dX4_aim_21 Lk0 ?_
      refine aw_gX4_feigned C  dX4_aim_22 (by decide +kernel) (by decide +kernel) ?_
      rw [mST_fd]
      refine aw_cV1 C dX4_aim_25 gX4_aim_X4_owner sX4_owner (rm := rmX4_owner) rfl recMod (c_X4_owner hn (by rw [mST_n]; exact h1)) ?_
      rw [mST_h, hfq]
      refine aw_ilX4n_8 C dX4_aim_28 (by omega) ?_
      rw [mST_e, hth q hq]
      refine aw_if_eq C dX4_aim_29 (tgt := 43) (by decide) (fun c_29 => ?_) (fun c_29 => ?_)
      · skip
        have hb : th q = false := bI_0.mp c_29
        refine aw_iload_n C dX4_aim_43 Lk1 ?_
        exact aw_iend C dX4_aim_44 rfl (by rw [fT, hTk]; simp [List.find?, hb])
      · skip
        have hb : th q = true := by cases e9 : th q <;> first | rfl | (rw [e9] at c_29; exact absurd rfl c_29)
        refine aw_aload_n C dX4_aim_32 Lk0 ?_
        refine aw_aload_n C dX4_aim_33 Lk0 ?_
        refine aw_gX4_feigned C  dX4_aim_34 (by decide +kernel) (by decide +kernel) ?_
        rw [mST_fd]
        refine aw_cV1 C dX4_aim_37 gX4_aim_X4_owner sX4_owner (rm := rmX4_owner) rfl recMod (c_X4_owner hn (by rw [mST_n]; exact h1)) ?_
        rw [mST_h, hfq]
        refine aw_goto C dX4_aim_40 (tgt := 44) (by decide) ?_
        exact aw_iend C dX4_aim_44 rfl (by rw [fT, hTk]; simp [List.find?, hb])
set_option maxHeartbeats 4000000 in
set_option maxRecDepth 100000 in
theorem c_X4_around {τ : MS} {n : Nat} {h : Nat → Nat} {T : Nat → List Nat} {t0 : Nat → Bool} (H : MRun τ n h T t0) {g d z m e : Nat → Int32} {la ri gr : Int32} {f : Nat → Nat} {P : Nat → Prop} (hP : ∀ q, P q → q < n ∧ m q = nI (f q) ∧ P (f q)) {k : Nat} (hk : P k) : aM l D (cTys cI cZ cR cJ) 9 b yX4_around wsX4_around rmX4_around [.ref (b 0), .int (nI k)] (mv cI cZ b (mST τ g d z m e la ri gr)) (some (.int (nI (cyG f k (n + 1) 1 k)))) (mv cI cZ b (mST τ g d z m e la ri gr)) := by
  obtain ⟨hn, h1, hh, hgo, hL⟩ := id H
  obtain ⟨hk1, hk2, hk3⟩ := hP k hk
  refine aM_of sX4_around (lv0 := [some (.ref (b 0)), some (.int (nI k)), none, none]) (j := 2) rfl rfl ?_
  intro pM eM sM mM argsM belowM methM cM AM C
  refine aw_iconst C dX4_around_0 (x := nI 1) (by decide) ?_
  refine aw_istore_n C dX4_around_1 St2 rfl ?_
  refine aw_aload_n C dX4_around_2 Lk0 ?_
  refine aw_gX4_aims C  dX4_around_3 (by decide +kernel) (by decide +kernel) ?_
  refine aw_iload_n C dX4_around_6 Lk1 ?_
  refine aw_ilX4n_7 C dX4_around_7 (by omega) ?_
  rw [mST_m, hk2]
  refine aw_istore_n C dX4_around_8 St3 rfl ?_
  have hl_9 : ∀ (j s q : Nat) (hj : s + j = n + 1) (hq : P q) (he : cyG f k (n + 1) 1 k = cyG f k (j + 1) s q), aW pM l eM rmX4_around sM mM argsM belowM methM cM (MQ belowM (aQ D 9 b (mv cI cZ b (mST τ g d z m e la ri gr)) (some (.int (nI (cyG f k (n + 1) 1 k)))) AM) argsM sM 0 0 AM) D AM 0 0 9 b (mv cI cZ b (mST τ g d z m e la ri gr)) 9 [some (.ref (b 0)), some (.int (nI k)), some (.int (nI s)), some (.int (nI (f q)))] [] := by
    intro j
    induction j with
    | zero =>
      intro s q hj hq he
      obtain ⟨hq0, hq1, hq3⟩ := hP q hq
      have hq4 := (hP (f q) hq3).1
      refine aw_iload_n C dX4_around_9 Lk3 ?_
      refine aw_iload_n C dX4_around_10 Lk1 ?_
      refine aw_icmp_eq C dX4_around_11 (tgt := 35) (by decide) (fun c_11 => ?_) (fun c_11 => ?_)
      · skip
        have heq : f q = k := nI_inj (by omega) (by omega) c_11
        refine aw_iload_n C dX4_around_35 Lk3 ?_
        refine aw_iload_n C dX4_around_36 Lk1 ?_
        refine aw_icmp_ne C dX4_around_37 (tgt := 44) (by decide) (fun c_37 => absurd c_37 (fun z9 => z9 c_11)) (fun c_37 => ?_)
        refine aw_iload_n C dX4_around_40 Lk2 ?_
        refine aw_goto C dX4_around_41 (tgt := 45) (by decide) ?_
        exact aw_iend C dX4_around_45 rfl (by rw [he, cyG, if_pos heq])
      · skip
        have hne : ¬ f q = k := fun z9 => c_11 (congrArg nI z9)
        refine aw_iload_n C dX4_around_14 Lk2 ?_
        refine aw_aload_n C dX4_around_15 Lk0 ?_
        refine aw_gX4_keepers C  dX4_around_16 (by decide +kernel) (by decide +kernel) ?_
        rw [mST_n, h1]
        refine aw_icmp_gt C dX4_around_19 (tgt := 35) (by decide) (fun c_19 => ?_) (fun c_19 => absurd (nI_lt (by omega) (by omega)) c_19)
        refine aw_iload_n C dX4_around_35 Lk3 ?_
        refine aw_iload_n C dX4_around_36 Lk1 ?_
        refine aw_icmp_ne C dX4_around_37 (tgt := 44) (by decide) (fun c_37 => ?_) (fun c_37 => absurd c_11 c_37)
        refine aw_iconst C dX4_around_44 (x := nI 0) (by decide) ?_
        exact aw_iend C dX4_around_45 rfl (by rw [he, cyG, if_neg hne]; rfl)
    | succ j ih =>
      intro s q hj hq he
      obtain ⟨hq0, hq1, hq3⟩ := hP q hq
      obtain ⟨hq4, hq2, hq5⟩ := hP (f q) hq3
      refine aw_iload_n C dX4_around_9 Lk3 ?_
      refine aw_iload_n C dX4_around_10 Lk1 ?_
      refine aw_icmp_eq C dX4_around_11 (tgt := 35) (by decide) (fun c_11 => ?_) (fun c_11 => ?_)
      · skip
        have heq : f q = k := nI_inj (by omega) (by omega) c_11
        refine aw_iload_n C dX4_around_35 Lk3 ?_
        refine aw_iload_n C dX4_around_36 Lk1 ?_
        refine aw_icmp_ne C dX4_around_37 (tgt := 44) (by decide) (fun c_37 => absurd c_37 (fun z9 => z9 c_11)) (fun c_37 => ?_)
        refine aw_iload_n C dX4_around_40 Lk2 ?_
        refine aw_goto C dX4_around_41 (tgt := 45) (by decide) ?_
        exact aw_iend C dX4_around_45 rfl (by rw [he, cyG, if_pos heq])
      · skip
        have hne : ¬ f q = k := fun z9 => c_11 (congrArg nI z9)
        refine aw_iload_n C dX4_around_14 Lk2 ?_
        refine aw_aload_n C dX4_around_15 Lk0 ?_
        refine aw_gX4_keepers C  dX4_around_16 (by decide +kernel) (by decide +kernel) ?_
        rw [mST_n, h1]
        refine aw_icmp_gt C dX4_around_19 (tgt := 35) (by decide) (fun c_19 => absurd c_19 (nI_nlt (by omega) (by omega))) (fun c_19 => ?_)
        refine aw_aload_n C dX4_around_22 Lk0 ?_
        refine aw_gX4_aims C  dX4_around_23 (by decide +kernel) (by decide +kernel) ?_
        refine aw_iload_n C dX4_around_26 Lk3 ?_
        refine aw_ilX4n_7 C dX4_around_27 (by omega) ?_
        rw [mST_m, hq2]
        refine aw_istore_n C dX4_around_28 St3 rfl ?_
        refine aw_iinc C dX4_around_29 Lk2 (nI_1 _) St2 rfl ?_
        refine aw_goto C dX4_around_32 (tgt := 9) (by decide) ?_
        exact ih (s + 1) (f q) (by omega) hq3 (by rw [he, cyG, if_neg hne])
  exact hl_9 n 1 k (by omega) hk rfl
set_option maxHeartbeats 4000000 in
set_option maxRecDepth 100000 in
theorem c_X4_aimAll {τ : MS} {n : Nat} {h : Nat → Nat} {T : Nat → List Nat} {t0 : Nat → Bool} (H : MRun τ n h T t0) {g d z m e : Nat → Int32} {la ri gr : Int32} {th : Nat → Bool} (hth : ∀ q, q < n → e q = bI (th q)) : aM l D (cTys cI cZ cR cJ) 9 b yX4_aimAll wsX4_aimAll rmX4_aimAll [.ref (b 0)] (mv cI cZ b (mST τ g d z m e la ri gr)) (none) (mv cI cZ b (mST τ g d z (amF T th n m) e la ri gr)) := by
  obtain ⟨hn, h1, hh, hgo, hL⟩ := id H
  refine aM_of sX4_aimAll (lv0 := [some (.ref (b 0)), none]) (j := 1) rfl rfl ?_
  intro pM eM sM mM argsM belowM methM cM AM C
  refine aw_iconst C dX4_aimAll_0 (x := nI 0) (by decide) ?_
  refine aw_istore_n C dX4_aimAll_1 St1 rfl ?_
  have hl_2 : ∀ (j i : Nat) (hj : i + j = n), aW pM l eM rmX4_aimAll sM mM argsM belowM methM cM (MQ belowM (aQ D 9 b (mv cI cZ b (mST τ g d z (amF T th n m) e la ri gr)) (none) AM) argsM sM 0 0 AM) D AM 0 0 9 b (mv cI cZ b (mST τ g d z (amF T th i m) e la ri gr)) 2 [some (.ref (b 0)), some (.int (nI i))] [] := by
    intro j
    induction j with
    | zero =>
      intro i hj
      refine aw_iload_n C dX4_aimAll_2 Lk1 ?_
      refine aw_aload_n C dX4_aimAll_3 Lk0 ?_
      refine aw_gX4_keepers C  dX4_aimAll_4 (by decide +kernel) (by decide +kernel) ?_
      rw [mST_n, h1]
      refine aw_icmp_ge C dX4_aimAll_7 (tgt := 40) (by decide) (fun c_7 => ?_) (fun c_7 => absurd (nI_le (by omega) (by omega)) c_7)
      exact aw_vend C dX4_aimAll_40 (by rw [show i = n by omega]) rfl
    | succ j ih =>
      intro i hj
      have hi : i < n := by omega
      refine aw_iload_n C dX4_aimAll_2 Lk1 ?_
      refine aw_aload_n C dX4_aimAll_3 Lk0 ?_
      refine aw_gX4_keepers C  dX4_aimAll_4 (by decide +kernel) (by decide +kernel) ?_
      rw [mST_n, h1]
      refine aw_icmp_ge C dX4_aimAll_7 (tgt := 40) (by decide) (fun c_7 => absurd c_7 (nI_ge hi (by omega))) (fun c_7 => ?_)
      refine aw_aload_n C dX4_aimAll_10 Lk0 ?_
      refine aw_gX4_aims C  dX4_aimAll_11 (by decide +kernel) (by decide +kernel) ?_
      refine aw_iload_n C dX4_aimAll_14 Lk1 ?_
      refine aw_aload_n C dX4_aimAll_15 Lk0 ?_
      refine aw_gX4_there C  dX4_aimAll_16 (by decide +kernel) (by decide +kernel) ?_
      refine aw_iload_n C dX4_aimAll_19 Lk1 ?_
      refine aw_ilX4n_8 C dX4_aimAll_20 (by omega) ?_
      rw [mST_e, hth i hi]
      refine aw_if_eq C dX4_aimAll_21 (tgt := 32) (by decide) (fun c_21 => ?_) (fun c_21 => ?_)
      · skip
        have hb : th i = false := bI_0.mp c_21
        refine aw_iconst C dX4_aimAll_32 (x := -1) (by decide) ?_
        refine aw_isX4n_7 C dX4_aimAll_33 (by omega) ?_
        rw [mST_sm]
        refine aw_iinc C dX4_aimAll_34 Lk1 (nI_1 _) St1 rfl ?_
        refine aw_goto C dX4_aimAll_37 (tgt := 2) (by decide) ?_
        have hq := ih (i + 1) (by omega)
        rw [← amF_s, hb] at hq
        exact hq
      · skip
        have hb : th i = true := by cases e9 : th i <;> first | rfl | (rw [e9] at c_21; exact absurd rfl c_21)
        refine aw_aload_n C dX4_aimAll_24 Lk0 ?_
        refine aw_iload_n C dX4_aimAll_25 Lk1 ?_
        refine aw_cV1 C dX4_aimAll_26 gX4_aimAll_X4_aim sX4_aim (rm := rmX4_aim) rfl recMod (c_X4_aim H hth hi) ?_
        refine aw_goto C dX4_aimAll_29 (tgt := 33) (by decide) ?_
        refine aw_isX4n_7 C dX4_aimAll_33 (by omega) ?_
        rw [mST_sm]
        refine aw_iinc C dX4_aimAll_34 Lk1 (nI_1 _) St1 rfl ?_
        refine aw_goto C dX4_aimAll_37 (tgt := 2) (by decide) ?_
        have hq := ih (i + 1) (by omega)
        rw [← amF_s, hb] at hq
        exact hq
  have hq := hl_2 n 0 (by omega)
  rw [amF_0] at hq
  exact hq
set_option maxHeartbeats 4000000 in
set_option maxRecDepth 100000 in
theorem c_X4_begin {τ : MS} {n : Nat} {h : Nat → Nat} {T : Nat → List Nat} {t0 : Nat → Bool} (H : MRun τ n h T t0) {g d z m e : Nat → Int32} {la ri gr : Int32} : aM l D (cTys cI cZ cR cJ) 9 b yX4_begin wsX4_begin rmX4_begin [.ref (b 0)] (mv cI cZ b (mST τ g d z m e la ri gr)) (none) (mv cI cZ b (mST τ g d z m (eR n e t0) (nI 0) (nI 0) (nI 0))) := by
  obtain ⟨hn, h1, hh, hgo, hL⟩ := id H
  refine aM_of sX4_begin (lv0 := [some (.ref (b 0)), none]) (j := 1) rfl rfl ?_
  intro pM eM sM mM argsM belowM methM cM AM C
  refine aw_iconst C dX4_begin_0 (x := nI 0) (by decide) ?_
  refine aw_istore_n C dX4_begin_1 St1 rfl ?_
  have hl_2 : ∀ (j i : Nat) (hj : i + j = n), aW pM l eM rmX4_begin sM mM argsM belowM methM cM (MQ belowM (aQ D 9 b (mv cI cZ b (mST τ g d z m (eR n e t0) (nI 0) (nI 0) (nI 0))) (none) AM) argsM sM 0 0 AM) D AM 0 0 9 b (mv cI cZ b (mST τ g d z m (eR i e t0) la ri gr)) 2 [some (.ref (b 0)), some (.int (nI i))] [] := by
    intro j
    induction j with
    | zero =>
      intro i hj
      have hin : i = n := by omega
      rw [hin]
      refine aw_iload_n C dX4_begin_2 Lk1 ?_
      refine aw_aload_n C dX4_begin_3 Lk0 ?_
      refine aw_gX4_keepers C  dX4_begin_4 (by decide +kernel) (by decide +kernel) ?_
      rw [mST_n, h1]
      refine aw_icmp_ge C dX4_begin_7 (tgt := 35) (by decide) (fun c_7 => ?_) (fun c_7 => absurd (nI_le (Nat.le_refl _) (by omega)) c_7)
      refine aw_aload_n C dX4_begin_35 Lk0 ?_
      refine aw_iconst C dX4_begin_36 (x := nI 0) (by decide) ?_
      refine aw_pX4_last C  dX4_begin_37 (by decide +kernel) (by decide +kernel) ?_
      rw [mST_sla]
      refine aw_aload_n C dX4_begin_40 Lk0 ?_
      refine aw_iconst C dX4_begin_41 (x := nI 0) (by decide) ?_
      refine aw_pX4_rings C  dX4_begin_42 (by decide +kernel) (by decide +kernel) ?_
      rw [mST_sri]
      refine aw_aload_n C dX4_begin_45 Lk0 ?_
      refine aw_iconst C dX4_begin_46 (x := nI 0) (by decide) ?_
      refine aw_pX4_greatest C  dX4_begin_47 (by decide +kernel) (by decide +kernel) ?_
      rw [mST_sgr]
      exact aw_vend C dX4_begin_50 rfl rfl
    | succ j ih =>
      intro i hj
      have hi : i < n := by omega
      refine aw_iload_n C dX4_begin_2 Lk1 ?_
      refine aw_aload_n C dX4_begin_3 Lk0 ?_
      refine aw_gX4_keepers C  dX4_begin_4 (by decide +kernel) (by decide +kernel) ?_
      rw [mST_n, h1]
      refine aw_icmp_ge C dX4_begin_7 (tgt := 35) (by decide) (fun c_7 => absurd c_7 (nI_ge hi (by omega))) (fun c_7 => ?_)
      refine aw_aload_n C dX4_begin_10 Lk0 ?_
      refine aw_gX4_there C  dX4_begin_11 (by decide +kernel) (by decide +kernel) ?_
      refine aw_iload_n C dX4_begin_14 Lk1 ?_
      refine aw_iload_n C dX4_begin_15 Lk1 ?_
      refine aw_aload_n C dX4_begin_16 Lk0 ?_
      refine aw_gX4_gone C  dX4_begin_17 (by decide +kernel) (by decide +kernel) ?_
      rw [mST_go]
      refine aw_icmp_eq C dX4_begin_20 (tgt := 27) (by decide) (fun c_20 => ?_) (fun c_20 => ?_)
      · skip
        have hb : t0 i = false := by cases e9 : t0 i <;> first | rfl | exact absurd c_20 ((hgo i hi).mp e9)
        refine aw_iconst C dX4_begin_27 (x := nI 0) (by decide) ?_
        refine aw_isX4n_8 C rfl dX4_begin_28 (by omega) ?_
        rw [mST_se]
        refine aw_iinc C dX4_begin_29 Lk1 (nI_1 _) St1 rfl ?_
        refine aw_goto C dX4_begin_32 (tgt := 2) (by decide) ?_
        have hq := ih (i + 1) (by omega)
        rw [← eR_s, hb] at hq
        exact hq
      · skip
        have hb : t0 i = true := (hgo i hi).mpr c_20
        refine aw_iconst C dX4_begin_23 (x := nI 1) (by decide) ?_
        refine aw_goto C dX4_begin_24 (tgt := 28) (by decide) ?_
        refine aw_isX4n_8 C rfl dX4_begin_28 (by omega) ?_
        rw [mST_se]
        refine aw_iinc C dX4_begin_29 Lk1 (nI_1 _) St1 rfl ?_
        refine aw_goto C dX4_begin_32 (tgt := 2) (by decide) ?_
        have hq := ih (i + 1) (by omega)
        rw [← eR_s, hb] at hq
        exact hq
  have hq := hl_2 n 0 (by omega)
  rw [eR_0] at hq
  exact hq
end MOD2
