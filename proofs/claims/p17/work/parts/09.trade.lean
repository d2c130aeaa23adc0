/-! HutRings$Trade: one run of the rounds -/
def Wk (lv' lv : List (Option Value)) : Prop := lv'.length = lv.length ∧ ∀ (i : Nat) (v : Value), lv'[i]? = some (some v) → lv[i]? = some (some v)
theorem Wk.n : Wk [] [] := ⟨rfl, fun _ _ h => h⟩
theorem Wk.k {l' l : List (Option Value)} {x : Option Value} (h : Wk l' l) : Wk (x :: l') (x :: l) := ⟨congrArg (· + 1) h.1, fun i v hv => by
  cases i with
  | zero => exact hv
  | succ i => exact h.2 i v hv⟩
theorem Wk.d {l' l : List (Option Value)} {x : Option Value} (h : Wk l' l) : Wk (none :: l') (x :: l) := ⟨congrArg (· + 1) h.1, fun i v hv => by
  cases i with
  | zero => cases hv
  | succ i => exact h.2 i v hv⟩
theorem aW_wk {p : Program} {l : Launch} {e : Env} {R : Room} {s : State} {m : MethodId} {args : Array Value} {below : List Frame} {meth : Method} {c : Code} {Q : State → Prop} {D : va_G} {A : Nat → Prop} {cells slots n pc : Nat} {a : Nat → Nat} {v : Nat → va_E} {lv lv' : List (Option Value)} {st : List Value}
    (k : aW p l e R s m args below meth c Q D A cells slots n a v pc lv' st) (h : Wk lv' lv) : aW p l e R s m args below meth c Q D A cells slots n a v pc lv st := aW_lv h.1 h.2 k
/-- a run of trade t on the way: what it has found so far, over a land that it leaves as it is -/
def csT (σ : CS) (t : Nat) (g d z m : Nat → Int32) (ro rm : Int32) : CS :=
  (σ.1, fun q => if q = gR t then g else if q = dR t then d else if q = zR t then z else if q = mR t then m else σ.2.1 q, fun i => if i = 3 * t + 1 then ro else if i = 3 * t + 2 then rm else σ.2.2 i)
section CST
variable {σ : CS} {t : Nat} {g d z m : Nat → Int32} {ro rm : Int32}
theorem csT_1 (q : Nat) : (csT σ t g d z m ro rm).1 q = σ.1 q := rfl
theorem csT_g : (csT σ t g d z m ro rm).2.1 (gR t) = g := by simp [csT]
theorem csT_d : (csT σ t g d z m ro rm).2.1 (dR t) = d := by
  simp only [csT]
  rw [if_neg (by simp only [gR, dR]; omega), if_pos True.intro]
theorem csT_z : (csT σ t g d z m ro rm).2.1 (zR t) = z := by
  simp only [csT]
  rw [if_neg (by simp only [gR, zR]; omega), if_neg (by simp only [dR, zR]; omega), if_pos True.intro]
theorem csT_m : (csT σ t g d z m ro rm).2.1 (mR t) = m := by
  simp only [csT]
  rw [if_neg (by simp only [gR, mR]; omega), if_neg (by simp only [dR, mR]; omega), if_neg (by simp only [zR, mR]; omega), if_pos True.intro]
theorem csT_o {q : Nat} (h : q < 11 ∨ q = fR t) : (csT σ t g d z m ro rm).2.1 q = σ.2.1 q := by
  simp only [csT]
  rw [if_neg (by simp only [gR, fR] at h ⊢; omega), if_neg (by simp only [dR, fR] at h ⊢; omega), if_neg (by simp only [zR, fR] at h ⊢; omega), if_neg (by simp only [mR, fR] at h ⊢; omega)]
theorem csT_fe : (csT σ t g d z m ro rm).2.2 (3 * t) = σ.2.2 (3 * t) := by
  simp only [csT]
  rw [if_neg (by omega), if_neg (by omega)]
theorem csT_ro : (csT σ t g d z m ro rm).2.2 (3 * t + 1) = ro := by simp [csT]
theorem csT_rm : (csT σ t g d z m ro rm).2.2 (3 * t + 2) = rm := by simp [csT]
theorem csT_sg {i : Nat} {x : Int32} : cs2 (csT σ t g d z m ro rm) (gR t) i x = csT σ t (upd g i x) d z m ro rm := by
  refine Prod.ext rfl (Prod.ext (funext fun q => ?_) rfl)
  simp only [cs2, csT_g]
  simp only [csT]
  by_cases e : q = gR t
  · rw [if_pos e, if_pos e]
  · rw [if_neg e, if_neg e, if_neg e]
theorem csT_sd {i : Nat} {x : Int32} : cs2 (csT σ t g d z m ro rm) (dR t) i x = csT σ t g (upd d i x) z m ro rm := by
  refine Prod.ext rfl (Prod.ext (funext fun q => ?_) rfl)
  simp only [cs2, csT_d]
  simp only [csT]
  by_cases e : q = dR t
  · subst e
    rw [if_pos rfl, if_neg (by simp only [gR, dR]; omega), if_pos rfl]
  · simp only [if_neg e]
theorem csT_sz {i : Nat} {x : Int32} : cs2 (csT σ t g d z m ro rm) (zR t) i x = csT σ t g d (upd z i x) m ro rm := by
  refine Prod.ext rfl (Prod.ext (funext fun q => ?_) rfl)
  simp only [cs2, csT_z]
  simp only [csT]
  by_cases e : q = zR t
  · subst e
    rw [if_pos rfl, if_neg (by simp only [gR, zR]; omega), if_neg (by simp only [dR, zR]; omega), if_pos rfl]
  · simp only [if_neg e]
theorem csT_sm {i : Nat} {x : Int32} : cs2 (csT σ t g d z m ro rm) (mR t) i x = csT σ t g d z (upd m i x) ro rm := by
  refine Prod.ext rfl (Prod.ext (funext fun q => ?_) rfl)
  simp only [cs2, csT_m]
  simp only [csT]
  by_cases e : q = mR t
  · subst e
    rw [if_pos rfl, if_neg (by simp only [gR, mR]; omega), if_neg (by simp only [dR, mR]; omega), if_neg (by simp only [zR, mR]; omega), if_pos rfl]
  · simp only [if_neg e]
theorem csT_sro {x : Int32} : cs3 (csT σ t g d z m ro rm) (3 * t + 1) x = csT σ t g d z m x rm := by
  refine Prod.ext rfl (Prod.ext rfl (funext fun q => ?_))
  simp only [cs3, csT, upd]
  by_cases e : q = 3 * t + 1 <;> simp [e]
theorem csT_srm {x : Int32} : cs3 (csT σ t g d z m ro rm) (3 * t + 2) x = csT σ t g d z m ro x := by
  refine Prod.ext rfl (Prod.ext rfl (funext fun q => ?_))
  simp only [cs3, csT, upd]
  by_cases e : q = 3 * t + 2
  · subst e
    rw [if_pos rfl, if_neg (by omega), if_pos rfl]
  · simp only [if_neg e]
end CST
/-- the land, and the lists by which trade t runs: keeper k has the hut h k, and likes those of T k; lr k: the row of k's list -/
def RunOK (σ : CS) (t n : Nat) (h : Nat → Nat) (T : Nat → List Nat) (lr : Nat → Nat) : Prop :=
  t < 2 ∧ n ≤ 10 ∧ σ.1 0 = n ∧ (∀ k, k < n → σ.2.1 0 k = nI (h k)) ∧ σ.1 (gR t) = n ∧ σ.1 (dR t) = n ∧ σ.1 (zR t) = n ∧ σ.1 (mR t) = n ∧
  ∀ k, k < n → ((nI k = σ.2.2 (3 * t) ∧ lr k = fR t) ∨ (¬ nI k = σ.2.2 (3 * t) ∧ lr k = kR k)) ∧ σ.1 (lr k) = (T k).length ∧ (T k).length ≤ 10 ∧
    ∀ p, p < (T k).length → rFind (σ.2.1 0) (σ.2.1 (lr k) p) n 0 = nI ((T k).getD p 0) ∧ (T k).getD p 0 < n
theorem RunOK.lr {σ : CS} {t n : Nat} {h : Nat → Nat} {T : Nat → List Nat} {lr : Nat → Nat} (H : RunOK σ t n h T lr) {k : Nat} (hk : k < n) : lr k < 22 ∧ (lr k < 11 ∨ lr k = fR t) := by
  obtain ⟨h1, h2, -, -, -, -, -, -, h9⟩ := H
  rcases (h9 k hk).1 with ⟨-, e⟩ | ⟨-, e⟩
  · rw [e]; exact ⟨fR_lt h1, Or.inr rfl⟩
  · rw [e]; simp only [kR]; omega
theorem bI_0 {b : Bool} : bI b = 0 ↔ b = false := by cases b <;> decide
theorem find_drop {T : List Nat} {th : Nat → Bool} {p : Nat} (hp : p < T.length) : (T.drop p).find? th = if th (T.getD p 0) then some (T.getD p 0) else (T.drop (p + 1)).find? th := by
  rw [List.drop_eq_getElem_cons hp, List.find?_cons]
  have e : T.getD p 0 = T[p] := by rw [List.getD_eq_getElem?_getD, List.getElem?_eq_getElem hp]; rfl
  rw [e]
  cases th T[p] <;> rfl
theorem nI_inj {a b : Nat} (ha : a < 2 ^ 31) (hb : b < 2 ^ 31) (h : nI a = nI b) : a = b := (nI_eq ha hb).mp h
/-- aims, of the keepers below i -/
def amF (T : Nat → List Nat) (th : Nat → Bool) (i : Nat) (m : Nat → Int32) : Nat → Int32 := fun k => if k < i then (if th k then nI (fT T th k) else -1) else m k
theorem amF_0 {T : Nat → List Nat} {th : Nat → Bool} {m : Nat → Int32} : amF T th 0 m = m := by
  funext q; simp [amF]
theorem amF_s {T : Nat → List Nat} {th : Nat → Bool} {m : Nat → Int32} {i : Nat} : upd (amF T th i m) i (if th i then nI (fT T th i) else -1) = amF T th (i + 1) m := by
  funext q
  simp only [upd, amF]
  by_cases e : q = i
  · subst e
    rw [if_pos rfl, if_pos (Nat.lt_succ_self q)]
  · rw [if_neg e]
    by_cases h : q < i
    · rw [if_pos h, if_pos (Nat.lt_succ_of_lt h)]
    · rw [if_neg h, if_neg (by omega)]
/-- g, with val at the first s keepers of k's ring -/
def seF (f : Nat → Nat) (k s : Nat) (val g : Nat → Int32) : Nat → Int32 := fun q => if ∃ j, j < s ∧ itF f j k = q then val q else g q
theorem seF_0 {f : Nat → Nat} {k : Nat} {val g : Nat → Int32} : seF f k 0 val g = g := by
  funext q; simp [seF]
theorem seF_s {f : Nat → Nat} {k s : Nat} {val g : Nat → Int32} {x : Int32} (hx : x = val (itF f s k)) : upd (seF f k s val g) (itF f s k) x = seF f k (s + 1) val g := by
  funext q
  simp only [upd, seF]
  by_cases e : q = itF f s k
  · rw [if_pos e, if_pos ⟨s, by omega, e.symm⟩, hx, e]
  · rw [if_neg e]
    by_cases h : ∃ j, j < s ∧ itF f j k = q
    · obtain ⟨j, h1, h2⟩ := h
      rw [if_pos ⟨j, h1, h2⟩, if_pos ⟨j, by omega, h2⟩]
    · rw [if_neg h, if_neg]
      rintro ⟨j, h1, h2⟩
      by_cases ej : j = s
      · exact e (by rw [← h2, ej])
      · exact h ⟨j, by omega, h2⟩
/-- old, with val at those whose rings are closed by the keepers below i -/
def scF (T : Nat → List Nat) (t0 : Nat → Bool) (r i : Nat) (val old : Nat → Int32) : Nat → Int32 := fun q => if scR T t0 r i q then val q else old q
section SCF
variable {T : Nat → List Nat} {t0 : Nat → Bool} {n r i : Nat} {val old : Nat → Int32}
theorem scF_0 : scF T t0 r 0 val old = old := by
  funext q; simp only [scF, scR_0]; rfl
theorem scF_skip (h : thR T t0 r i = false ∨ scR T t0 r i i = true ∨ cyR T t0 r i = 0) : scF T t0 r (i + 1) val old = scF T t0 r i val old := by
  funext q; simp only [scF, scR_skip h]
theorem scF_ring {val' : Nat → Int32} (h : clR T t0 r i = true) (hv : ∀ s, s < cyR T t0 r i → val' (itF (faR T t0 r) s i) = val (itF (faR T t0 r) s i)) : seF (faR T t0 r) i (cyR T t0 r i) val' (scF T t0 r i val old) = scF T t0 r (i + 1) val old := by
  funext q
  simp only [scF, seF, scR_ring h]
  by_cases e : ∃ s, s < cyR T t0 r i ∧ itF (faR T t0 r) s i = q
  · obtain ⟨s, h1, h2⟩ := e
    rw [if_pos ⟨s, h1, h2⟩, decide_eq_true ⟨s, h1, h2⟩, Bool.or_true, if_pos rfl, ← h2, hv s h1]
  · rw [if_neg e, decide_eq_false e, Bool.or_false]
theorem scF_no {q : Nat} (h : scR T t0 r i q = false) : scF T t0 r i val old q = old q := by
  simp only [scF, h]; rfl
theorem scF_yes {q : Nat} (h : scR T t0 r i q = true) : scF T t0 r i val old q = val q := by
  simp only [scF, h]; rfl
theorem scF_n (h0 : tOK t0 n) : scF T t0 r n val old = fun q => if clR T t0 r q then val q else old q := by
  funext q; simp only [scF, scR_n h0]
end SCF
theorem cy_le (f : Nat → Nat) (k : Nat) : cy f k ≤ 10 := by
  rcases Nat.eq_zero_or_pos (cy f k) with q | q
  · omega
  · exact (cy_pos (Nat.pos_iff_ne_zero.mp q)).2.1
theorem ldR_skip {T : Nat → List Nat} {t0 : Nat → Bool} {r i : Nat} (h : thR T t0 r i = false ∨ scR T t0 r i i = true ∨ cyR T t0 r i = 0) : fb_ct (ldR T t0 r) (i + 1) = fb_ct (ldR T t0 r) i := by
  rw [fb_ct_succ]
  cases e : ldR T t0 r i
  · rfl
  · exfalso
    obtain ⟨h1, h2, h3⟩ := ldR_iff.mp e
    obtain ⟨h4, h5, -⟩ := clR_th h1
    rcases h with h | h | h
    · rw [h4] at h; cases h
    · rw [h3] at h; cases h
    · exact h5 h
theorem ldR_ct {T : Nat → List Nat} {t0 : Nat → Bool} {r i b : Nat} (h : clR T t0 r i = true) (h2 : scR T t0 r i i = false) : (if 1 < cyR T t0 r i then b + fb_ct (ldR T t0 r) i + 1 else b + fb_ct (ldR T t0 r) i) = b + fb_ct (ldR T t0 r) (i + 1) := by
  rw [fb_ct_succ]
  by_cases q : 1 < cyR T t0 r i
  · rw [if_pos q, ldR_iff.mpr ⟨h, q, h2⟩]; simp; omega
  · rw [if_neg q]
    cases e : ldR T t0 r i
    · simp
    · exact absurd (ldR_iff.mp e).2.1 q
section TRADE
variable {l : Launch} {D : va_G} {cI cZ cR cJ : ClassId} {a : Nat → Nat}
set_option maxHeartbeats 4000000 in
set_option maxRecDepth 100000 in
theorem c_X2_aimIn {σ : CS} {t n : Nat} {h : Nat → Nat} {T : Nat → List Nat} {lr : Nat → Nat} (H : RunOK σ t n h T lr) {g d z m : Nat → Int32} {ro rm : Int32} {k : Nat} (hk : k < n) {x : Int32} {th : Nat → Bool} (hd9 : ∀ q, q < n → thB (d q) x = th q) : aM l D (cTys cI cZ cR cJ) 49 a yX2_aimIn wsX2_aimIn rmX2_aimIn [.ref (ta a t), .int (nI k), .int x] (cv cI cR a (csT σ t g d z m ro rm)) (some (.int (nI (fT T th k)))) (cv cI cR a (csT σ t g d z m ro rm)) := by
  obtain ⟨ht, hn, h0, hh, hg, hd, hz, hm, hL⟩ := id H
  obtain ⟨hL1, hL2, hL3, hL4⟩ := hL k hk
  obtain ⟨hlr, hlo⟩ := H.lr hk
  have hlT : ¬ nI k = σ.2.2 (3 * t) → lr k = kR k := fun z => hL1.elim (fun q => absurd q.1 z) (fun q => q.2)
  have hlF : nI k = σ.2.2 (3 * t) → lr k = fR t := fun z => hL1.elim (fun q => q.2) (fun q => absurd z q.1)
  refine aM_of sX2_aimIn (lv0 := [some (.ref (ta a t)), some (.int (nI k)), some (.int x), none, none, none]) (j := 3) rfl rfl ?_
  intro pM eM sM mM argsM belowM methM cM AM C
  refine aw_iload_n C dX2_aimIn_0 Lk1 ?_
  refine aw_aload_n C dX2_aimIn_1 Lk0 ?_
  refine aw_gX2_feigner C H.1 dX2_aimIn_2 (by decide +kernel) (by decide +kernel) ?_
  rw [csT_fe]
  refine aw_icmp_ne C dX2_aimIn_5 (tgt := 15) (by decide) (fun c_5 => ?_) (fun c_5 => ?_)
  · skip
    have hl := hlT c_5
    refine aw_aload_n C dX2_aimIn_15 Lk0 ?_
    refine aw_gX2_land C H.1 dX2_aimIn_16 (by decide +kernel) (by decide +kernel) ?_
    refine aw_iload_n C dX2_aimIn_19 Lk1 ?_
    refine aw_cV1 C dX2_aimIn_20 gX2_aimIn_X0_likesOf sX0_likesOf (rm := rmX0_likesOf) rfl recLand (c_X0_likesOf (by omega)) ?_
    refine aw_astore_n C dX2_aimIn_23 St3 rfl ?_
    refine aw_iconst C dX2_aimIn_24 (x := nI 0) (by decide) ?_
    refine aw_istore C dX2_aimIn_25 St4 rfl ?_
    have hl_27 : ∀ (j p : Nat) (hj : p + j = (T k).length) (he : (T k).find? th = ((T k).drop p).find? th), aW pM l eM rmX2_aimIn sM mM argsM belowM methM cM (MQ belowM (aQ D 49 a (cv cI cR a (csT σ t g d z m ro rm)) (some (.int (nI (fT T th k)))) AM) argsM sM 0 0 AM) D AM 0 0 49 a (cv cI cR a (csT σ t g d z m ro rm)) 27 [some (.ref (ta a t)), some (.int (nI k)), some (.int x), some (.ref (ra a (lr k))), some (.int (nI p)), none] [] := by
      intro j
      induction j with
      | zero =>
        intro p hj he
        refine aw_iload C dX2_aimIn_27 Lk4 ?_
        refine aw_aload_n C dX2_aimIn_29 Lk3 ?_
        refine aw_cV0 C dX2_aimIn_30 gX2_aimIn_X1_size sX1_size (rm := rmX1_size) rfl (recRow hlr) (c_X1_size hlr) ?_
        rw [csT_1, hL2]
        refine aw_icmp_ge C dX2_aimIn_33 (tgt := 70) (by decide) (fun c_33 => ?_) (fun c_33 => absurd (nI_le (by omega) (by omega)) c_33)
        refine aw_iload_n C dX2_aimIn_70 Lk1 ?_
        exact aw_iend C dX2_aimIn_71 rfl (by rw [fT, he, List.drop_eq_nil_of_le (by omega)]; rfl)
      | succ j ih =>
        intro p hj he
        have hp : p < (T k).length := by omega
        have how := hL4 p hp
        refine aw_iload C dX2_aimIn_27 Lk4 ?_
        refine aw_aload_n C dX2_aimIn_29 Lk3 ?_
        refine aw_cV0 C dX2_aimIn_30 gX2_aimIn_X1_size sX1_size (rm := rmX1_size) rfl (recRow hlr) (c_X1_size hlr) ?_
        rw [csT_1, hL2]
        refine aw_icmp_ge C dX2_aimIn_33 (tgt := 70) (by decide) (fun c_33 => absurd c_33 (nI_ge (by omega) (by omega))) (fun c_33 => ?_)
        refine aw_aload_n C dX2_aimIn_36 Lk0 ?_
        refine aw_gX2_land C H.1 dX2_aimIn_37 (by decide +kernel) (by decide +kernel) ?_
        refine aw_aload_n C dX2_aimIn_40 Lk3 ?_
        refine aw_iload C dX2_aimIn_41 Lk4 ?_
        refine aw_cV1 C dX2_aimIn_43 gX2_aimIn_X1_at sX1_at (rm := rmX1_at) rfl (recRow hlr) (c_X1_at hlr (by rw [csT_1]; omega) (by rw [csT_1]; omega)) ?_
        rw [csT_o hlo]
        refine aw_cV1 C dX2_aimIn_46 gX2_aimIn_X0_keeperIn sX0_keeperIn (rm := rmX0_keeperIn) rfl recLand (c_X0_keeperIn (by rw [csT_1]; omega)) ?_
        rw [csT_o (Or.inl (by decide)), csT_1, h0, how.1]
        refine aw_istore C dX2_aimIn_49 St5 rfl ?_
        refine aw_aload_n C dX2_aimIn_51 Lk0 ?_
        refine aw_iload C dX2_aimIn_52 Lk5 ?_
        refine aw_iload_n C dX2_aimIn_54 Lk2 ?_
        refine aw_cV2 C dX2_aimIn_55 gX2_aimIn_X2_isThereIn sX2_isThereIn (rm := rmX2_isThereIn) rfl (recTr ht) (c_X2_isThereIn ht (by rw [csT_1]; omega) (by rw [csT_1]; omega)) ?_
        rw [csT_d, hd9 _ how.2]
        refine aw_if_eq C dX2_aimIn_58 (tgt := 64) (by decide) (fun c_58 => ?_) (fun c_58 => ?_)
        · skip
          have hb : th ((T k).getD p 0) = false := bI_0.mp c_58
          refine aw_iinc C dX2_aimIn_64 Lk4 (nI_1 _) St4 rfl ?_
          refine aw_goto C dX2_aimIn_67 (tgt := 27) (by decide) ?_
          exact aW_wk (ih (p + 1) (by omega) (by rw [he, find_drop hp, hb]; rfl)) (by repeat' (first | exact Wk.n | apply Wk.k | apply Wk.d))
        · skip
          have hb : th ((T k).getD p 0) = true := by cases e9 : th ((T k).getD p 0) <;> first | rfl | (rw [e9] at c_58; exact absurd rfl c_58)
          refine aw_iload C dX2_aimIn_61 Lk5 ?_
          exact aw_iend C dX2_aimIn_63 rfl (by rw [fT, he, find_drop hp, hb]; rfl)
    have hq := hl_27 (T k).length 0 (by omega) rfl
    rw [hl] at hq
    exact hq
  · skip
    have hl := hlF (Classical.not_not.mp c_5)
    refine aw_aload_n C dX2_aimIn_8 Lk0 ?_
    refine aw_gX2_feignedLikes C H.1 dX2_aimIn_9 (by decide +kernel) (by decide +kernel) ?_
    refine aw_goto C dX2_aimIn_12 (tgt := 23) (by decide) ?_
    refine aw_astore_n C dX2_aimIn_23 St3 rfl ?_
    refine aw_iconst C dX2_aimIn_24 (x := nI 0) (by decide) ?_
    refine aw_istore C dX2_aimIn_25 St4 rfl ?_
    have hl_27 : ∀ (j p : Nat) (hj : p + j = (T k).length) (he : (T k).find? th = ((T k).drop p).find? th), aW pM l eM rmX2_aimIn sM mM argsM belowM methM cM (MQ belowM (aQ D 49 a (cv cI cR a (csT σ t g d z m ro rm)) (some (.int (nI (fT T th k)))) AM) argsM sM 0 0 AM) D AM 0 0 49 a (cv cI cR a (csT σ t g d z m ro rm)) 27 [some (.ref (ta a t)), some (.int (nI k)), some (.int x), some (.ref (ra a (lr k))), some (.int (nI p)), none] [] := by
      intro j
      induction j with
      | zero =>
        intro p hj he
        refine aw_iload C dX2_aimIn_27 Lk4 ?_
        refine aw_aload_n C dX2_aimIn_29 Lk3 ?_
        refine aw_cV0 C dX2_aimIn_30 gX2_aimIn_X1_size sX1_size (rm := rmX1_size) rfl (recRow hlr) (c_X1_size hlr) ?_
        rw [csT_1, hL2]
        refine aw_icmp_ge C dX2_aimIn_33 (tgt := 70) (by decide) (fun c_33 => ?_) (fun c_33 => absurd (nI_le (by omega) (by omega)) c_33)
        refine aw_iload_n C dX2_aimIn_70 Lk1 ?_
        exact aw_iend C dX2_aimIn_71 rfl (by rw [fT, he, List.drop_eq_nil_of_le (by omega)]; rfl)
      | succ j ih =>
        intro p hj he
        have hp : p < (T k).length := by omega
        have how := hL4 p hp
        refine aw_iload C dX2_aimIn_27 Lk4 ?_
        refine aw_aload_n C dX2_aimIn_29 Lk3 ?_
        refine aw_cV0 C dX2_aimIn_30 gX2_aimIn_X1_size sX1_size (rm := rmX1_size) rfl (recRow hlr) (c_X1_size hlr) ?_
        rw [csT_1, hL2]
        refine aw_icmp_ge C dX2_aimIn_33 (tgt := 70) (by decide) (fun c_33 => absurd c_33 (nI_ge (by omega) (by omega))) (fun c_33 => ?_)
        refine aw_aload_n C dX2_aimIn_36 Lk0 ?_
        refine aw_gX2_land C H.1 dX2_aimIn_37 (by decide +kernel) (by decide +kernel) ?_
        refine aw_aload_n C dX2_aimIn_40 Lk3 ?_
        refine aw_iload C dX2_aimIn_41 Lk4 ?_
        refine aw_cV1 C dX2_aimIn_43 gX2_aimIn_X1_at sX1_at (rm := rmX1_at) rfl (recRow hlr) (c_X1_at hlr (by rw [csT_1]; omega) (by rw [csT_1]; omega)) ?_
        rw [csT_o hlo]
        refine aw_cV1 C dX2_aimIn_46 gX2_aimIn_X0_keeperIn sX0_keeperIn (rm := rmX0_keeperIn) rfl recLand (c_X0_keeperIn (by rw [csT_1]; omega)) ?_
        rw [csT_o (Or.inl (by decide)), csT_1, h0, how.1]
        refine aw_istore C dX2_aimIn_49 St5 rfl ?_
        refine aw_aload_n C dX2_aimIn_51 Lk0 ?_
        refine aw_iload C dX2_aimIn_52 Lk5 ?_
        refine aw_iload_n C dX2_aimIn_54 Lk2 ?_
        refine aw_cV2 C dX2_aimIn_55 gX2_aimIn_X2_isThereIn sX2_isThereIn (rm := rmX2_isThereIn) rfl (recTr ht) (c_X2_isThereIn ht (by rw [csT_1]; omega) (by rw [csT_1]; omega)) ?_
        rw [csT_d, hd9 _ how.2]
        refine aw_if_eq C dX2_aimIn_58 (tgt := 64) (by decide) (fun c_58 => ?_) (fun c_58 => ?_)
        · skip
          have hb : th ((T k).getD p 0) = false := bI_0.mp c_58
          refine aw_iinc C dX2_aimIn_64 Lk4 (nI_1 _) St4 rfl ?_
          refine aw_goto C dX2_aimIn_67 (tgt := 27) (by decide) ?_
          exact aW_wk (ih (p + 1) (by omega) (by rw [he, find_drop hp, hb]; rfl)) (by repeat' (first | exact Wk.n | apply Wk.k | apply Wk.d))
        · skip
          have hb : th ((T k).getD p 0) = true := by cases e9 : th ((T k).getD p 0) <;> first | rfl | (rw [e9] at c_58; exact absurd rfl c_58)
          refine aw_iload C dX2_aimIn_61 Lk5 ?_
          exact aw_iend C dX2_aimIn_63 rfl (by rw [fT, he, find_drop hp, hb]; rfl)
    have hq := hl_27 (T k).length 0 (by omega) rfl
    rw [hl] at hq
    exact hq
set_option maxHeartbeats 4000000 in
set_option maxRecDepth 100000 in
theorem c_X2_aimAll {σ : CS} {t n : Nat} {h : Nat → Nat} {T : Nat → List Nat} {lr : Nat → Nat} (H : RunOK σ t n h T lr) {g d z m : Nat → Int32} {ro rm : Int32} {x : Int32} {th : Nat → Bool} (hd9 : ∀ q, q < n → thB (d q) x = th q) : aM l D (cTys cI cZ cR cJ) 49 a yX2_aimAll wsX2_aimAll rmX2_aimAll [.ref (ta a t), .int x] (cv cI cR a (csT σ t g d z m ro rm)) (none) (cv cI cR a (csT σ t g d z (amF T th n m) ro rm)) := by
  obtain ⟨ht, hn, h0, hh, hg, hd, hz, hm, hL⟩ := id H
  refine aM_of sX2_aimAll (lv0 := [some (.ref (ta a t)), some (.int x), none]) (j := 1) rfl rfl ?_
  intro pM eM sM mM argsM belowM methM cM AM C
  refine aw_iconst C dX2_aimAll_0 (x := nI 0) (by decide) ?_
  refine aw_istore_n C dX2_aimAll_1 St2 rfl ?_
  have hl_2 : ∀ (j i : Nat) (hj : i + j = n), aW pM l eM rmX2_aimAll sM mM argsM belowM methM cM (MQ belowM (aQ D 49 a (cv cI cR a (csT σ t g d z (amF T th n m) ro rm)) (none) AM) argsM sM 0 0 AM) D AM 0 0 49 a (cv cI cR a (csT σ t g d z (amF T th i m) ro rm)) 2 [some (.ref (ta a t)), some (.int x), some (.int (nI i))] [] := by
    intro j
    induction j with
    | zero =>
      intro i hj
      refine aw_iload_n C dX2_aimAll_2 Lk2 ?_
      refine aw_aload_n C dX2_aimAll_3 Lk0 ?_
      refine aw_gX2_aims C H.1 dX2_aimAll_4 (by decide +kernel) (by decide +kernel) ?_
      refine aw_cV0 C dX2_aimAll_7 gX2_aimAll_X1_size sX1_size (rm := rmX1_size) rfl (recRow (mR_lt ht)) (c_X1_size (mR_lt ht)) ?_
      rw [csT_1, hm]
      refine aw_icmp_ge C dX2_aimAll_10 (tgt := 46) (by decide) (fun c_10 => ?_) (fun c_10 => absurd (nI_le (by omega) (by omega)) c_10)
      exact aw_vend C dX2_aimAll_46 (by rw [show i = n by omega]) rfl
    | succ j ih =>
      intro i hj
      have hi : i < n := by omega
      refine aw_iload_n C dX2_aimAll_2 Lk2 ?_
      refine aw_aload_n C dX2_aimAll_3 Lk0 ?_
      refine aw_gX2_aims C H.1 dX2_aimAll_4 (by decide +kernel) (by decide +kernel) ?_
      refine aw_cV0 C dX2_aimAll_7 gX2_aimAll_X1_size sX1_size (rm := rmX1_size) rfl (recRow (mR_lt ht)) (c_X1_size (mR_lt ht)) ?_
      rw [csT_1, hm]
      refine aw_icmp_ge C dX2_aimAll_10 (tgt := 46) (by decide) (fun c_10 => absurd c_10 (nI_ge hi (by omega))) (fun c_10 => ?_)
      refine aw_aload_n C dX2_aimAll_13 Lk0 ?_
      refine aw_gX2_aims C H.1 dX2_aimAll_14 (by decide +kernel) (by decide +kernel) ?_
      refine aw_iload_n C dX2_aimAll_17 Lk2 ?_
      refine aw_aload_n C dX2_aimAll_18 Lk0 ?_
      refine aw_iload_n C dX2_aimAll_19 Lk2 ?_
      refine aw_iload_n C dX2_aimAll_20 Lk1 ?_
      refine aw_cV2 C dX2_aimAll_21 gX2_aimAll_X2_isThereIn sX2_isThereIn (rm := rmX2_isThereIn) rfl (recTr H.1) (c_X2_isThereIn ht (by rw [csT_1]; omega) (by rw [csT_1]; omega)) ?_
      rw [csT_d, hd9 _ hi]
      refine aw_if_eq C dX2_aimAll_24 (tgt := 36) (by decide) (fun c_24 => ?_) (fun c_24 => ?_)
      · skip
        have hb : th i = false := bI_0.mp c_24
        refine aw_iconst C dX2_aimAll_36 (x := -1) (by decide) ?_
        refine aw_cV2v C dX2_aimAll_37 gX2_aimAll_X1_put sX1_put (rm := rmX1_put) rfl (recRow (mR_lt ht)) (c_X1_put (mR_lt ht) (by rw [csT_1]; omega) (by rw [csT_1]; omega)) ?_
        rw [csT_sm]
        refine aw_iinc C dX2_aimAll_40 Lk2 (nI_1 _) St2 rfl ?_
        refine aw_goto C dX2_aimAll_43 (tgt := 2) (by decide) ?_
        have hq := ih (i + 1) (by omega)
        rw [← amF_s, hb] at hq
        exact hq
      · skip
        have hb : th i = true := by cases e9 : th i <;> first | rfl | (rw [e9] at c_24; exact absurd rfl c_24)
        refine aw_aload_n C dX2_aimAll_27 Lk0 ?_
        refine aw_iload_n C dX2_aimAll_28 Lk2 ?_
        refine aw_iload_n C dX2_aimAll_29 Lk1 ?_
        refine aw_cV2 C dX2_aimAll_30 gX2_aimAll_X2_aimIn sX2_aimIn (rm := rmX2_aimIn) rfl (recTr H.1) (c_X2_aimIn H hi hd9) ?_
        refine aw_goto C dX2_aimAll_33 (tgt := 37) (by decide) ?_
        refine aw_cV2v C dX2_aimAll_37 gX2_aimAll_X1_put sX1_put (rm := rmX1_put) rfl (recRow (mR_lt ht)) (c_X1_put (mR_lt ht) (by rw [csT_1]; omega) (by rw [csT_1]; omega)) ?_
        rw [csT_sm]
        refine aw_iinc C dX2_aimAll_40 Lk2 (nI_1 _) St2 rfl ?_
        refine aw_goto C dX2_aimAll_43 (tgt := 2) (by decide) ?_
        have hq := ih (i + 1) (by omega)
        rw [← amF_s, hb] at hq
        exact hq
  have hq := hl_2 n 0 (by omega)
  rw [amF_0] at hq
  exact hq
set_option maxHeartbeats 4000000 in
set_option maxRecDepth 100000 in
theorem c_X2_stepsBackTo {σ : CS} {t n : Nat} {h : Nat → Nat} {T : Nat → List Nat} {lr : Nat → Nat} (H : RunOK σ t n h T lr) {g d z m : Nat → Int32} {ro rm : Int32} {f : Nat → Nat} {P : Nat → Prop} (hP : ∀ q, P q → q < n ∧ m q = nI (f q) ∧ P (f q)) {k : Nat} (hk : P k) : aM l D (cTys cI cZ cR cJ) 49 a yX2_stepsBackTo wsX2_stepsBackTo rmX2_stepsBackTo [.ref (ta a t), .int (nI k)] (cv cI cR a (csT σ t g d z m ro rm)) (some (.int (nI (cy f k)))) (cv cI cR a (csT σ t g d z m ro rm)) := by
  obtain ⟨ht, hn, h0, hh, hg, hd, hz, hm, hL⟩ := id H
  have hkn := (hP k hk).1
  refine aM_of sX2_stepsBackTo (lv0 := [some (.ref (ta a t)), some (.int (nI k)), none, none]) (j := 2) rfl rfl ?_
  intro pM eM sM mM argsM belowM methM cM AM C
  refine aw_iload_n C dX2_stepsBackTo_0 Lk1 ?_
  refine aw_istore_n C dX2_stepsBackTo_1 St2 rfl ?_
  refine aw_iconst C dX2_stepsBackTo_2 (x := nI 1) (by decide) ?_
  refine aw_istore_n C dX2_stepsBackTo_3 St3 rfl ?_
  have hl_4 : ∀ (j s q : Nat) (hj : s + j = 11) (hq : P q) (he : cy f k = cyG f k j s q), aW pM l eM rmX2_stepsBackTo sM mM argsM belowM methM cM (MQ belowM (aQ D 49 a (cv cI cR a (csT σ t g d z m ro rm)) (some (.int (nI (cy f k)))) AM) argsM sM 0 0 AM) D AM 0 0 49 a (cv cI cR a (csT σ t g d z m ro rm)) 4 [some (.ref (ta a t)), some (.int (nI k)), some (.int (nI q)), some (.int (nI s))] [] := by
    intro j
    induction j with
    | zero =>
      intro s q hj hq he
      refine aw_iload_n C dX2_stepsBackTo_4 Lk3 ?_
      refine aw_bipush C dX2_stepsBackTo_5 (x := nI 10) (by decide) ?_
      refine aw_icmp_gt C dX2_stepsBackTo_7 (tgt := 32) (by decide) (fun c_7 => ?_) (fun c_7 => absurd (nI_lt (by omega) (by omega)) c_7)
      refine aw_iconst C dX2_stepsBackTo_32 (x := nI 0) (by decide) ?_
      exact aw_iend C dX2_stepsBackTo_33 rfl (by rw [he]; rfl)
    | succ j ih =>
      intro s q hj hq he
      obtain ⟨hq1, hq2, hq3⟩ := hP q hq
      have hq4 := (hP (f q) hq3).1
      refine aw_iload_n C dX2_stepsBackTo_4 Lk3 ?_
      refine aw_bipush C dX2_stepsBackTo_5 (x := nI 10) (by decide) ?_
      refine aw_icmp_gt C dX2_stepsBackTo_7 (tgt := 32) (by decide) (fun c_7 => absurd c_7 (nI_nlt (by omega) (by omega))) (fun c_7 => ?_)
      refine aw_aload_n C dX2_stepsBackTo_10 Lk0 ?_
      refine aw_gX2_aims C H.1 dX2_stepsBackTo_11 (by decide +kernel) (by decide +kernel) ?_
      refine aw_iload_n C dX2_stepsBackTo_14 Lk2 ?_
      refine aw_cV1 C dX2_stepsBackTo_15 gX2_stepsBackTo_X1_at sX1_at (rm := rmX1_at) rfl (recRow (mR_lt ht)) (c_X1_at (mR_lt ht) (by rw [csT_1]; omega) (by rw [csT_1, hm]; exact hq1)) ?_
      rw [csT_m, hq2]
      refine aw_istore_n C dX2_stepsBackTo_18 St2 rfl ?_
      refine aw_iload_n C dX2_stepsBackTo_19 Lk2 ?_
      refine aw_iload_n C dX2_stepsBackTo_20 Lk1 ?_
      refine aw_icmp_ne C dX2_stepsBackTo_21 (tgt := 26) (by decide) (fun c_21 => ?_) (fun c_21 => ?_)
      · skip
        have hne : ¬ f q = k := fun z9 => c_21 (congrArg nI z9)
        refine aw_iinc C dX2_stepsBackTo_26 Lk3 (nI_1 _) St3 rfl ?_
        refine aw_goto C dX2_stepsBackTo_29 (tgt := 4) (by decide) ?_
        exact ih (s + 1) (f q) (by omega) hq3 (by rw [he, cyG, if_neg hne])
      · skip
        have heq : f q = k := nI_inj (by omega) (by omega) (Classical.not_not.mp c_21)
        refine aw_iload_n C dX2_stepsBackTo_24 Lk3 ?_
        exact aw_iend C dX2_stepsBackTo_25 rfl (by rw [he, cyG, if_pos heq])
  exact hl_4 10 1 k rfl hk rfl
set_option maxHeartbeats 4000000 in
set_option maxRecDepth 100000 in
theorem c_X2_closeRing {σ : CS} {t n : Nat} {h : Nat → Nat} {T : Nat → List Nat} {lr : Nat → Nat} (H : RunOK σ t n h T lr) {g d z m : Nat → Int32} {ro : Int32} {b : Nat} {f : Nat → Nat} {P : Nat → Prop} (hP : ∀ q, P q → q < n ∧ m q = nI (f q) ∧ P (f q)) {k c0 : Nat} {x : Int32} (hk : P k) (hc : c0 ≤ 10) : aM l D (cTys cI cZ cR cJ) 49 a yX2_closeRing wsX2_closeRing rmX2_closeRing [.ref (ta a t), .int (nI k), .int (nI c0), .int x] (cv cI cR a (csT σ t g d z m ro (nI b))) (none) (cv cI cR a (csT σ t (seF f k c0 (fun q => nI (h (f q))) g) (seF f k c0 (fun _ => x) d) (seF f k c0 (fun _ => nI c0) z) m ro (nI (if 1 < c0 then b + 1 else b)))) := by
  obtain ⟨ht, hn, h0, hh, hg, hd, hz, hm, hL⟩ := id H
  refine aM_of sX2_closeRing (lv0 := [some (.ref (ta a t)), some (.int (nI k)), some (.int (nI c0)), some (.int x), none, none, none]) (j := 3) rfl rfl ?_
  intro pM eM sM mM argsM belowM methM cM AM C
  refine aw_iload_n C dX2_closeRing_0 Lk1 ?_
  refine aw_istore C dX2_closeRing_1 St4 rfl ?_
  refine aw_iconst C dX2_closeRing_3 (x := nI 0) (by decide) ?_
  refine aw_istore C dX2_closeRing_4 St5 rfl ?_
  have hl_6 : ∀ (j s9 : Nat) (hj : s9 + j = c0), aW pM l eM rmX2_closeRing sM mM argsM belowM methM cM (MQ belowM (aQ D 49 a (cv cI cR a (csT σ t (seF f k c0 (fun q => nI (h (f q))) g) (seF f k c0 (fun _ => x) d) (seF f k c0 (fun _ => nI c0) z) m ro (nI (if 1 < c0 then b + 1 else b)))) (none) AM) argsM sM 0 0 AM) D AM 0 0 49 a (cv cI cR a (csT σ t (seF f k s9 (fun q => nI (h (f q))) g) (seF f k s9 (fun _ => x) d) (seF f k s9 (fun _ => nI c0) z) m ro (nI b))) 6 [some (.ref (ta a t)), some (.int (nI k)), some (.int (nI c0)), some (.int x), some (.int (nI (itF f s9 k))), some (.int (nI s9)), none] [] := by
    intro j
    induction j with
    | zero =>
      intro s9 hj
      refine aw_iload C dX2_closeRing_6 Lk5 ?_
      refine aw_iload_n C dX2_closeRing_8 Lk2 ?_
      refine aw_icmp_ge C dX2_closeRing_9 (tgt := 71) (by decide) (fun c_9 => ?_) (fun c_9 => absurd (nI_le (by omega) (by omega)) c_9)
      refine aw_iload_n C dX2_closeRing_71 Lk2 ?_
      refine aw_iconst C dX2_closeRing_72 (x := nI 1) (by decide) ?_
      refine aw_icmp_le C dX2_closeRing_73 (tgt := 86) (by decide) (fun c_73 => ?_) (fun c_73 => ?_)
      · skip
        exact aw_vend C dX2_closeRing_86 (by rw [show s9 = c0 by omega, if_neg (fun z9 => nI_ge z9 (by omega) c_73)]) rfl
      · skip
        refine aw_aload_n C dX2_closeRing_76 Lk0 ?_
        refine aw_dup C dX2_closeRing_77 rfl ?_
        refine aw_gX2_ringsOfMore C H.1 dX2_closeRing_78 (by decide +kernel) (by decide +kernel) ?_
        rw [csT_rm]
        refine aw_iconst C dX2_closeRing_81 (x := nI 1) (by decide) ?_
        refine aw_iadd C dX2_closeRing_82 ?_
        rw [nI_add]
        refine aw_pX2_ringsOfMore C H.1 dX2_closeRing_83 (by decide +kernel) (by decide +kernel) ?_
        rw [csT_srm]
        exact aw_vend C dX2_closeRing_86 (by rw [show s9 = c0 by omega, if_pos (Nat.lt_of_not_le (fun z9 => c_73 (nI_le z9 (by omega))))]) rfl
    | succ j ih =>
      intro s9 hj
      have hPs : P (itF f s9 k) := by
        clear ih hj
        induction s9 with
        | zero => exact hk
        | succ s9 ih9 => exact (hP _ ih9).2.2
      obtain ⟨hq1, hq2, hq3⟩ := hP _ hPs
      have hq4 := (hP _ hq3).1
      refine aw_iload C dX2_closeRing_6 Lk5 ?_
      refine aw_iload_n C dX2_closeRing_8 Lk2 ?_
      refine aw_icmp_ge C dX2_closeRing_9 (tgt := 71) (by decide) (fun c_9 => absurd c_9 (nI_ge (by omega) (by omega))) (fun c_9 => ?_)
      refine aw_aload_n C dX2_closeRing_12 Lk0 ?_
      refine aw_gX2_aims C H.1 dX2_closeRing_13 (by decide +kernel) (by decide +kernel) ?_
      refine aw_iload C dX2_closeRing_16 Lk4 ?_
      refine aw_cV1 C dX2_closeRing_18 gX2_closeRing_X1_at sX1_at (rm := rmX1_at) rfl (recRow (mR_lt ht)) (c_X1_at (mR_lt ht) (by rw [csT_1]; omega) (by rw [csT_1, hm]; exact hq1)) ?_
      rw [csT_m, hq2]
      refine aw_istore C dX2_closeRing_21 St6 rfl ?_
      refine aw_aload_n C dX2_closeRing_23 Lk0 ?_
      refine aw_gX2_gets C H.1 dX2_closeRing_24 (by decide +kernel) (by decide +kernel) ?_
      refine aw_iload C dX2_closeRing_27 Lk4 ?_
      refine aw_aload_n C dX2_closeRing_29 Lk0 ?_
      refine aw_gX2_land C H.1 dX2_closeRing_30 (by decide +kernel) (by decide +kernel) ?_
      refine aw_iload C dX2_closeRing_33 Lk6 ?_
      refine aw_cV1 C dX2_closeRing_35 gX2_closeRing_X0_hutOf sX0_hutOf (rm := rmX0_hutOf) rfl recLand (c_X0_hutOf (by rw [csT_1]; omega) (by rw [csT_1, h0]; exact hq4)) ?_
      rw [csT_o (Or.inl (by decide)), hh _ hq4]
      refine aw_cV2v C dX2_closeRing_38 gX2_closeRing_X1_put sX1_put (rm := rmX1_put) rfl (recRow (gR_lt ht)) (c_X1_put (gR_lt ht) (by rw [csT_1]; omega) (by rw [csT_1, hg]; exact hq1)) ?_
      rw [csT_sg, seF_s rfl]
      refine aw_aload_n C dX2_closeRing_41 Lk0 ?_
      refine aw_gX2_doneIn C H.1 dX2_closeRing_42 (by decide +kernel) (by decide +kernel) ?_
      refine aw_iload C dX2_closeRing_45 Lk4 ?_
      refine aw_iload_n C dX2_closeRing_47 Lk3 ?_
      refine aw_cV2v C dX2_closeRing_48 gX2_closeRing_X1_put sX1_put (rm := rmX1_put) rfl (recRow (dR_lt ht)) (c_X1_put (dR_lt ht) (by rw [csT_1]; omega) (by rw [csT_1, hd]; exact hq1)) ?_
      rw [csT_sd, seF_s rfl]
      refine aw_aload_n C dX2_closeRing_51 Lk0 ?_
      refine aw_gX2_ringSizes C H.1 dX2_closeRing_52 (by decide +kernel) (by decide +kernel) ?_
      refine aw_iload C dX2_closeRing_55 Lk4 ?_
      refine aw_iload_n C dX2_closeRing_57 Lk2 ?_
      refine aw_cV2v C dX2_closeRing_58 gX2_closeRing_X1_put sX1_put (rm := rmX1_put) rfl (recRow (zR_lt ht)) (c_X1_put (zR_lt ht) (by rw [csT_1]; omega) (by rw [csT_1, hz]; exact hq1)) ?_
      rw [csT_sz, seF_s rfl]
      refine aw_iload C dX2_closeRing_61 Lk6 ?_
      refine aw_istore C dX2_closeRing_63 St4 rfl ?_
      refine aw_iinc C dX2_closeRing_65 Lk5 (nI_1 _) St5 rfl ?_
      refine aw_goto C dX2_closeRing_68 (tgt := 6) (by decide) ?_
      exact aW_wk (ih (s9 + 1) (by omega)) (by repeat' (first | exact Wk.n | apply Wk.k | apply Wk.d))
  have hq := hl_6 c0 0 (by omega)
  rw [seF_0, seF_0, seF_0] at hq
  exact hq
set_option maxHeartbeats 4000000 in
set_option maxRecDepth 100000 in
theorem c_X2_closeRings {σ : CS} {t n : Nat} {h : Nat → Nat} {T : Nat → List Nat} {lr : Nat → Nat} (H : RunOK σ t n h T lr) {m : Nat → Int32} {ro : Int32} {t0 : Nat → Bool} (ht0 : tOK t0 n) {r : Nat} (hr : r < 10) {d0 g0 z0 : Nat → Int32} (hd0 : ∀ k, k < n → d0 k = if t0 k then 0 else -1) (hm9 : ∀ q, thR T t0 r q = true → m q = nI (faR T t0 r q)) : aM l D (cTys cI cZ cR cJ) 49 a yX2_closeRings wsX2_closeRings rmX2_closeRings [.ref (ta a t), .int (nI (r + 1))] (cv cI cR a (csT σ t (gtR T t0 h g0 r) (dnR T t0 d0 r) (zrR T t0 z0 r) m ro (nI (rmR T t0 n r)))) (none) (cv cI cR a (csT σ t (gtR T t0 h g0 (r + 1)) (dnR T t0 d0 (r + 1)) (zrR T t0 z0 (r + 1)) m ro (nI (rmR T t0 n (r + 1))))) := by
  obtain ⟨ht, hn, h0, hh, hg, hd, hz, hm, hL⟩ := id H
  have hP : ∀ q, thR T t0 r q = true → q < n ∧ m q = nI (faR T t0 r q) ∧ thR T t0 r (faR T t0 r q) = true := fun q hq => ⟨thR_lt ht0 hq, hm9 q hq, faR_th hq⟩
  refine aM_of sX2_closeRings (lv0 := [some (.ref (ta a t)), some (.int (nI (r + 1))), none, none]) (j := 2) rfl rfl ?_
  intro pM eM sM mM argsM belowM methM cM AM C
  refine aw_iconst C dX2_closeRings_0 (x := nI 0) (by decide) ?_
  refine aw_istore_n C dX2_closeRings_1 St2 rfl ?_
  have hl_2 : ∀ (j i : Nat) (hj : i + j = n), aW pM l eM rmX2_closeRings sM mM argsM belowM methM cM (MQ belowM (aQ D 49 a (cv cI cR a (csT σ t (gtR T t0 h g0 (r + 1)) (dnR T t0 d0 (r + 1)) (zrR T t0 z0 (r + 1)) m ro (nI (rmR T t0 n (r + 1))))) (none) AM) argsM sM 0 0 AM) D AM 0 0 49 a (cv cI cR a (csT σ t (scF T t0 r (i) (fun q => nI (h (faR T t0 r q))) (gtR T t0 h g0 r)) (scF T t0 r (i) (fun _ => nI (r + 1)) (dnR T t0 d0 r)) (scF T t0 r (i) (fun q => nI (cyR T t0 r q)) (zrR T t0 z0 r)) m ro (nI (rmR T t0 n r + fb_ct (ldR T t0 r) (i))))) 2 [some (.ref (ta a t)), some (.int (nI (r + 1))), some (.int (nI i)), none] [] := by
    intro j
    induction j with
    | zero =>
      intro i hj
      refine aw_iload_n C dX2_closeRings_2 Lk2 ?_
      refine aw_aload_n C dX2_closeRings_3 Lk0 ?_
      refine aw_gX2_aims C H.1 dX2_closeRings_4 (by decide +kernel) (by decide +kernel) ?_
      refine aw_cV0 C dX2_closeRings_7 gX2_closeRings_X1_size sX1_size (rm := rmX1_size) rfl (recRow (mR_lt ht)) (c_X1_size (mR_lt ht)) ?_
      rw [csT_1, hm]
      refine aw_icmp_ge C dX2_closeRings_10 (tgt := 51) (by decide) (fun c_10 => ?_) (fun c_10 => absurd (nI_le (by omega) (by omega)) c_10)
      exact aw_vend C dX2_closeRings_51 (by rw [show i = n by omega, scF_n ht0, scF_n ht0, scF_n ht0]; rfl) rfl
    | succ j ih =>
      intro i hj
      have hi : i < n := by omega
      refine aw_iload_n C dX2_closeRings_2 Lk2 ?_
      refine aw_aload_n C dX2_closeRings_3 Lk0 ?_
      refine aw_gX2_aims C H.1 dX2_closeRings_4 (by decide +kernel) (by decide +kernel) ?_
      refine aw_cV0 C dX2_closeRings_7 gX2_closeRings_X1_size sX1_size (rm := rmX1_size) rfl (recRow (mR_lt ht)) (c_X1_size (mR_lt ht)) ?_
      rw [csT_1, hm]
      refine aw_icmp_ge C dX2_closeRings_10 (tgt := 51) (by decide) (fun c_10 => absurd c_10 (nI_ge hi (by omega))) (fun c_10 => ?_)
      refine aw_aload_n C dX2_closeRings_13 Lk0 ?_
      refine aw_gX2_doneIn C H.1 dX2_closeRings_14 (by decide +kernel) (by decide +kernel) ?_
      refine aw_iload_n C dX2_closeRings_17 Lk2 ?_
      refine aw_cV1 C dX2_closeRings_18 gX2_closeRings_X1_at sX1_at (rm := rmX1_at) rfl (recRow (dR_lt ht)) (c_X1_at (dR_lt ht) (by rw [csT_1]; omega) (by rw [csT_1]; omega)) ?_
      rw [csT_d]
      refine aw_if_ne C dX2_closeRings_21 (tgt := 32) (by decide) (fun c_21 => ?_) (fun c_21 => ?_)
      · skip
        have hsk : thR T t0 r i = false ∨ scR T t0 r i i = true ∨ cyR T t0 r i = 0 := by
          cases e9 : scR T t0 r i i
          · refine Or.inl ?_
            cases e8 : thR T t0 r i
            · rfl
            · exfalso
              rw [scF_no e9] at c_21
              exact c_21 ((dnR_0 hd0 hi r (by omega)).mpr e8)
          · exact Or.inr (Or.inl rfl)
        refine aw_iconst C dX2_closeRings_32 (x := nI 0) (by decide) ?_
        refine aw_istore_n C dX2_closeRings_33 St3 rfl ?_
        refine aw_iload_n C dX2_closeRings_34 Lk3 ?_
        refine aw_if_le C dX2_closeRings_35 (tgt := 45) (by decide) (fun c_35 => ?_) (fun c_35 => absurd (by decide) c_35)
        refine aw_iinc C dX2_closeRings_45 Lk2 (nI_1 _) St2 rfl ?_
        have hq := ih (i + 1) (by omega)
        rw [scF_skip hsk, scF_skip hsk, scF_skip hsk, ldR_skip hsk] at hq
        refine aw_goto C dX2_closeRings_48 (tgt := 2) (by decide) ?_
        exact aW_wk hq (by repeat' (first | exact Wk.n | apply Wk.k | apply Wk.d))
      · skip
        have hnot : scR T t0 r i i = false := by
          cases e9 : scR T t0 r i i
          · rfl
          · exfalso
            rw [scF_yes e9] at c_21
            exact c_21 (nI_ne0 (by omega) (by omega))
        have hth : thR T t0 r i = true := by
          rw [scF_no hnot] at c_21
          exact (dnR_0 hd0 hi r (by omega)).mp (Classical.not_not.mp c_21)
        refine aw_aload_n C dX2_closeRings_24 Lk0 ?_
        refine aw_iload_n C dX2_closeRings_25 Lk2 ?_
        refine aw_cV1 C dX2_closeRings_26 gX2_closeRings_X2_stepsBackTo sX2_stepsBackTo (rm := rmX2_stepsBackTo) rfl (recTr H.1) (c_X2_stepsBackTo H (P := fun q => thR T t0 r q = true) hP hth) ?_
        refine aw_goto C dX2_closeRings_29 (tgt := 33) (by decide) ?_
        refine aw_istore_n C dX2_closeRings_33 St3 rfl ?_
        refine aw_iload_n C dX2_closeRings_34 Lk3 ?_
        refine aw_if_le C dX2_closeRings_35 (tgt := 45) (by decide) (fun c_35 => ?_) (fun c_35 => ?_)
        · skip
          have hsk : thR T t0 r i = false ∨ scR T t0 r i i = true ∨ cyR T t0 r i = 0 := by
            refine Or.inr (Or.inr ?_)
            rcases Nat.eq_zero_or_pos (cyR T t0 r i) with q | q
            · exact q
            · exact absurd c_35 (nI_nle (n := cyR T t0 r i) q (by have h9 : cyR T t0 r i ≤ 10 := cy_le _ _; omega))
          refine aw_iinc C dX2_closeRings_45 Lk2 (nI_1 _) St2 rfl ?_
          have hq := ih (i + 1) (by omega)
          rw [scF_skip hsk, scF_skip hsk, scF_skip hsk, ldR_skip hsk] at hq
          refine aw_goto C dX2_closeRings_48 (tgt := 2) (by decide) ?_
          exact aW_wk hq (by repeat' (first | exact Wk.n | apply Wk.k | apply Wk.d))
        · skip
          have hcl : clR T t0 r i = true := clR_of hth (fun q => c_35 (by rw [show cy (faR T t0 r) i = 0 from q]; decide))
          have hca := cy_le (faR T t0 r) i
          refine aw_aload_n C dX2_closeRings_38 Lk0 ?_
          refine aw_iload_n C dX2_closeRings_39 Lk2 ?_
          refine aw_iload_n C dX2_closeRings_40 Lk3 ?_
          refine aw_iload_n C dX2_closeRings_41 Lk1 ?_
          refine aw_cV3v C dX2_closeRings_42 gX2_closeRings_X2_closeRing sX2_closeRing (rm := rmX2_closeRing) rfl (recTr H.1) (c_X2_closeRing H (P := fun q => thR T t0 r q = true) hP hth hca) ?_
          rw [show (cy (faR T t0 r) i) = cyR T t0 r i from rfl, scF_ring (val := fun q => nI (h (faR T t0 r q))) hcl (fun _ _ => rfl), scF_ring (val := fun _ => nI (r + 1)) hcl (fun _ _ => rfl), scF_ring (val' := fun _ => nI (cyR T t0 r i)) (val := fun q => nI (cyR T t0 r q)) hcl (fun s9 h9 => congrArg nI (clR_ring hcl h9).2.symm), ldR_ct hcl hnot]
          refine aw_iinc C dX2_closeRings_45 Lk2 (nI_1 _) St2 rfl ?_
          refine aw_goto C dX2_closeRings_48 (tgt := 2) (by decide) ?_
          exact aW_wk (ih (i + 1) (by omega)) (by repeat' (first | exact Wk.n | apply Wk.k | apply Wk.d))
  have hq := hl_2 n 0 (by omega)
  rw [scF_0, scF_0, scF_0] at hq
  exact hq
end TRADE
