/-! HutRingsModel: reads -/
def inB (v lo hi : Int32) : Bool := decide (lo ≤ v ∧ v ≤ hi)
theorem inB_t {v lo hi : Int32} (h1 : lo ≤ v) (h2 : v ≤ hi) : inB v lo hi = true := decide_eq_true ⟨h1, h2⟩
theorem inB_lo {v lo hi : Int32} (h : v < lo) : inB v lo hi = false := decide_eq_false (fun q => absurd q.1 (Int32.not_le.mpr h))
theorem inB_hi {v lo hi : Int32} (h : hi < v) : inB v lo hi = false := decide_eq_false (fun q => absurd q.2 (Int32.not_le.mpr h))
/-- n - 1, also where n is 0 -/
theorem nI_pm {n : Nat} (hn : n < 2 ^ 30) {x : Int32} (h : nI n ≤ x) : nI n - nI 1 < x := by
  rcases Nat.eq_zero_or_pos n with q | q
  · subst q
    exact Int32.lt_of_lt_of_le (by decide) h
  · rw [pk_sub (by omega)]
    exact Int32.lt_of_lt_of_le (nI_lt (by omega) (by omega)) h
theorem isK_t {n k : Nat} (hn : n < 2 ^ 30) (hk : k < n) : inB (nI k) (nI 0) (nI n - nI 1) = true := by
  rw [pk_sub (by omega)]
  exact inB_t (nI_pos' (by omega)) (nI_le (by omega) (by omega))
theorem isK_f {n : Nat} (hn : n < 2 ^ 30) {x : Int32} (h : x < 0 ∨ nI n ≤ x) : inB x (nI 0) (nI n - nI 1) = false :=
  h.elim (fun q => inB_lo q) (fun q => inB_hi (nI_pm hn q))
/-- row k of the lists -/
def liF (τ : MS) (k : Nat) : Nat → Int32 := fun p => τ.2 3 (10 * k + p)
def anG (th : Nat → Bool) : Nat → Nat → Bool
  | 0, _ => false
  | m + 1, i => if th i then true else anG th m (i + 1)
theorem anG_iff {th : Nat → Bool} : ∀ (m i : Nat), anG th m i = true ↔ ∃ k, i ≤ k ∧ k < i + m ∧ th k = true := by
  intro m
  induction m with
  | zero => intro i; exact ⟨fun h => (by cases h), fun ⟨k, h1, h2, _⟩ => absurd h1 (by omega)⟩
  | succ m ih =>
    intro i
    simp only [anG]
    cases e : th i
    · simp only [Bool.false_eq_true, if_false]
      rw [ih (i + 1)]
      constructor
      · rintro ⟨k, h1, h2, h3⟩; exact ⟨k, by omega, by omega, h3⟩
      · rintro ⟨k, h1, h2, h3⟩
        have : k ≠ i := fun q => by rw [q, e] at h3; cases h3
        exact ⟨k, by omega, by omega, h3⟩
    · simp only [if_true]
      exact ⟨fun _ => ⟨i, Nat.le_refl _, by omega, e⟩, fun _ => True.intro⟩
def mRank (τ : MS) (k len : Nat) (x : Int32) : Int32 := if x = τ.2 1 k then nI len else rFind (liF τ k) x len 0
section MOD1
variable {l : Launch} {D : va_G} {cI cZ cR cJ : ClassId} {b : Nat → Nat}
set_option maxHeartbeats 4000000 in
set_option maxRecDepth 100000 in
theorem c_X4_thrown {τ : MS} : aM l D (cTys cI cZ cR cJ) 9 b yX4_thrown wsX4_thrown rmX4_thrown [.ref (b 0)] (mv cI cZ b (τ)) (some (.int (τ.1 0))) (mv cI cZ b (τ)) := by
  refine aM_of sX4_thrown (lv0 := [some (.ref (b 0))]) (j := 0) rfl rfl ?_
  intro pM eM sM mM argsM belowM methM cM AM C
  refine aw_aload_n C dX4_thrown_0 Lk0 ?_
  refine aw_gX4_thrown C  dX4_thrown_1 (by decide +kernel) (by decide +kernel) ?_
  exact aw_iend C dX4_thrown_4 rfl rfl
set_option maxHeartbeats 4000000 in
set_option maxRecDepth 100000 in
theorem c_X4_fail {τ : MS} {x : Int32} : aM l D (cTys cI cZ cR cJ) 9 b yX4_fail wsX4_fail rmX4_fail [.ref (b 0), .int x] (mv cI cZ b (τ)) (some (.int (nI 0))) (mv cI cZ b (ms1 τ 0 x)) := by
  refine aM_of sX4_fail (lv0 := [some (.ref (b 0)), some (.int x)]) (j := 0) rfl rfl ?_
  intro pM eM sM mM argsM belowM methM cM AM C
  refine aw_aload_n C dX4_fail_0 Lk0 ?_
  refine aw_iload_n C dX4_fail_1 Lk1 ?_
  refine aw_pX4_thrown C  dX4_fail_2 (by decide +kernel) (by decide +kernel) ?_
  refine aw_iconst C dX4_fail_5 (x := nI 0) (by decide) ?_
  exact aw_iend C dX4_fail_6 rfl rfl
set_option maxHeartbeats 4000000 in
set_option maxRecDepth 100000 in
theorem c_X4_isIn {τ : MS} {v lo hi : Int32} : aM l D (cTys cI cZ cR cJ) 9 b yX4_isIn wsX4_isIn rmX4_isIn [.int v, .int lo, .int hi] (mv cI cZ b (τ)) (some (.int (bI (inB v lo hi)))) (mv cI cZ b (τ)) := by
  refine aM_of sX4_isIn (lv0 := [some (.int v), some (.int lo), some (.int hi)]) (j := 0) rfl rfl ?_
  intro pM eM sM mM argsM belowM methM cM AM C
  refine aw_iload_n C dX4_isIn_0 Lk0 ?_
  refine aw_iload_n C dX4_isIn_1 Lk1 ?_
  refine aw_icmp_lt C dX4_isIn_2 (tgt := 14) (by decide) (fun c_2 => ?_) (fun c_2 => ?_)
  · skip
    refine aw_iconst C dX4_isIn_14 (x := nI 0) (by decide) ?_
    exact aw_zend C dX4_isIn_15 rfl rfl (by rw [inB_lo c_2]; rfl)
  · skip
    refine aw_iload_n C dX4_isIn_5 Lk0 ?_
    refine aw_iload_n C dX4_isIn_6 Lk2 ?_
    refine aw_icmp_gt C dX4_isIn_7 (tgt := 14) (by decide) (fun c_7 => ?_) (fun c_7 => ?_)
    · skip
      refine aw_iconst C dX4_isIn_14 (x := nI 0) (by decide) ?_
      exact aw_zend C dX4_isIn_15 rfl rfl (by rw [inB_hi c_7]; rfl)
    · skip
      refine aw_iconst C dX4_isIn_10 (x := nI 1) (by decide) ?_
      refine aw_goto C dX4_isIn_11 (tgt := 15) (by decide) ?_
      exact aw_zend C dX4_isIn_15 rfl rfl (by rw [inB_t (Int32.not_lt.mp c_2) (Int32.not_lt.mp c_7)]; rfl)
set_option maxHeartbeats 4000000 in
set_option maxRecDepth 100000 in
theorem c_X4_isKeeper {τ : MS} {n : Nat} (hn : n ≤ 10) (h1 : τ.1 1 = nI n) {x : Int32} : aM l D (cTys cI cZ cR cJ) 9 b yX4_isKeeper wsX4_isKeeper rmX4_isKeeper [.ref (b 0), .int x] (mv cI cZ b (τ)) (some (.int (bI (inB x (nI 0) (nI n - nI 1))))) (mv cI cZ b (τ)) := by
  refine aM_of sX4_isKeeper (lv0 := [some (.ref (b 0)), some (.int x)]) (j := 0) rfl rfl ?_
  intro pM eM sM mM argsM belowM methM cM AM C
  refine aw_iload_n C dX4_isKeeper_0 Lk1 ?_
  refine aw_iconst C dX4_isKeeper_1 (x := nI 0) (by decide) ?_
  refine aw_aload_n C dX4_isKeeper_2 Lk0 ?_
  refine aw_gX4_keepers C  dX4_isKeeper_3 (by decide +kernel) (by decide +kernel) ?_
  rw [h1]
  refine aw_iconst C dX4_isKeeper_6 (x := nI 1) (by decide) ?_
  refine aw_isub C dX4_isKeeper_7 ?_
  refine aw_cS3 C dX4_isKeeper_8 gX4_isKeeper_X4_isIn sX4_isIn (rm := rmX4_isIn) rfl c_X4_isIn ?_
  exact aw_zend C dX4_isKeeper_11 (bI_nar _) rfl rfl
set_option maxHeartbeats 4000000 in
set_option maxRecDepth 100000 in
theorem c_X4_li {τ : MS} {k p : Nat} (h : 10 * k + p < 100) : aM l D (cTys cI cZ cR cJ) 9 b yX4_li wsX4_li rmX4_li [.ref (b 0), .int (nI k), .int (nI p)] (mv cI cZ b (τ)) (some (.int (liF τ k p))) (mv cI cZ b (τ)) := by
  refine aM_of sX4_li (lv0 := [some (.ref (b 0)), some (.int (nI k)), some (.int (nI p))]) (j := 0) rfl rfl ?_
  intro pM eM sM mM argsM belowM methM cM AM C
  refine aw_aload_n C dX4_li_0 Lk0 ?_
  refine aw_gX4_lists C  dX4_li_1 (by decide +kernel) (by decide +kernel) ?_
  refine aw_bipush C dX4_li_4 (x := nI 10) (by decide) ?_
  refine aw_iload_n C dX4_li_6 Lk1 ?_
  refine aw_imul C dX4_li_7 ?_
  rw [pk_mul]
  refine aw_iload_n C dX4_li_8 Lk2 ?_
  refine aw_iadd C dX4_li_9 ?_
  rw [nI_add]
  refine aw_ilX4n_3 C dX4_li_10 (by omega) ?_
  exact aw_iend C dX4_li_11 rfl rfl
set_option maxHeartbeats 4000000 in
set_option maxRecDepth 100000 in
theorem c_X4_placeOf {τ : MS} {k len : Nat} (hk : k < 10) (hl : τ.2 2 k = nI len) (hlen : len ≤ 10) {x : Int32} : aM l D (cTys cI cZ cR cJ) 9 b yX4_placeOf wsX4_placeOf rmX4_placeOf [.ref (b 0), .int (nI k), .int x] (mv cI cZ b (τ)) (some (.int (rFind (liF τ k) x len 0))) (mv cI cZ b (τ)) := by
  refine aM_of sX4_placeOf (lv0 := [some (.ref (b 0)), some (.int (nI k)), some (.int x), none]) (j := 1) rfl rfl ?_
  intro pM eM sM mM argsM belowM methM cM AM C
  refine aw_iconst C dX4_placeOf_0 (x := nI 0) (by decide) ?_
  refine aw_istore_n C dX4_placeOf_1 St3 rfl ?_
  have hl_2 : ∀ (j i : Nat) (hj : i + j = len) (he : rFind (liF τ k) x len 0 = rFind (liF τ k) x j i), aW pM l eM rmX4_placeOf sM mM argsM belowM methM cM (MQ belowM (aQ D 9 b (mv cI cZ b (τ)) (some (.int (rFind (liF τ k) x len 0))) AM) argsM sM 0 0 AM) D AM 0 0 9 b (mv cI cZ b (τ)) 2 [some (.ref (b 0)), some (.int (nI k)), some (.int x), some (.int (nI i))] [] := by
    intro j
    induction j with
    | zero =>
      intro i hj he
      refine aw_iload_n C dX4_placeOf_2 Lk3 ?_
      refine aw_aload_n C dX4_placeOf_3 Lk0 ?_
      refine aw_gX4_longs C  dX4_placeOf_4 (by decide +kernel) (by decide +kernel) ?_
      refine aw_iload_n C dX4_placeOf_7 Lk1 ?_
      refine aw_ilX4n_2 C dX4_placeOf_8 (by omega) ?_
      rw [hl]
      refine aw_icmp_ge C dX4_placeOf_9 (tgt := 30) (by decide) (fun c_9 => ?_) (fun c_9 => absurd (nI_le (by omega) (by omega)) c_9)
      refine aw_iconst C dX4_placeOf_30 (x := -1) (by decide) ?_
      exact aw_iend C dX4_placeOf_31 rfl (by rw [he]; rfl)
    | succ j ih =>
      intro i hj he
      refine aw_iload_n C dX4_placeOf_2 Lk3 ?_
      refine aw_aload_n C dX4_placeOf_3 Lk0 ?_
      refine aw_gX4_longs C  dX4_placeOf_4 (by decide +kernel) (by decide +kernel) ?_
      refine aw_iload_n C dX4_placeOf_7 Lk1 ?_
      refine aw_ilX4n_2 C dX4_placeOf_8 (by omega) ?_
      rw [hl]
      refine aw_icmp_ge C dX4_placeOf_9 (tgt := 30) (by decide) (fun c_9 => absurd c_9 (nI_ge (by omega) (by omega))) (fun c_9 => ?_)
      refine aw_aload_n C dX4_placeOf_12 Lk0 ?_
      refine aw_iload_n C dX4_placeOf_13 Lk1 ?_
      refine aw_iload_n C dX4_placeOf_14 Lk3 ?_
      refine aw_cV2 C dX4_placeOf_15 gX4_placeOf_X4_li sX4_li (rm := rmX4_li) rfl recMod (c_X4_li (by omega)) ?_
      refine aw_iload_n C dX4_placeOf_18 Lk2 ?_
      refine aw_icmp_ne C dX4_placeOf_19 (tgt := 24) (by decide) (fun c_19 => ?_) (fun c_19 => ?_)
      · skip
        refine aw_iinc C dX4_placeOf_24 Lk3 (nI_1 _) St3 rfl ?_
        refine aw_goto C dX4_placeOf_27 (tgt := 2) (by decide) ?_
        exact ih (i + 1) (by omega) (by rw [he, rFind, if_neg c_19])
      · skip
        refine aw_iload_n C dX4_placeOf_22 Lk3 ?_
        exact aw_iend C dX4_placeOf_23 rfl (by rw [he, rFind, if_pos (Classical.not_not.mp c_19)])
  exact hl_2 len 0 (by omega) rfl
set_option maxHeartbeats 4000000 in
set_option maxRecDepth 100000 in
theorem c_X4_owner {τ : MS} {n : Nat} (hn : n ≤ 10) (h1 : τ.1 1 = nI n) {x : Int32} : aM l D (cTys cI cZ cR cJ) 9 b yX4_owner wsX4_owner rmX4_owner [.ref (b 0), .int x] (mv cI cZ b (τ)) (some (.int (rFind (τ.2 1) x n 0))) (mv cI cZ b (τ)) := by
  refine aM_of sX4_owner (lv0 := [some (.ref (b 0)), some (.int x), none]) (j := 1) rfl rfl ?_
  intro pM eM sM mM argsM belowM methM cM AM C
  refine aw_iconst C dX4_owner_0 (x := nI 0) (by decide) ?_
  refine aw_istore_n C dX4_owner_1 St2 rfl ?_
  have hl_2 : ∀ (j i : Nat) (hj : i + j = n) (he : rFind (τ.2 1) x n 0 = rFind (τ.2 1) x j i), aW pM l eM rmX4_owner sM mM argsM belowM methM cM (MQ belowM (aQ D 9 b (mv cI cZ b (τ)) (some (.int (rFind (τ.2 1) x n 0))) AM) argsM sM 0 0 AM) D AM 0 0 9 b (mv cI cZ b (τ)) 2 [some (.ref (b 0)), some (.int x), some (.int (nI i))] [] := by
    intro j
    induction j with
    | zero =>
      intro i hj he
      refine aw_iload_n C dX4_owner_2 Lk2 ?_
      refine aw_aload_n C dX4_owner_3 Lk0 ?_
      refine aw_gX4_keepers C  dX4_owner_4 (by decide +kernel) (by decide +kernel) ?_
      rw [h1]
      refine aw_icmp_ge C dX4_owner_7 (tgt := 28) (by decide) (fun c_7 => ?_) (fun c_7 => absurd (nI_le (by omega) (by omega)) c_7)
      refine aw_iconst C dX4_owner_28 (x := -1) (by decide) ?_
      exact aw_iend C dX4_owner_29 rfl (by rw [he]; rfl)
    | succ j ih =>
      intro i hj he
      refine aw_iload_n C dX4_owner_2 Lk2 ?_
      refine aw_aload_n C dX4_owner_3 Lk0 ?_
      refine aw_gX4_keepers C  dX4_owner_4 (by decide +kernel) (by decide +kernel) ?_
      rw [h1]
      refine aw_icmp_ge C dX4_owner_7 (tgt := 28) (by decide) (fun c_7 => absurd c_7 (nI_ge (by omega) (by omega))) (fun c_7 => ?_)
      refine aw_aload_n C dX4_owner_10 Lk0 ?_
      refine aw_gX4_has C  dX4_owner_11 (by decide +kernel) (by decide +kernel) ?_
      refine aw_iload_n C dX4_owner_14 Lk2 ?_
      refine aw_ilX4n_1 C dX4_owner_15 (by omega) ?_
      refine aw_iload_n C dX4_owner_16 Lk1 ?_
      refine aw_icmp_ne C dX4_owner_17 (tgt := 22) (by decide) (fun c_17 => ?_) (fun c_17 => ?_)
      · skip
        refine aw_iinc C dX4_owner_22 Lk2 (nI_1 _) St2 rfl ?_
        refine aw_goto C dX4_owner_25 (tgt := 2) (by decide) ?_
        exact ih (i + 1) (by omega) (by rw [he, rFind, if_neg c_17])
      · skip
        refine aw_iload_n C dX4_owner_20 Lk2 ?_
        exact aw_iend C dX4_owner_21 rfl (by rw [he, rFind, if_pos (Classical.not_not.mp c_17)])
  exact hl_2 n 0 (by omega) rfl
set_option maxHeartbeats 4000000 in
set_option maxRecDepth 100000 in
theorem c_X4_rankOf {τ : MS} {k len : Nat} (hk : k < 10) (hl : τ.2 2 k = nI len) (hlen : len ≤ 10) {x : Int32} : aM l D (cTys cI cZ cR cJ) 9 b yX4_rankOf wsX4_rankOf rmX4_rankOf [.ref (b 0), .int (nI k), .int x] (mv cI cZ b (τ)) (some (.int (mRank τ k len x))) (mv cI cZ b (τ)) := by
  refine aM_of sX4_rankOf (lv0 := [some (.ref (b 0)), some (.int (nI k)), some (.int x)]) (j := 0) rfl rfl ?_
  intro pM eM sM mM argsM belowM methM cM AM C
  refine aw_iload_n C dX4_rankOf_0 Lk2 ?_
  refine aw_aload_n C dX4_rankOf_1 Lk0 ?_
  refine aw_gX4_has C  dX4_rankOf_2 (by decide +kernel) (by decide +kernel) ?_
  refine aw_iload_n C dX4_rankOf_5 Lk1 ?_
  refine aw_ilX4n_1 C dX4_rankOf_6 (by omega) ?_
  refine aw_icmp_ne C dX4_rankOf_7 (tgt := 19) (by decide) (fun c_7 => ?_) (fun c_7 => ?_)
  · skip
    refine aw_aload_n C dX4_rankOf_19 Lk0 ?_
    refine aw_iload_n C dX4_rankOf_20 Lk1 ?_
    refine aw_iload_n C dX4_rankOf_21 Lk2 ?_
    refine aw_cV2 C dX4_rankOf_22 gX4_rankOf_X4_placeOf sX4_placeOf (rm := rmX4_placeOf) rfl recMod (c_X4_placeOf hk hl hlen) ?_
    exact aw_iend C dX4_rankOf_25 rfl (by rw [mRank, if_neg c_7])
  · skip
    refine aw_aload_n C dX4_rankOf_10 Lk0 ?_
    refine aw_gX4_longs C  dX4_rankOf_11 (by decide +kernel) (by decide +kernel) ?_
    refine aw_iload_n C dX4_rankOf_14 Lk1 ?_
    refine aw_ilX4n_2 C dX4_rankOf_15 (by omega) ?_
    rw [hl]
    refine aw_goto C dX4_rankOf_16 (tgt := 25) (by decide) ?_
    exact aw_iend C dX4_rankOf_25 rfl (by rw [mRank, if_pos (Classical.not_not.mp c_7)])
set_option maxHeartbeats 4000000 in
set_option maxRecDepth 100000 in
theorem c_X4_isAnybody {τ : MS} {n : Nat} (hn : n ≤ 10) (h1 : τ.1 1 = nI n) {th : Nat → Bool} (hth : ∀ q, q < n → τ.2 8 q = bI (th q)) : aM l D (cTys cI cZ cR cJ) 9 b yX4_isAnybody wsX4_isAnybody rmX4_isAnybody [.ref (b 0)] (mv cI cZ b (τ)) (some (.int (bI (anG th n 0)))) (mv cI cZ b (τ)) := by
  refine aM_of sX4_isAnybody (lv0 := [some (.ref (b 0)), none]) (j := 1) rfl rfl ?_
  intro pM eM sM mM argsM belowM methM cM AM C
  refine aw_iconst C dX4_isAnybody_0 (x := nI 0) (by decide) ?_
  refine aw_istore_n C dX4_isAnybody_1 St1 rfl ?_
  have hl_2 : ∀ (j i : Nat) (hj : i + j = n) (he : anG th n 0 = anG th j i), aW pM l eM rmX4_isAnybody sM mM argsM belowM methM cM (MQ belowM (aQ D 9 b (mv cI cZ b (τ)) (some (.int (bI (anG th n 0)))) AM) argsM sM 0 0 AM) D AM 0 0 9 b (mv cI cZ b (τ)) 2 [some (.ref (b 0)), some (.int (nI i))] [] := by
    intro j
    induction j with
    | zero =>
      intro i hj he
      refine aw_iload_n C dX4_isAnybody_2 Lk1 ?_
      refine aw_aload_n C dX4_isAnybody_3 Lk0 ?_
      refine aw_gX4_keepers C  dX4_isAnybody_4 (by decide +kernel) (by decide +kernel) ?_
      rw [h1]
      refine aw_icmp_ge C dX4_isAnybody_7 (tgt := 27) (by decide) (fun c_7 => ?_) (fun c_7 => absurd (nI_le (by omega) (by omega)) c_7)
      refine aw_iconst C dX4_isAnybody_27 (x := nI 0) (by decide) ?_
      exact aw_zend C dX4_isAnybody_28 rfl rfl (by rw [he]; rfl)
    | succ j ih =>
      intro i hj he
      refine aw_iload_n C dX4_isAnybody_2 Lk1 ?_
      refine aw_aload_n C dX4_isAnybody_3 Lk0 ?_
      refine aw_gX4_keepers C  dX4_isAnybody_4 (by decide +kernel) (by decide +kernel) ?_
      rw [h1]
      refine aw_icmp_ge C dX4_isAnybody_7 (tgt := 27) (by decide) (fun c_7 => absurd c_7 (nI_ge (by omega) (by omega))) (fun c_7 => ?_)
      refine aw_aload_n C dX4_isAnybody_10 Lk0 ?_
      refine aw_gX4_there C  dX4_isAnybody_11 (by decide +kernel) (by decide +kernel) ?_
      refine aw_iload_n C dX4_isAnybody_14 Lk1 ?_
      refine aw_ilX4n_8 C dX4_isAnybody_15 (by omega) ?_
      rw [hth i (by omega)]
      refine aw_if_eq C dX4_isAnybody_16 (tgt := 21) (by decide) (fun c_16 => ?_) (fun c_16 => ?_)
      · skip
        have hb : th i = false := bI_0.mp c_16
        refine aw_iinc C dX4_isAnybody_21 Lk1 (nI_1 _) St1 rfl ?_
        refine aw_goto C dX4_isAnybody_24 (tgt := 2) (by decide) ?_
        exact ih (i + 1) (by omega) (by rw [he, anG, hb]; rfl)
      · skip
        have hb : th i = true := by cases e9 : th i <;> first | rfl | (rw [e9] at c_16; exact absurd rfl c_16)
        refine aw_iconst C dX4_isAnybody_19 (x := nI 1) (by decide) ?_
        exact aw_zend C dX4_isAnybody_20 rfl rfl (by rw [he, anG, hb]; rfl)
  exact hl_2 n 0 (by omega) rfl
end MOD1
