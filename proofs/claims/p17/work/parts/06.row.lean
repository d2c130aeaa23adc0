/-! HutRings$Row: one row of the world -/
/-- row j with size n and contents f -/
def csR (σ : CS) (j n : Nat) (f : Nat → Int32) : CS := (updN σ.1 j n, fun q => if q = j then f else σ.2.1 q, σ.2.2)
theorem csR_1 {σ : CS} {j n : Nat} {f : Nat → Int32} : (csR σ j n f).1 j = n := by simp [csR, updN]
theorem csR_2 {σ : CS} {j n : Nat} {f : Nat → Int32} : (csR σ j n f).2.1 j = f := by simp [csR]
theorem csR_1n {σ : CS} {j n q : Nat} {f : Nat → Int32} (h : q ≠ j) : (csR σ j n f).1 q = σ.1 q := by simp [csR, updN, h]
theorem csR_2n {σ : CS} {j n q : Nat} {f : Nat → Int32} (h : q ≠ j) : (csR σ j n f).2.1 q = σ.2.1 q := by simp [csR, h]
theorem csR_3 {σ : CS} {j n : Nat} {f : Nat → Int32} : (csR σ j n f).2.2 = σ.2.2 := rfl
theorem csR_s1 {σ : CS} {j n : Nat} : cs1 σ j n = csR σ j n (σ.2.1 j) := by
  refine Prod.ext rfl (Prod.ext ?_ rfl)
  funext q
  by_cases e : q = j <;> simp [cs1, csR, e]
theorem csR_s2 {σ : CS} {j i : Nat} {x : Int32} : cs2 σ j i x = csR σ j (σ.1 j) (upd (σ.2.1 j) i x) := by
  refine Prod.ext ?_ (Prod.ext rfl rfl)
  funext q
  by_cases e : q = j <;> simp [cs2, csR, updN, e]
theorem csR_self {σ : CS} {j : Nat} : csR σ j (σ.1 j) (σ.2.1 j) = σ := by
  refine Prod.ext ?_ (Prod.ext ?_ rfl) <;> funext q <;> by_cases e : q = j <;> simp [csR, updN, e]
theorem csR_R {σ : CS} {j n n' : Nat} {f f' : Nat → Int32} : csR (csR σ j n f) j n' f' = csR σ j n' f' := by
  refine Prod.ext ?_ (Prod.ext ?_ rfl) <;> funext q <;> by_cases e : q = j <;> simp [csR, updN, e]
theorem csR_R1 {σ : CS} {j n n' : Nat} {f : Nat → Int32} : cs1 (csR σ j n f) j n' = csR σ j n' f := by rw [csR_s1, csR_R, csR_2]
theorem csR_R2 {σ : CS} {j n i : Nat} {f : Nat → Int32} {x : Int32} : cs2 (csR σ j n f) j i x = csR σ j n (upd f i x) := by rw [csR_s2, csR_R, csR_1, csR_2]
/-- the first place from i on, of n places, that holds x -/
def rFind (f : Nat → Int32) (x : Int32) : Nat → Nat → Int32
  | 0, _ => -1
  | n + 1, i => if f i = x then nI i else rFind f x n (i + 1)
/-- f, the places behind t up to s moved on by one -/
def shF (f : Nat → Int32) (t s : Nat) : Nat → Int32 := fun q => if t < q ∧ q ≤ s then f (q - 1) else f q
theorem shF_0 {f : Nat → Int32} {s : Nat} : shF f s s = f := by
  funext q
  simp only [shF]
  rw [if_neg (by omega)]
theorem shF_step {f : Nat → Int32} {t s : Nat} (h : t + 1 ≤ s) : upd (shF f (t + 1) s) (t + 1) (f t) = shF f t s := by
  funext q
  simp only [upd, shF]
  by_cases e : q = t + 1
  · subst e
    rw [if_pos rfl, if_pos (by omega), Nat.add_sub_cancel]
  · rw [if_neg e]
    by_cases h1 : t + 1 < q ∧ q ≤ s
    · rw [if_pos h1, if_pos (by omega)]
    · rw [if_neg h1, if_neg (by omega)]
theorem shF_at {f : Nat → Int32} {t s : Nat} : shF f (t + 1) s t = f t := by
  simp only [shF]
  rw [if_neg (by omega)]
/-- f, the places from t up to i (not with i) moved back by one -/
def skF (f : Nat → Int32) (t i : Nat) : Nat → Int32 := fun q => if t ≤ q ∧ q < i then f (q + 1) else f q
theorem skF_0 {f : Nat → Int32} {t : Nat} : skF f t t = f := by
  funext q
  simp only [skF]
  rw [if_neg (by omega)]
theorem skF_step {f : Nat → Int32} {t i : Nat} (h : t ≤ i) : upd (skF f t i) i (f (i + 1)) = skF f t (i + 1) := by
  funext q
  simp only [upd, skF]
  by_cases e : q = i
  · subst e
    rw [if_pos rfl, if_pos (by omega)]
  · rw [if_neg e]
    by_cases h1 : t ≤ q ∧ q < i
    · rw [if_pos h1, if_pos (by omega)]
    · rw [if_neg h1, if_neg (by omega)]
theorem skF_at {f : Nat → Int32} {t i : Nat} : skF f t i (i + 1) = f (i + 1) := by
  simp only [skF]
  rw [if_neg (by omega)]
/-- f, the places below i filled with y -/
def flF (f : Nat → Int32) (y : Int32) (i : Nat) : Nat → Int32 := fun q => if q < i then y else f q
theorem flF_0 {f : Nat → Int32} {y : Int32} : flF f y 0 = f := by
  funext q
  simp [flF]
theorem flF_step {f : Nat → Int32} {y : Int32} {i : Nat} : upd (flF f y i) i y = flF f y (i + 1) := by
  funext q
  simp only [upd, flF]
  by_cases e : q = i
  · subst e
    rw [if_pos rfl, if_pos (by omega)]
  · rw [if_neg e]
    by_cases h1 : q < i
    · rw [if_pos h1, if_pos (by omega)]
    · rw [if_neg h1, if_neg (by omega)]
def rSum (f : Nat → Int32) : Nat → Int32
  | 0 => 0
  | n + 1 => rSum f n + f n
def rMax (f : Nat → Int32) : Nat → Int32
  | 0 => 0
  | n + 1 => if rMax f n < f n then f n else rMax f n
section ROW
variable {l : Launch} {D : va_G} {cI cZ cR cJ : ClassId} {a : Nat → Nat}
set_option maxHeartbeats 4000000 in
set_option maxRecDepth 100000 in
theorem c_X1_size {σ : CS} {j : Nat} (hj : j < 22) : aM l D (cTys cI cZ cR cJ) 49 a yX1_size wsX1_size rmX1_size [.ref (ra a j)] (cv cI cR a (σ)) (some (.int (nI (σ.1 j)))) (cv cI cR a (σ)) := by
  refine aM_of sX1_size (lv0 := [some (.ref (ra a j))]) (j := 0) rfl rfl ?_
  intro pM eM sM mM argsM belowM methM cM AM C
  refine aw_aload_n C dX1_size_0 Lk0 ?_
  refine aw_gX1_size C hj dX1_size_1 (by decide +kernel) (by decide +kernel) ?_
  exact aw_iend C dX1_size_4 rfl rfl
set_option maxHeartbeats 4000000 in
set_option maxRecDepth 100000 in
theorem c_X1_at {σ : CS} {j : Nat} (hj : j < 22) {i : Nat} (hs : σ.1 j ≤ 10) (hi : i < σ.1 j) : aM l D (cTys cI cZ cR cJ) 49 a yX1_at wsX1_at rmX1_at [.ref (ra a j), .int (nI i)] (cv cI cR a (σ)) (some (.int (σ.2.1 j i))) (cv cI cR a (σ)) := by
  refine aM_of sX1_at (lv0 := [some (.ref (ra a j)), some (.int (nI i))]) (j := 0) rfl rfl ?_
  intro pM eM sM mM argsM belowM methM cM AM C
  refine aw_iload_n C dX1_at_0 Lk1 ?_
  refine aw_if_lt C dX1_at_1 (tgt := 30) (by decide) (fun c_1 => absurd c_1 (nI_pos (by omega))) (fun c_1 => ?_)
  refine aw_iload_n C dX1_at_4 Lk1 ?_
  refine aw_aload_n C dX1_at_5 Lk0 ?_
  refine aw_gX1_size C hj dX1_at_6 (by decide +kernel) (by decide +kernel) ?_
  refine aw_icmp_ge C dX1_at_9 (tgt := 30) (by decide) (fun c_9 => absurd c_9 (nI_ge (by omega) (by omega))) (fun c_9 => ?_)
  refine aw_iload_n C dX1_at_12 Lk1 ?_
  refine aw_aload_n C dX1_at_13 Lk0 ?_
  refine aw_gX1_cells C hj dX1_at_14 (by decide +kernel) (by decide +kernel) ?_
  refine aw_alX1 C hj dX1_at_17 ?_
  refine aw_icmp_ge C dX1_at_18 (tgt := 30) (by decide) (fun c_18 => absurd c_18 (nI_ge (by omega) (by omega))) (fun c_18 => ?_)
  refine aw_aload_n C dX1_at_21 Lk0 ?_
  refine aw_gX1_cells C hj dX1_at_22 (by decide +kernel) (by decide +kernel) ?_
  refine aw_iload_n C dX1_at_25 Lk1 ?_
  refine aw_ilX1n C hj dX1_at_26 (by omega) ?_
  refine aw_goto C dX1_at_27 (tgt := 31) (by decide) ?_
  exact aw_iend C dX1_at_31 rfl rfl
set_option maxHeartbeats 4000000 in
set_option maxRecDepth 100000 in
theorem c_X1_has {σ : CS} {j : Nat} (hj : j < 22) {i : Nat} (hs : σ.1 j ≤ 10) (hi : i < σ.1 j) : aM l D (cTys cI cZ cR cJ) 49 a yX1_has wsX1_has rmX1_has [.ref (ra a j), .int (nI i)] (cv cI cR a (σ)) (some (.int (nI 1))) (cv cI cR a (σ)) := by
  refine aM_of sX1_has (lv0 := [some (.ref (ra a j)), some (.int (nI i))]) (j := 0) rfl rfl ?_
  intro pM eM sM mM argsM belowM methM cM AM C
  refine aw_iload_n C dX1_has_0 Lk1 ?_
  refine aw_if_lt C dX1_has_1 (tgt := 25) (by decide) (fun c_1 => absurd c_1 (nI_pos (by omega))) (fun c_1 => ?_)
  refine aw_iload_n C dX1_has_4 Lk1 ?_
  refine aw_aload_n C dX1_has_5 Lk0 ?_
  refine aw_gX1_size C hj dX1_has_6 (by decide +kernel) (by decide +kernel) ?_
  refine aw_icmp_ge C dX1_has_9 (tgt := 25) (by decide) (fun c_9 => absurd c_9 (nI_ge (by omega) (by omega))) (fun c_9 => ?_)
  refine aw_iload_n C dX1_has_12 Lk1 ?_
  refine aw_aload_n C dX1_has_13 Lk0 ?_
  refine aw_gX1_cells C hj dX1_has_14 (by decide +kernel) (by decide +kernel) ?_
  refine aw_alX1 C hj dX1_has_17 ?_
  refine aw_icmp_ge C dX1_has_18 (tgt := 25) (by decide) (fun c_18 => absurd c_18 (nI_ge (by omega) (by omega))) (fun c_18 => ?_)
  refine aw_iconst C dX1_has_21 (x := nI 1) (by decide) ?_
  refine aw_goto C dX1_has_22 (tgt := 26) (by decide) ?_
  exact aw_zend C dX1_has_26 rfl rfl rfl
set_option maxHeartbeats 4000000 in
set_option maxRecDepth 100000 in
theorem c_X1_has_neg {σ : CS} {j : Nat} (hj : j < 22) : aM l D (cTys cI cZ cR cJ) 49 a yX1_has wsX1_has rmX1_has [.ref (ra a j), .int (-1)] (cv cI cR a (σ)) (some (.int (nI 0))) (cv cI cR a (σ)) := by
  refine aM_of sX1_has (lv0 := [some (.ref (ra a j)), some (.int (-1))]) (j := 0) rfl rfl ?_
  intro pM eM sM mM argsM belowM methM cM AM C
  refine aw_iload_n C dX1_has_0 Lk1 ?_
  refine aw_if_lt C dX1_has_1 (tgt := 25) (by decide) (fun c_1 => ?_) (fun c_1 => absurd (by decide) c_1)
  refine aw_iconst C dX1_has_25 (x := nI 0) (by decide) ?_
  exact aw_zend C dX1_has_26 rfl rfl rfl
set_option maxHeartbeats 4000000 in
set_option maxRecDepth 100000 in
theorem c_X1_put {σ : CS} {j : Nat} (hj : j < 22) {i : Nat} {y : Int32} (hs : σ.1 j ≤ 10) (hi : i < σ.1 j) : aM l D (cTys cI cZ cR cJ) 49 a yX1_put wsX1_put rmX1_put [.ref (ra a j), .int (nI i), .int y] (cv cI cR a (σ)) (none) (cv cI cR a (cs2 σ j i y)) := by
  refine aM_of sX1_put (lv0 := [some (.ref (ra a j)), some (.int (nI i)), some (.int y)]) (j := 0) rfl rfl ?_
  intro pM eM sM mM argsM belowM methM cM AM C
  refine aw_aload_n C dX1_put_0 Lk0 ?_
  refine aw_iload_n C dX1_put_1 Lk1 ?_
  refine aw_cV1 C dX1_put_2 gX1_put_X1_has sX1_has (rm := rmX1_has) rfl (recRow hj) (c_X1_has hj hs hi) ?_
  refine aw_if_eq C dX1_put_5 (tgt := 15) (by decide) (fun c_5 => absurd c_5 (by decide)) (fun c_5 => ?_)
  refine aw_aload_n C dX1_put_8 Lk0 ?_
  refine aw_gX1_cells C hj dX1_put_9 (by decide +kernel) (by decide +kernel) ?_
  refine aw_iload_n C dX1_put_12 Lk1 ?_
  refine aw_iload_n C dX1_put_13 Lk2 ?_
  refine aw_isX1n C hj dX1_put_14 (by omega) ?_
  exact aw_vend C dX1_put_15 rfl rfl
set_option maxHeartbeats 4000000 in
set_option maxRecDepth 100000 in
theorem c_X1_placeOf {σ : CS} {j : Nat} (hj : j < 22) {x : Int32} (hs : σ.1 j ≤ 10) : aM l D (cTys cI cZ cR cJ) 49 a yX1_placeOf wsX1_placeOf rmX1_placeOf [.ref (ra a j), .int x] (cv cI cR a (σ)) (some (.int (rFind (σ.2.1 j) x (σ.1 j) 0))) (cv cI cR a (σ)) := by
  refine aM_of sX1_placeOf (lv0 := [some (.ref (ra a j)), some (.int x), none]) (j := 1) rfl rfl ?_
  intro pM eM sM mM argsM belowM methM cM AM C
  refine aw_iconst C dX1_placeOf_0 (x := nI 0) (by decide) ?_
  refine aw_istore_n C dX1_placeOf_1 St2 rfl ?_
  have hl_2 : ∀ (k i : Nat) (hk : i + k = σ.1 j) (he : rFind (σ.2.1 j) x (σ.1 j) 0 = rFind (σ.2.1 j) x k i), aW pM l eM rmX1_placeOf sM mM argsM belowM methM cM (MQ belowM (aQ D 49 a (cv cI cR a (σ)) (some (.int (rFind (σ.2.1 j) x (σ.1 j) 0))) AM) argsM sM 0 0 AM) D AM 0 0 49 a (cv cI cR a (σ)) 2 [some (.ref (ra a j)), some (.int x), some (.int (nI i))] [] := by
    intro k
    induction k with
    | zero =>
      intro i hk he
      refine aw_iload_n C dX1_placeOf_2 Lk2 ?_
      refine aw_aload_n C dX1_placeOf_3 Lk0 ?_
      refine aw_gX1_size C hj dX1_placeOf_4 (by decide +kernel) (by decide +kernel) ?_
      refine aw_icmp_ge C dX1_placeOf_7 (tgt := 37) (by decide) (fun c_7 => ?_) (fun c_7 => absurd (nI_le (by omega) (by omega)) c_7)
      refine aw_iconst C dX1_placeOf_37 (x := -1) (by decide) ?_
      exact aw_iend C dX1_placeOf_38 rfl (by rw [he]; rfl)
    | succ k ih =>
      intro i hk he
      refine aw_iload_n C dX1_placeOf_2 Lk2 ?_
      refine aw_aload_n C dX1_placeOf_3 Lk0 ?_
      refine aw_gX1_size C hj dX1_placeOf_4 (by decide +kernel) (by decide +kernel) ?_
      refine aw_icmp_ge C dX1_placeOf_7 (tgt := 37) (by decide) (fun c_7 => absurd c_7 (nI_ge (by omega) (by omega))) (fun c_7 => ?_)
      refine aw_iload_n C dX1_placeOf_10 Lk2 ?_
      refine aw_aload_n C dX1_placeOf_11 Lk0 ?_
      refine aw_gX1_cells C hj dX1_placeOf_12 (by decide +kernel) (by decide +kernel) ?_
      refine aw_alX1 C hj dX1_placeOf_15 ?_
      refine aw_icmp_ge C dX1_placeOf_16 (tgt := 37) (by decide) (fun c_16 => absurd c_16 (nI_ge (by omega) (by omega))) (fun c_16 => ?_)
      refine aw_aload_n C dX1_placeOf_19 Lk0 ?_
      refine aw_gX1_cells C hj dX1_placeOf_20 (by decide +kernel) (by decide +kernel) ?_
      refine aw_iload_n C dX1_placeOf_23 Lk2 ?_
      refine aw_ilX1n C hj dX1_placeOf_24 (by omega) ?_
      refine aw_iload_n C dX1_placeOf_25 Lk1 ?_
      refine aw_icmp_ne C dX1_placeOf_26 (tgt := 31) (by decide) (fun c_26 => ?_) (fun c_26 => ?_)
      · skip
        refine aw_iinc C dX1_placeOf_31 Lk2 (nI_1 _) St2 rfl ?_
        refine aw_goto C dX1_placeOf_34 (tgt := 2) (by decide) ?_
        exact ih (i + 1) (by omega) (by rw [he, rFind, if_neg c_26])
      · skip
        refine aw_iload_n C dX1_placeOf_29 Lk2 ?_
        exact aw_iend C dX1_placeOf_30 rfl (by rw [he, rFind, if_pos (Classical.not_not.mp c_26)])
  exact hl_2 (σ.1 j) 0 (by omega) rfl
set_option maxHeartbeats 4000000 in
set_option maxRecDepth 100000 in
theorem c_X1_insert {σ : CS} {j : Nat} (hj : j < 22) {i : Nat} {y : Int32} (hs : σ.1 j < 10) (hi : i ≤ σ.1 j) : aM l D (cTys cI cZ cR cJ) 49 a yX1_insert wsX1_insert rmX1_insert [.ref (ra a j), .int (nI i), .int y] (cv cI cR a (σ)) (none) (cv cI cR a (csR σ j (σ.1 j + 1) (upd (shF (σ.2.1 j) i (σ.1 j)) i y))) := by
  refine aM_of sX1_insert (lv0 := [some (.ref (ra a j)), some (.int (nI i)), some (.int y), none]) (j := 1) rfl rfl ?_
  intro pM eM sM mM argsM belowM methM cM AM C
  refine aw_iload_n C dX1_insert_0 Lk1 ?_
  refine aw_if_lt C dX1_insert_1 (tgt := 24) (by decide) (fun c_1 => absurd c_1 (nI_pos (by omega))) (fun c_1 => ?_)
  refine aw_iload_n C dX1_insert_4 Lk1 ?_
  refine aw_aload_n C dX1_insert_5 Lk0 ?_
  refine aw_gX1_size C hj dX1_insert_6 (by decide +kernel) (by decide +kernel) ?_
  refine aw_icmp_gt C dX1_insert_9 (tgt := 24) (by decide) (fun c_9 => absurd c_9 (nI_nlt hi (by omega))) (fun c_9 => ?_)
  refine aw_aload_n C dX1_insert_12 Lk0 ?_
  refine aw_gX1_size C hj dX1_insert_13 (by decide +kernel) (by decide +kernel) ?_
  refine aw_aload_n C dX1_insert_16 Lk0 ?_
  refine aw_gX1_cells C hj dX1_insert_17 (by decide +kernel) (by decide +kernel) ?_
  refine aw_alX1 C hj dX1_insert_20 ?_
  refine aw_icmp_lt C dX1_insert_21 (tgt := 25) (by decide) (fun c_21 => ?_) (fun c_21 => absurd (nI_lt hs (by omega)) c_21)
  refine aw_aload_n C dX1_insert_25 Lk0 ?_
  refine aw_dup C dX1_insert_26 rfl ?_
  refine aw_gX1_size C hj dX1_insert_27 (by decide +kernel) (by decide +kernel) ?_
  refine aw_iconst C dX1_insert_30 (x := nI 1) (by decide) ?_
  refine aw_iadd C dX1_insert_31 ?_
  rw [nI_add]
  refine aw_pX1_size C hj dX1_insert_32 (by decide +kernel) (by decide +kernel) ?_
  rw [csR_s1]
  refine aw_aload_n C dX1_insert_35 Lk0 ?_
  refine aw_gX1_size C hj dX1_insert_36 (by decide +kernel) (by decide +kernel) ?_
  rw [csR_1]
  refine aw_iconst C dX1_insert_39 (x := nI 1) (by decide) ?_
  refine aw_isub C dX1_insert_40 ?_
  rw [pk_sub (by omega), Nat.add_sub_cancel]
  refine aw_istore_n C dX1_insert_41 St3 rfl ?_
  have hl_42 : ∀ (k : Nat) (hk : i + k ≤ σ.1 j), aW pM l eM rmX1_insert sM mM argsM belowM methM cM (MQ belowM (aQ D 49 a (cv cI cR a (csR σ j (σ.1 j + 1) (upd (shF (σ.2.1 j) i (σ.1 j)) i y))) (none) AM) argsM sM 0 0 AM) D AM 0 0 49 a (cv cI cR a (csR σ j (σ.1 j + 1) (shF (σ.2.1 j) (i + k) (σ.1 j)))) 42 [some (.ref (ra a j)), some (.int (nI i)), some (.int y), some (.int (nI (i + k)))] [] := by
    intro k
    induction k with
    | zero =>
      intro hk
      refine aw_iload_n C dX1_insert_42 Lk3 ?_
      refine aw_iload_n C dX1_insert_43 Lk1 ?_
      refine aw_icmp_le C dX1_insert_44 (tgt := 65) (by decide) (fun c_44 => ?_) (fun c_44 => absurd (nI_le (by omega) (by omega)) c_44)
      refine aw_aload_n C dX1_insert_65 Lk0 ?_
      refine aw_iload_n C dX1_insert_66 Lk1 ?_
      refine aw_iload_n C dX1_insert_67 Lk2 ?_
      refine aw_cV2v C dX1_insert_68 gX1_insert_X1_put sX1_put (rm := rmX1_put) rfl (recRow hj) (c_X1_put hj (by rw [csR_1]; omega) (by rw [csR_1]; omega)) ?_
      rw [csR_R2]
      exact aw_vend C dX1_insert_71 rfl rfl
    | succ k ih =>
      intro hk
      rw [show i + (k + 1) = i + k + 1 from rfl]
      refine aw_iload_n C dX1_insert_42 Lk3 ?_
      refine aw_iload_n C dX1_insert_43 Lk1 ?_
      refine aw_icmp_le C dX1_insert_44 (tgt := 65) (by decide) (fun c_44 => absurd c_44 (nI_ge (by omega) (by omega))) (fun c_44 => ?_)
      refine aw_aload_n C dX1_insert_47 Lk0 ?_
      refine aw_iload_n C dX1_insert_48 Lk3 ?_
      refine aw_aload_n C dX1_insert_49 Lk0 ?_
      refine aw_iload_n C dX1_insert_50 Lk3 ?_
      refine aw_iconst C dX1_insert_51 (x := nI 1) (by decide) ?_
      refine aw_isub C dX1_insert_52 ?_
      rw [pk_sub (by omega), Nat.add_sub_cancel]
      refine aw_cV1 C dX1_insert_53 gX1_insert_X1_at sX1_at (rm := rmX1_at) rfl (recRow hj) (c_X1_at hj (by rw [csR_1]; omega) (by rw [csR_1]; omega)) ?_
      rw [csR_2, shF_at]
      refine aw_cV2v C dX1_insert_56 gX1_insert_X1_put sX1_put (rm := rmX1_put) rfl (recRow hj) (c_X1_put hj (by rw [csR_1]; omega) (by rw [csR_1]; omega)) ?_
      rw [csR_R2, shF_step (by omega)]
      refine aw_iinc C dX1_insert_59 Lk3 (pk_m1 _) St3 rfl ?_
      refine aw_goto C dX1_insert_62 (tgt := 42) (by decide) ?_
      exact ih (by omega)
  have hq := hl_42 (σ.1 j - i) (by omega)
  rw [show i + (σ.1 j - i) = σ.1 j by omega, shF_0] at hq
  exact hq
set_option maxHeartbeats 4000000 in
set_option maxRecDepth 100000 in
theorem c_X1_take {σ : CS} {j : Nat} (hj : j < 22) {i : Nat} (hs : σ.1 j ≤ 10) (hi : i < σ.1 j) : aM l D (cTys cI cZ cR cJ) 49 a yX1_take wsX1_take rmX1_take [.ref (ra a j), .int (nI i)] (cv cI cR a (σ)) (some (.int (σ.2.1 j i))) (cv cI cR a (csR σ j (σ.1 j - 1) (skF (σ.2.1 j) i (σ.1 j - 1)))) := by
  refine aM_of sX1_take (lv0 := [some (.ref (ra a j)), some (.int (nI i)), none, none]) (j := 2) rfl rfl ?_
  intro pM eM sM mM argsM belowM methM cM AM C
  refine aw_aload_n C dX1_take_0 Lk0 ?_
  refine aw_iload_n C dX1_take_1 Lk1 ?_
  refine aw_cV1 C dX1_take_2 gX1_take_X1_has sX1_has (rm := rmX1_has) rfl (recRow hj) (c_X1_has hj hs hi) ?_
  refine aw_if_ne C dX1_take_5 (tgt := 10) (by decide) (fun c_5 => ?_) (fun c_5 => absurd (by decide) c_5)
  refine aw_aload_n C dX1_take_10 Lk0 ?_
  refine aw_iload_n C dX1_take_11 Lk1 ?_
  refine aw_cV1 C dX1_take_12 gX1_take_X1_at sX1_at (rm := rmX1_at) rfl (recRow hj) (c_X1_at hj hs hi) ?_
  refine aw_istore_n C dX1_take_15 St2 rfl ?_
  refine aw_iload_n C dX1_take_16 Lk1 ?_
  refine aw_istore_n C dX1_take_17 St3 rfl ?_
  have hl_18 : ∀ (k q : Nat) (hk : q + k = σ.1 j - 1) (hq : i ≤ q), aW pM l eM rmX1_take sM mM argsM belowM methM cM (MQ belowM (aQ D 49 a (cv cI cR a (csR σ j (σ.1 j - 1) (skF (σ.2.1 j) i (σ.1 j - 1)))) (some (.int (σ.2.1 j i))) AM) argsM sM 0 0 AM) D AM 0 0 49 a (cv cI cR a (csR σ j (σ.1 j) (skF (σ.2.1 j) i q))) 18 [some (.ref (ra a j)), some (.int (nI i)), some (.int (σ.2.1 j i)), some (.int (nI q))] [] := by
    intro k
    induction k with
    | zero =>
      intro q hk hq
      refine aw_iload_n C dX1_take_18 Lk3 ?_
      refine aw_aload_n C dX1_take_19 Lk0 ?_
      refine aw_gX1_size C hj dX1_take_20 (by decide +kernel) (by decide +kernel) ?_
      rw [csR_1]
      refine aw_iconst C dX1_take_23 (x := nI 1) (by decide) ?_
      refine aw_isub C dX1_take_24 ?_
      rw [pk_sub (by omega)]
      refine aw_icmp_ge C dX1_take_25 (tgt := 46) (by decide) (fun c_25 => ?_) (fun c_25 => absurd (nI_le (by omega) (by omega)) c_25)
      refine aw_aload_n C dX1_take_46 Lk0 ?_
      refine aw_dup C dX1_take_47 rfl ?_
      refine aw_gX1_size C hj dX1_take_48 (by decide +kernel) (by decide +kernel) ?_
      rw [csR_1]
      refine aw_iconst C dX1_take_51 (x := nI 1) (by decide) ?_
      refine aw_isub C dX1_take_52 ?_
      rw [pk_sub (by omega)]
      refine aw_pX1_size C hj dX1_take_53 (by decide +kernel) (by decide +kernel) ?_
      rw [csR_R1]
      refine aw_iload_n C dX1_take_56 Lk2 ?_
      exact aw_iend C dX1_take_57 (by rw [show σ.1 j - 1 = q by omega]) rfl
    | succ k ih =>
      intro q hk hq
      refine aw_iload_n C dX1_take_18 Lk3 ?_
      refine aw_aload_n C dX1_take_19 Lk0 ?_
      refine aw_gX1_size C hj dX1_take_20 (by decide +kernel) (by decide +kernel) ?_
      rw [csR_1]
      refine aw_iconst C dX1_take_23 (x := nI 1) (by decide) ?_
      refine aw_isub C dX1_take_24 ?_
      rw [pk_sub (by omega)]
      refine aw_icmp_ge C dX1_take_25 (tgt := 46) (by decide) (fun c_25 => absurd c_25 (nI_ge (by omega) (by omega))) (fun c_25 => ?_)
      refine aw_aload_n C dX1_take_28 Lk0 ?_
      refine aw_iload_n C dX1_take_29 Lk3 ?_
      refine aw_aload_n C dX1_take_30 Lk0 ?_
      refine aw_iload_n C dX1_take_31 Lk3 ?_
      refine aw_iconst C dX1_take_32 (x := nI 1) (by decide) ?_
      refine aw_iadd C dX1_take_33 ?_
      rw [nI_add]
      refine aw_cV1 C dX1_take_34 gX1_take_X1_at sX1_at (rm := rmX1_at) rfl (recRow hj) (c_X1_at hj (by rw [csR_1]; omega) (by rw [csR_1]; omega)) ?_
      rw [csR_2, skF_at]
      refine aw_cV2v C dX1_take_37 gX1_take_X1_put sX1_put (rm := rmX1_put) rfl (recRow hj) (c_X1_put hj (by rw [csR_1]; omega) (by rw [csR_1]; omega)) ?_
      rw [csR_R2, skF_step (by omega)]
      refine aw_iinc C dX1_take_40 Lk3 (nI_1 _) St3 rfl ?_
      refine aw_goto C dX1_take_43 (tgt := 18) (by decide) ?_
      exact ih (q + 1) (by omega) (by omega)
  have hq := hl_18 (σ.1 j - 1 - i) i (by omega) (by omega)
  rw [skF_0, csR_self] at hq
  exact hq
set_option maxHeartbeats 4000000 in
set_option maxRecDepth 100000 in
theorem c_X1_cutFrom {σ : CS} {j : Nat} (hj : j < 22) {i : Nat} (hs : σ.1 j ≤ 10) (hi : i < σ.1 j) : aM l D (cTys cI cZ cR cJ) 49 a yX1_cutFrom wsX1_cutFrom rmX1_cutFrom [.ref (ra a j), .int (nI i)] (cv cI cR a (σ)) (none) (cv cI cR a (csR σ j i (σ.2.1 j))) := by
  refine aM_of sX1_cutFrom (lv0 := [some (.ref (ra a j)), some (.int (nI i))]) (j := 0) rfl rfl ?_
  intro pM eM sM mM argsM belowM methM cM AM C
  refine aw_aload_n C dX1_cutFrom_0 Lk0 ?_
  refine aw_iload_n C dX1_cutFrom_1 Lk1 ?_
  refine aw_cV1 C dX1_cutFrom_2 gX1_cutFrom_X1_has sX1_has (rm := rmX1_has) rfl (recRow hj) (c_X1_has hj hs hi) ?_
  refine aw_if_eq C dX1_cutFrom_5 (tgt := 13) (by decide) (fun c_5 => absurd c_5 (by decide)) (fun c_5 => ?_)
  refine aw_aload_n C dX1_cutFrom_8 Lk0 ?_
  refine aw_iload_n C dX1_cutFrom_9 Lk1 ?_
  refine aw_pX1_size C hj dX1_cutFrom_10 (by decide +kernel) (by decide +kernel) ?_
  rw [csR_s1]
  exact aw_vend C dX1_cutFrom_13 rfl rfl
set_option maxHeartbeats 4000000 in
set_option maxRecDepth 100000 in
theorem c_X1_cutFrom_neg {σ : CS} {j : Nat} (hj : j < 22) : aM l D (cTys cI cZ cR cJ) 49 a yX1_cutFrom wsX1_cutFrom rmX1_cutFrom [.ref (ra a j), .int (-1)] (cv cI cR a (σ)) (none) (cv cI cR a (σ)) := by
  refine aM_of sX1_cutFrom (lv0 := [some (.ref (ra a j)), some (.int (-1))]) (j := 0) rfl rfl ?_
  intro pM eM sM mM argsM belowM methM cM AM C
  refine aw_aload_n C dX1_cutFrom_0 Lk0 ?_
  refine aw_iload_n C dX1_cutFrom_1 Lk1 ?_
  refine aw_cV1 C dX1_cutFrom_2 gX1_cutFrom_X1_has sX1_has (rm := rmX1_has) rfl (recRow hj) (c_X1_has_neg hj) ?_
  refine aw_if_eq C dX1_cutFrom_5 (tgt := 13) (by decide) (fun c_5 => ?_) (fun c_5 => absurd (by decide) c_5)
  exact aw_vend C dX1_cutFrom_13 rfl rfl
set_option maxHeartbeats 4000000 in
set_option maxRecDepth 100000 in
theorem c_X1_refill {σ : CS} {j : Nat} (hj : j < 22) {n : Nat} {y : Int32} (hn : n ≤ 10) : aM l D (cTys cI cZ cR cJ) 49 a yX1_refill wsX1_refill rmX1_refill [.ref (ra a j), .int (nI n), .int y] (cv cI cR a (σ)) (none) (cv cI cR a (csR σ j n (flF (σ.2.1 j) y n))) := by
  refine aM_of sX1_refill (lv0 := [some (.ref (ra a j)), some (.int (nI n)), some (.int y), none]) (j := 1) rfl rfl ?_
  intro pM eM sM mM argsM belowM methM cM AM C
  refine aw_aload_n C dX1_refill_0 Lk0 ?_
  refine aw_iload_n C dX1_refill_1 Lk1 ?_
  refine aw_if_ge C dX1_refill_2 (tgt := 9) (by decide) (fun c_2 => ?_) (fun c_2 => absurd (nI_pos' (by omega)) c_2)
  refine aw_iload_n C dX1_refill_9 Lk1 ?_
  refine aw_aload_n C dX1_refill_10 Lk0 ?_
  refine aw_gX1_cells C hj dX1_refill_11 (by decide +kernel) (by decide +kernel) ?_
  refine aw_alX1 C hj dX1_refill_14 ?_
  refine aw_icmp_le C dX1_refill_15 (tgt := 26) (by decide) (fun c_15 => ?_) (fun c_15 => absurd (nI_le (by omega) (by omega)) c_15)
  refine aw_iload_n C dX1_refill_26 Lk1 ?_
  refine aw_pX1_size C hj dX1_refill_27 (by decide +kernel) (by decide +kernel) ?_
  rw [csR_s1]
  refine aw_iconst C dX1_refill_30 (x := nI 0) (by decide) ?_
  refine aw_istore_n C dX1_refill_31 St3 rfl ?_
  have hl_32 : ∀ (k i : Nat) (hk : i + k = n), aW pM l eM rmX1_refill sM mM argsM belowM methM cM (MQ belowM (aQ D 49 a (cv cI cR a (csR σ j n (flF (σ.2.1 j) y n))) (none) AM) argsM sM 0 0 AM) D AM 0 0 49 a (cv cI cR a (csR σ j n (flF (σ.2.1 j) y i))) 32 [some (.ref (ra a j)), some (.int (nI n)), some (.int y), some (.int (nI i))] [] := by
    intro k
    induction k with
    | zero =>
      intro i hk
      refine aw_iload_n C dX1_refill_32 Lk3 ?_
      refine aw_aload_n C dX1_refill_33 Lk0 ?_
      refine aw_gX1_size C hj dX1_refill_34 (by decide +kernel) (by decide +kernel) ?_
      rw [csR_1]
      refine aw_icmp_ge C dX1_refill_37 (tgt := 52) (by decide) (fun c_37 => ?_) (fun c_37 => absurd (nI_le (by omega) (by omega)) c_37)
      exact aw_vend C dX1_refill_52 (by rw [show i = n by omega]) rfl
    | succ k ih =>
      intro i hk
      refine aw_iload_n C dX1_refill_32 Lk3 ?_
      refine aw_aload_n C dX1_refill_33 Lk0 ?_
      refine aw_gX1_size C hj dX1_refill_34 (by decide +kernel) (by decide +kernel) ?_
      rw [csR_1]
      refine aw_icmp_ge C dX1_refill_37 (tgt := 52) (by decide) (fun c_37 => absurd c_37 (nI_ge (by omega) (by omega))) (fun c_37 => ?_)
      refine aw_aload_n C dX1_refill_40 Lk0 ?_
      refine aw_iload_n C dX1_refill_41 Lk3 ?_
      refine aw_iload_n C dX1_refill_42 Lk2 ?_
      refine aw_cV2v C dX1_refill_43 gX1_refill_X1_put sX1_put (rm := rmX1_put) rfl (recRow hj) (c_X1_put hj (by rw [csR_1]; omega) (by rw [csR_1]; omega)) ?_
      rw [csR_R2, flF_step]
      refine aw_iinc C dX1_refill_46 Lk3 (nI_1 _) St3 rfl ?_
      refine aw_goto C dX1_refill_49 (tgt := 32) (by decide) ?_
      exact ih (i + 1) (by omega)
  have hq := hl_32 n 0 (by omega)
  rw [flF_0] at hq
  exact hq
set_option maxHeartbeats 4000000 in
set_option maxRecDepth 100000 in
theorem c_X1_sum {σ : CS} {j : Nat} (hj : j < 22) (hs : σ.1 j ≤ 10) : aM l D (cTys cI cZ cR cJ) 49 a yX1_sum wsX1_sum rmX1_sum [.ref (ra a j)] (cv cI cR a (σ)) (some (.int (rSum (σ.2.1 j) (σ.1 j)))) (cv cI cR a (σ)) := by
  refine aM_of sX1_sum (lv0 := [some (.ref (ra a j)), none, none]) (j := 2) rfl rfl ?_
  intro pM eM sM mM argsM belowM methM cM AM C
  refine aw_iconst C dX1_sum_0 (x := nI 0) (by decide) ?_
  refine aw_istore_n C dX1_sum_1 St1 rfl ?_
  refine aw_iconst C dX1_sum_2 (x := nI 0) (by decide) ?_
  refine aw_istore_n C dX1_sum_3 St2 rfl ?_
  have hl_4 : ∀ (k i : Nat) (hk : i + k = σ.1 j), aW pM l eM rmX1_sum sM mM argsM belowM methM cM (MQ belowM (aQ D 49 a (cv cI cR a (σ)) (some (.int (rSum (σ.2.1 j) (σ.1 j)))) AM) argsM sM 0 0 AM) D AM 0 0 49 a (cv cI cR a (σ)) 4 [some (.ref (ra a j)), some (.int (rSum (σ.2.1 j) i)), some (.int (nI i))] [] := by
    intro k
    induction k with
    | zero =>
      intro i hk
      refine aw_iload_n C dX1_sum_4 Lk2 ?_
      refine aw_aload_n C dX1_sum_5 Lk0 ?_
      refine aw_gX1_size C hj dX1_sum_6 (by decide +kernel) (by decide +kernel) ?_
      refine aw_icmp_ge C dX1_sum_9 (tgt := 26) (by decide) (fun c_9 => ?_) (fun c_9 => absurd (nI_le (by omega) (by omega)) c_9)
      refine aw_iload_n C dX1_sum_26 Lk1 ?_
      exact aw_iend C dX1_sum_27 rfl (by rw [show i = σ.1 j by omega])
    | succ k ih =>
      intro i hk
      refine aw_iload_n C dX1_sum_4 Lk2 ?_
      refine aw_aload_n C dX1_sum_5 Lk0 ?_
      refine aw_gX1_size C hj dX1_sum_6 (by decide +kernel) (by decide +kernel) ?_
      refine aw_icmp_ge C dX1_sum_9 (tgt := 26) (by decide) (fun c_9 => absurd c_9 (nI_ge (by omega) (by omega))) (fun c_9 => ?_)
      refine aw_iload_n C dX1_sum_12 Lk1 ?_
      refine aw_aload_n C dX1_sum_13 Lk0 ?_
      refine aw_iload_n C dX1_sum_14 Lk2 ?_
      refine aw_cV1 C dX1_sum_15 gX1_sum_X1_at sX1_at (rm := rmX1_at) rfl (recRow hj) (c_X1_at hj hs (by omega)) ?_
      refine aw_iadd C dX1_sum_18 ?_
      refine aw_istore_n C dX1_sum_19 St1 rfl ?_
      refine aw_iinc C dX1_sum_20 Lk2 (nI_1 _) St2 rfl ?_
      refine aw_goto C dX1_sum_23 (tgt := 4) (by decide) ?_
      exact ih (i + 1) (by omega)
  exact hl_4 (σ.1 j) 0 (by omega)
set_option maxHeartbeats 4000000 in
set_option maxRecDepth 100000 in
theorem c_X1_greatest {σ : CS} {j : Nat} (hj : j < 22) (hs : σ.1 j ≤ 10) : aM l D (cTys cI cZ cR cJ) 49 a yX1_greatest wsX1_greatest rmX1_greatest [.ref (ra a j)] (cv cI cR a (σ)) (some (.int (rMax (σ.2.1 j) (σ.1 j)))) (cv cI cR a (σ)) := by
  refine aM_of sX1_greatest (lv0 := [some (.ref (ra a j)), none, none]) (j := 2) rfl rfl ?_
  intro pM eM sM mM argsM belowM methM cM AM C
  refine aw_iconst C dX1_greatest_0 (x := nI 0) (by decide) ?_
  refine aw_istore_n C dX1_greatest_1 St1 rfl ?_
  refine aw_iconst C dX1_greatest_2 (x := nI 0) (by decide) ?_
  refine aw_istore_n C dX1_greatest_3 St2 rfl ?_
  have hl_4 : ∀ (k i : Nat) (hk : i + k = σ.1 j), aW pM l eM rmX1_greatest sM mM argsM belowM methM cM (MQ belowM (aQ D 49 a (cv cI cR a (σ)) (some (.int (rMax (σ.2.1 j) (σ.1 j)))) AM) argsM sM 0 0 AM) D AM 0 0 49 a (cv cI cR a (σ)) 4 [some (.ref (ra a j)), some (.int (rMax (σ.2.1 j) i)), some (.int (nI i))] [] := by
    intro k
    induction k with
    | zero =>
      intro i hk
      refine aw_iload_n C dX1_greatest_4 Lk2 ?_
      refine aw_aload_n C dX1_greatest_5 Lk0 ?_
      refine aw_gX1_size C hj dX1_greatest_6 (by decide +kernel) (by decide +kernel) ?_
      refine aw_icmp_ge C dX1_greatest_9 (tgt := 28) (by decide) (fun c_9 => ?_) (fun c_9 => absurd (nI_le (by omega) (by omega)) c_9)
      refine aw_iload_n C dX1_greatest_28 Lk1 ?_
      exact aw_iend C dX1_greatest_29 rfl (by rw [show i = σ.1 j by omega])
    | succ k ih =>
      intro i hk
      refine aw_iload_n C dX1_greatest_4 Lk2 ?_
      refine aw_aload_n C dX1_greatest_5 Lk0 ?_
      refine aw_gX1_size C hj dX1_greatest_6 (by decide +kernel) (by decide +kernel) ?_
      refine aw_icmp_ge C dX1_greatest_9 (tgt := 28) (by decide) (fun c_9 => absurd c_9 (nI_ge (by omega) (by omega))) (fun c_9 => ?_)
      refine aw_iload_n C dX1_greatest_12 Lk1 ?_
      refine aw_aload_n C dX1_greatest_13 Lk0 ?_
      refine aw_iload_n C dX1_greatest_14 Lk2 ?_
      refine aw_cV1 C dX1_greatest_15 gX1_greatest_X1_at sX1_at (rm := rmX1_at) rfl (recRow hj) (c_X1_at hj hs (by omega)) ?_
      refine aw_mmax C dX1_greatest_18 rfl (by decide +kernel) (by decide +kernel) (by decide +kernel) (by decide +kernel) (Nat.le_of_ble_eq_true rfl) (Nat.le_of_ble_eq_true rfl) ⟨Nat.le_refl _, Nat.le_refl _⟩ ?_
      refine aw_istore_n C dX1_greatest_21 St1 rfl ?_
      refine aw_iinc C dX1_greatest_22 Lk2 (nI_1 _) St2 rfl ?_
      refine aw_goto C dX1_greatest_25 (tgt := 4) (by decide) ?_
      exact ih (i + 1) (by omega)
  exact hl_4 (σ.1 j) 0 (by omega)
end ROW
