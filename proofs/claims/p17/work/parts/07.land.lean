/-! HutRings$Land, and the reads of HutRings$Trade -/
theorem kR_lt {k : Nat} (h : k < 10) : kR k < 22 := by simp only [kR]; omega
theorem gR_lt {t : Nat} (h : t < 2) : gR t < 22 := by simp only [gR]; omega
theorem dR_lt {t : Nat} (h : t < 2) : dR t < 22 := by simp only [dR]; omega
theorem zR_lt {t : Nat} (h : t < 2) : zR t < 22 := by simp only [zR]; omega
theorem mR_lt {t : Nat} (h : t < 2) : mR t < 22 := by simp only [mR]; omega
theorem fR_lt {t : Nat} (h : t < 2) : fR t < 22 := by simp only [fR]; omega
def rRank (σ : CS) (k : Nat) (x : Int32) : Int32 := if x = σ.2.1 0 k then nI (σ.1 (kR k)) else rFind (σ.2.1 (kR k)) x (σ.1 (kR k)) 0
def thB (d x : Int32) : Bool := decide (d = 0 ∨ x ≤ d)
def bI (b : Bool) : Int32 := if b then nI 1 else nI 0
theorem bI_nar (b : Bool) : narrow .boolean (.int (bI b)) = .int (bI b) := by cases b <;> rfl
section LAND
variable {l : Launch} {D : va_G} {cI cZ cR cJ : ClassId} {a : Nat → Nat}
set_option maxHeartbeats 4000000 in
set_option maxRecDepth 100000 in
theorem c_X0_size {σ : CS} : aM l D (cTys cI cZ cR cJ) 49 a yX0_size wsX0_size rmX0_size [.ref (a 45)] (cv cI cR a (σ)) (some (.int (nI (σ.1 0)))) (cv cI cR a (σ)) := by
  refine aM_of sX0_size (lv0 := [some (.ref (a 45))]) (j := 0) rfl rfl ?_
  intro pM eM sM mM argsM belowM methM cM AM C
  refine aw_aload_n C dX0_size_0 Lk0 ?_
  refine aw_gX0_huts C  dX0_size_1 (by decide +kernel) (by decide +kernel) ?_
  refine aw_cV0 C dX0_size_4 gX0_size_X1_size sX1_size (rm := rmX1_size) rfl (recRow (by decide)) (c_X1_size (by decide)) ?_
  exact aw_iend C dX0_size_7 rfl rfl
set_option maxHeartbeats 4000000 in
set_option maxRecDepth 100000 in
theorem c_X0_settle {σ : CS} (hs : σ.1 0 < 10) : aM l D (cTys cI cZ cR cJ) 49 a yX0_settle wsX0_settle rmX0_settle [.ref (a 45)] (cv cI cR a (σ)) (some (.int (nI (σ.1 0)))) (cv cI cR a (csR σ 0 (σ.1 0 + 1) (upd (σ.2.1 0) (σ.1 0) (nI (σ.1 0))))) := by
  refine aM_of sX0_settle (lv0 := [some (.ref (a 45)), none]) (j := 1) rfl rfl ?_
  intro pM eM sM mM argsM belowM methM cM AM C
  refine aw_aload_n C dX0_settle_0 Lk0 ?_
  refine aw_gX0_huts C  dX0_settle_1 (by decide +kernel) (by decide +kernel) ?_
  refine aw_cV0 C dX0_settle_4 gX0_settle_X1_size sX1_size (rm := rmX1_size) rfl (recRow (by decide)) (c_X1_size (by decide)) ?_
  refine aw_istore_n C dX0_settle_7 St1 rfl ?_
  refine aw_aload_n C dX0_settle_8 Lk0 ?_
  refine aw_gX0_huts C  dX0_settle_9 (by decide +kernel) (by decide +kernel) ?_
  refine aw_iload_n C dX0_settle_12 Lk1 ?_
  refine aw_iload_n C dX0_settle_13 Lk1 ?_
  refine aw_cV2v C dX0_settle_14 gX0_settle_X1_insert sX1_insert (rm := rmX1_insert) rfl (recRow (by decide)) (c_X1_insert (by decide) hs (Nat.le_refl _)) ?_
  rw [shF_0]
  refine aw_iload_n C dX0_settle_17 Lk1 ?_
  exact aw_iend C dX0_settle_18 rfl rfl
set_option maxHeartbeats 4000000 in
set_option maxRecDepth 100000 in
theorem c_X0_hutOf {σ : CS} {k : Nat} (hs : σ.1 0 ≤ 10) (hk : k < σ.1 0) : aM l D (cTys cI cZ cR cJ) 49 a yX0_hutOf wsX0_hutOf rmX0_hutOf [.ref (a 45), .int (nI k)] (cv cI cR a (σ)) (some (.int (σ.2.1 0 k))) (cv cI cR a (σ)) := by
  refine aM_of sX0_hutOf (lv0 := [some (.ref (a 45)), some (.int (nI k))]) (j := 0) rfl rfl ?_
  intro pM eM sM mM argsM belowM methM cM AM C
  refine aw_aload_n C dX0_hutOf_0 Lk0 ?_
  refine aw_gX0_huts C  dX0_hutOf_1 (by decide +kernel) (by decide +kernel) ?_
  refine aw_iload_n C dX0_hutOf_4 Lk1 ?_
  refine aw_cV1 C dX0_hutOf_5 gX0_hutOf_X1_at sX1_at (rm := rmX1_at) rfl (recRow (by decide)) (c_X1_at (by decide) hs hk) ?_
  exact aw_iend C dX0_hutOf_8 rfl rfl
set_option maxHeartbeats 4000000 in
set_option maxRecDepth 100000 in
theorem c_X0_keeperIn {σ : CS} {x : Int32} (hs : σ.1 0 ≤ 10) : aM l D (cTys cI cZ cR cJ) 49 a yX0_keeperIn wsX0_keeperIn rmX0_keeperIn [.ref (a 45), .int x] (cv cI cR a (σ)) (some (.int (rFind (σ.2.1 0) x (σ.1 0) 0))) (cv cI cR a (σ)) := by
  refine aM_of sX0_keeperIn (lv0 := [some (.ref (a 45)), some (.int x)]) (j := 0) rfl rfl ?_
  intro pM eM sM mM argsM belowM methM cM AM C
  refine aw_aload_n C dX0_keeperIn_0 Lk0 ?_
  refine aw_gX0_huts C  dX0_keeperIn_1 (by decide +kernel) (by decide +kernel) ?_
  refine aw_iload_n C dX0_keeperIn_4 Lk1 ?_
  refine aw_cV1 C dX0_keeperIn_5 gX0_keeperIn_X1_placeOf sX1_placeOf (rm := rmX1_placeOf) rfl (recRow (by decide)) (c_X1_placeOf (by decide) hs) ?_
  exact aw_iend C dX0_keeperIn_8 rfl rfl
set_option maxHeartbeats 4000000 in
set_option maxRecDepth 100000 in
theorem c_X0_likesOf {σ : CS} {k : Nat} (hk : k < 10) : aM l D (cTys cI cZ cR cJ) 49 a yX0_likesOf wsX0_likesOf rmX0_likesOf [.ref (a 45), .int (nI k)] (cv cI cR a (σ)) (some (.ref (ra a (kR k)))) (cv cI cR a (σ)) := by
  refine aM_of sX0_likesOf (lv0 := [some (.ref (a 45)), some (.int (nI k)), none]) (j := 1) rfl rfl ?_
  intro pM eM sM mM argsM belowM methM cM AM C
  refine aw_iload_n C dX0_likesOf_0 Lk1 ?_
  refine aw_if_lt C dX0_likesOf_1 (tgt := 22) (by decide) (fun c_1 => absurd c_1 (nI_pos (by omega))) (fun c_1 => ?_)
  refine aw_iload_n C dX0_likesOf_4 Lk1 ?_
  refine aw_aload_n C dX0_likesOf_5 Lk0 ?_
  refine aw_gX0_likes C  dX0_likesOf_6 (by decide +kernel) (by decide +kernel) ?_
  refine aw_alX0 C  dX0_likesOf_9 ?_
  refine aw_icmp_ge C dX0_likesOf_10 (tgt := 22) (by decide) (fun c_10 => absurd c_10 (nI_ge hk (by omega))) (fun c_10 => ?_)
  refine aw_aload_n C dX0_likesOf_13 Lk0 ?_
  refine aw_gX0_likes C  dX0_likesOf_14 (by decide +kernel) (by decide +kernel) ?_
  refine aw_iload_n C dX0_likesOf_17 Lk1 ?_
  refine aw_aaX0 C hk dX0_likesOf_18 ?_
  refine aw_goto C dX0_likesOf_19 (tgt := 23) (by decide) ?_
  refine aw_astore_n C dX0_likesOf_23 St2 rfl ?_
  refine aw_aload_n C dX0_likesOf_24 Lk2 ?_
  refine aw_ifnonnull C dX0_likesOf_25 (tgt := 35) (by decide) ?_
  refine aw_aload_n C dX0_likesOf_35 Lk2 ?_
  exact aw_aend C dX0_likesOf_36 rfl rfl
set_option maxHeartbeats 4000000 in
set_option maxRecDepth 100000 in
theorem c_X0_rankOf {σ : CS} {k : Nat} {x : Int32} (hk : k < 10) (hs : σ.1 0 ≤ 10) (hk2 : k < σ.1 0) (hs2 : σ.1 (kR k) ≤ 10) : aM l D (cTys cI cZ cR cJ) 49 a yX0_rankOf wsX0_rankOf rmX0_rankOf [.ref (a 45), .int (nI k), .int x] (cv cI cR a (σ)) (some (.int (rRank σ k x))) (cv cI cR a (σ)) := by
  refine aM_of sX0_rankOf (lv0 := [some (.ref (a 45)), some (.int (nI k)), some (.int x), none]) (j := 1) rfl rfl ?_
  intro pM eM sM mM argsM belowM methM cM AM C
  refine aw_aload_n C dX0_rankOf_0 Lk0 ?_
  refine aw_iload_n C dX0_rankOf_1 Lk1 ?_
  refine aw_cV1 C dX0_rankOf_2 gX0_rankOf_X0_likesOf sX0_likesOf (rm := rmX0_likesOf) rfl recLand (c_X0_likesOf hk) ?_
  refine aw_astore_n C dX0_rankOf_5 St3 rfl ?_
  refine aw_iload_n C dX0_rankOf_6 Lk2 ?_
  refine aw_aload_n C dX0_rankOf_7 Lk0 ?_
  refine aw_iload_n C dX0_rankOf_8 Lk1 ?_
  refine aw_cV1 C dX0_rankOf_9 gX0_rankOf_X0_hutOf sX0_hutOf (rm := rmX0_hutOf) rfl recLand (c_X0_hutOf hs hk2) ?_
  refine aw_icmp_ne C dX0_rankOf_12 (tgt := 22) (by decide) (fun c_12 => ?_) (fun c_12 => ?_)
  · skip
    refine aw_aload_n C dX0_rankOf_22 Lk3 ?_
    refine aw_iload_n C dX0_rankOf_23 Lk2 ?_
    refine aw_cV1 C dX0_rankOf_24 gX0_rankOf_X1_placeOf sX1_placeOf (rm := rmX1_placeOf) rfl (recRow (kR_lt hk)) (c_X1_placeOf (kR_lt hk) hs2) ?_
    exact aw_iend C dX0_rankOf_27 rfl (by rw [rRank, if_neg c_12])
  · skip
    refine aw_aload_n C dX0_rankOf_15 Lk3 ?_
    refine aw_cV0 C dX0_rankOf_16 gX0_rankOf_X1_size sX1_size (rm := rmX1_size) rfl (recRow (kR_lt hk)) (c_X1_size (kR_lt hk)) ?_
    refine aw_goto C dX0_rankOf_19 (tgt := 27) (by decide) ?_
    exact aw_iend C dX0_rankOf_27 rfl (by rw [rRank, if_pos (Classical.not_not.mp c_12)])
set_option maxHeartbeats 4000000 in
set_option maxRecDepth 100000 in
theorem c_X0_moveInto {σ : CS} {k : Nat} {x : Int32} (hk : k < 10) (hs : σ.1 0 ≤ 10) (hk2 : k < σ.1 0) (hs2 : σ.1 (kR k) ≤ 10) {p : Nat} (hp : p < σ.1 (kR k)) (hf : rFind (σ.2.1 (kR k)) x (σ.1 (kR k)) 0 = nI p) : aM l D (cTys cI cZ cR cJ) 49 a yX0_moveInto wsX0_moveInto rmX0_moveInto [.ref (a 45), .int (nI k), .int x] (cv cI cR a (σ)) (none) (cv cI cR a (cs2 (csR σ (kR k) p (σ.2.1 (kR k))) 0 k x)) := by
  refine aM_of sX0_moveInto (lv0 := [some (.ref (a 45)), some (.int (nI k)), some (.int x), none]) (j := 1) rfl rfl ?_
  intro pM eM sM mM argsM belowM methM cM AM C
  refine aw_aload_n C dX0_moveInto_0 Lk0 ?_
  refine aw_iload_n C dX0_moveInto_1 Lk1 ?_
  refine aw_cV1 C dX0_moveInto_2 gX0_moveInto_X0_likesOf sX0_likesOf (rm := rmX0_likesOf) rfl recLand (c_X0_likesOf hk) ?_
  refine aw_astore_n C dX0_moveInto_5 St3 rfl ?_
  refine aw_aload_n C dX0_moveInto_6 Lk3 ?_
  refine aw_aload_n C dX0_moveInto_7 Lk3 ?_
  refine aw_iload_n C dX0_moveInto_8 Lk2 ?_
  refine aw_cV1 C dX0_moveInto_9 gX0_moveInto_X1_placeOf sX1_placeOf (rm := rmX1_placeOf) rfl (recRow (kR_lt hk)) (c_X1_placeOf (kR_lt hk) hs2) ?_
  rw [hf]
  refine aw_cV1v C dX0_moveInto_12 gX0_moveInto_X1_cutFrom sX1_cutFrom (rm := rmX1_cutFrom) rfl (recRow (kR_lt hk)) (c_X1_cutFrom (kR_lt hk) hs2 hp) ?_
  refine aw_aload_n C dX0_moveInto_15 Lk0 ?_
  refine aw_gX0_huts C  dX0_moveInto_16 (by decide +kernel) (by decide +kernel) ?_
  refine aw_iload_n C dX0_moveInto_19 Lk1 ?_
  refine aw_iload_n C dX0_moveInto_20 Lk2 ?_
  refine aw_cV2v C dX0_moveInto_21 gX0_moveInto_X1_put sX1_put (rm := rmX1_put) rfl (recRow (by decide)) (c_X1_put (by decide) (by rw [csR_1n (by simp only [kR]; omega)]; exact hs) (by rw [csR_1n (by simp only [kR]; omega)]; exact hk2)) ?_
  exact aw_vend C dX0_moveInto_24 rfl rfl
set_option maxHeartbeats 4000000 in
set_option maxRecDepth 100000 in
theorem c_X0_moveInto_neg {σ : CS} {k : Nat} {x : Int32} (hk : k < 10) (hs : σ.1 0 ≤ 10) (hk2 : k < σ.1 0) (hs2 : σ.1 (kR k) ≤ 10) (hf : rFind (σ.2.1 (kR k)) x (σ.1 (kR k)) 0 = -1) : aM l D (cTys cI cZ cR cJ) 49 a yX0_moveInto wsX0_moveInto rmX0_moveInto [.ref (a 45), .int (nI k), .int x] (cv cI cR a (σ)) (none) (cv cI cR a (cs2 σ 0 k x)) := by
  refine aM_of sX0_moveInto (lv0 := [some (.ref (a 45)), some (.int (nI k)), some (.int x), none]) (j := 1) rfl rfl ?_
  intro pM eM sM mM argsM belowM methM cM AM C
  refine aw_aload_n C dX0_moveInto_0 Lk0 ?_
  refine aw_iload_n C dX0_moveInto_1 Lk1 ?_
  refine aw_cV1 C dX0_moveInto_2 gX0_moveInto_X0_likesOf sX0_likesOf (rm := rmX0_likesOf) rfl recLand (c_X0_likesOf hk) ?_
  refine aw_astore_n C dX0_moveInto_5 St3 rfl ?_
  refine aw_aload_n C dX0_moveInto_6 Lk3 ?_
  refine aw_aload_n C dX0_moveInto_7 Lk3 ?_
  refine aw_iload_n C dX0_moveInto_8 Lk2 ?_
  refine aw_cV1 C dX0_moveInto_9 gX0_moveInto_X1_placeOf sX1_placeOf (rm := rmX1_placeOf) rfl (recRow (kR_lt hk)) (c_X1_placeOf (kR_lt hk) hs2) ?_
  rw [hf]
  refine aw_cV1v C dX0_moveInto_12 gX0_moveInto_X1_cutFrom sX1_cutFrom (rm := rmX1_cutFrom) rfl (recRow (kR_lt hk)) (c_X1_cutFrom_neg (kR_lt hk)) ?_
  refine aw_aload_n C dX0_moveInto_15 Lk0 ?_
  refine aw_gX0_huts C  dX0_moveInto_16 (by decide +kernel) (by decide +kernel) ?_
  refine aw_iload_n C dX0_moveInto_19 Lk1 ?_
  refine aw_iload_n C dX0_moveInto_20 Lk2 ?_
  refine aw_cV2v C dX0_moveInto_21 gX0_moveInto_X1_put sX1_put (rm := rmX1_put) rfl (recRow (by decide)) (c_X1_put (by decide) hs hk2) ?_
  exact aw_vend C dX0_moveInto_24 rfl rfl
set_option maxHeartbeats 4000000 in
set_option maxRecDepth 100000 in
theorem c_X2_hutFor {σ : CS} {t k : Nat} (ht : t < 2) (hs : σ.1 (gR t) ≤ 10) (hk : k < σ.1 (gR t)) : aM l D (cTys cI cZ cR cJ) 49 a yX2_hutFor wsX2_hutFor rmX2_hutFor [.ref (ta a t), .int (nI k)] (cv cI cR a (σ)) (some (.int (σ.2.1 (gR t) k))) (cv cI cR a (σ)) := by
  refine aM_of sX2_hutFor (lv0 := [some (.ref (ta a t)), some (.int (nI k))]) (j := 0) rfl rfl ?_
  intro pM eM sM mM argsM belowM methM cM AM C
  refine aw_aload_n C dX2_hutFor_0 Lk0 ?_
  refine aw_gX2_gets C ht dX2_hutFor_1 (by decide +kernel) (by decide +kernel) ?_
  refine aw_iload_n C dX2_hutFor_4 Lk1 ?_
  refine aw_cV1 C dX2_hutFor_5 gX2_hutFor_X1_at sX1_at (rm := rmX1_at) rfl (recRow (gR_lt ht)) (c_X1_at (gR_lt ht) hs hk) ?_
  exact aw_iend C dX2_hutFor_8 rfl rfl
set_option maxHeartbeats 4000000 in
set_option maxRecDepth 100000 in
theorem c_X2_roundOf {σ : CS} {t k : Nat} (ht : t < 2) (hs : σ.1 (dR t) ≤ 10) (hk : k < σ.1 (dR t)) : aM l D (cTys cI cZ cR cJ) 49 a yX2_roundOf wsX2_roundOf rmX2_roundOf [.ref (ta a t), .int (nI k)] (cv cI cR a (σ)) (some (.int (σ.2.1 (dR t) k))) (cv cI cR a (σ)) := by
  refine aM_of sX2_roundOf (lv0 := [some (.ref (ta a t)), some (.int (nI k))]) (j := 0) rfl rfl ?_
  intro pM eM sM mM argsM belowM methM cM AM C
  refine aw_aload_n C dX2_roundOf_0 Lk0 ?_
  refine aw_gX2_doneIn C ht dX2_roundOf_1 (by decide +kernel) (by decide +kernel) ?_
  refine aw_iload_n C dX2_roundOf_4 Lk1 ?_
  refine aw_cV1 C dX2_roundOf_5 gX2_roundOf_X1_at sX1_at (rm := rmX1_at) rfl (recRow (dR_lt ht)) (c_X1_at (dR_lt ht) hs hk) ?_
  exact aw_iend C dX2_roundOf_8 rfl rfl
set_option maxHeartbeats 4000000 in
set_option maxRecDepth 100000 in
theorem c_X2_ringSizeOf {σ : CS} {t k : Nat} (ht : t < 2) (hs : σ.1 (zR t) ≤ 10) (hk : k < σ.1 (zR t)) : aM l D (cTys cI cZ cR cJ) 49 a yX2_ringSizeOf wsX2_ringSizeOf rmX2_ringSizeOf [.ref (ta a t), .int (nI k)] (cv cI cR a (σ)) (some (.int (σ.2.1 (zR t) k))) (cv cI cR a (σ)) := by
  refine aM_of sX2_ringSizeOf (lv0 := [some (.ref (ta a t)), some (.int (nI k))]) (j := 0) rfl rfl ?_
  intro pM eM sM mM argsM belowM methM cM AM C
  refine aw_aload_n C dX2_ringSizeOf_0 Lk0 ?_
  refine aw_gX2_ringSizes C ht dX2_ringSizeOf_1 (by decide +kernel) (by decide +kernel) ?_
  refine aw_iload_n C dX2_ringSizeOf_4 Lk1 ?_
  refine aw_cV1 C dX2_ringSizeOf_5 gX2_ringSizeOf_X1_at sX1_at (rm := rmX1_at) rfl (recRow (zR_lt ht)) (c_X1_at (zR_lt ht) hs hk) ?_
  exact aw_iend C dX2_ringSizeOf_8 rfl rfl
set_option maxHeartbeats 4000000 in
set_option maxRecDepth 100000 in
theorem c_X2_rounds {σ : CS} {t : Nat} (ht : t < 2) : aM l D (cTys cI cZ cR cJ) 49 a yX2_rounds wsX2_rounds rmX2_rounds [.ref (ta a t)] (cv cI cR a (σ)) (some (.int (σ.2.2 (3 * t + 1)))) (cv cI cR a (σ)) := by
  refine aM_of sX2_rounds (lv0 := [some (.ref (ta a t))]) (j := 0) rfl rfl ?_
  intro pM eM sM mM argsM belowM methM cM AM C
  refine aw_aload_n C dX2_rounds_0 Lk0 ?_
  refine aw_gX2_rounds C ht dX2_rounds_1 (by decide +kernel) (by decide +kernel) ?_
  exact aw_iend C dX2_rounds_4 rfl rfl
set_option maxHeartbeats 4000000 in
set_option maxRecDepth 100000 in
theorem c_X2_ringsOfMore {σ : CS} {t : Nat} (ht : t < 2) : aM l D (cTys cI cZ cR cJ) 49 a yX2_ringsOfMore wsX2_ringsOfMore rmX2_ringsOfMore [.ref (ta a t)] (cv cI cR a (σ)) (some (.int (σ.2.2 (3 * t + 2)))) (cv cI cR a (σ)) := by
  refine aM_of sX2_ringsOfMore (lv0 := [some (.ref (ta a t))]) (j := 0) rfl rfl ?_
  intro pM eM sM mM argsM belowM methM cM AM C
  refine aw_aload_n C dX2_ringsOfMore_0 Lk0 ?_
  refine aw_gX2_ringsOfMore C ht dX2_ringsOfMore_1 (by decide +kernel) (by decide +kernel) ?_
  exact aw_iend C dX2_ringsOfMore_4 rfl rfl
set_option maxHeartbeats 4000000 in
set_option maxRecDepth 100000 in
theorem c_X2_greatestRing {σ : CS} {t : Nat} (ht : t < 2) (hs : σ.1 (zR t) ≤ 10) : aM l D (cTys cI cZ cR cJ) 49 a yX2_greatestRing wsX2_greatestRing rmX2_greatestRing [.ref (ta a t)] (cv cI cR a (σ)) (some (.int (rMax (σ.2.1 (zR t)) (σ.1 (zR t))))) (cv cI cR a (σ)) := by
  refine aM_of sX2_greatestRing (lv0 := [some (.ref (ta a t))]) (j := 0) rfl rfl ?_
  intro pM eM sM mM argsM belowM methM cM AM C
  refine aw_aload_n C dX2_greatestRing_0 Lk0 ?_
  refine aw_gX2_ringSizes C ht dX2_greatestRing_1 (by decide +kernel) (by decide +kernel) ?_
  refine aw_cV0 C dX2_greatestRing_4 gX2_greatestRing_X1_greatest sX1_greatest (rm := rmX1_greatest) rfl (recRow (zR_lt ht)) (c_X1_greatest (zR_lt ht) hs) ?_
  exact aw_iend C dX2_greatestRing_7 rfl rfl
set_option maxHeartbeats 4000000 in
set_option maxRecDepth 100000 in
theorem c_X2_roundsAdded {σ : CS} {t : Nat} (ht : t < 2) (hs : σ.1 (dR t) ≤ 10) : aM l D (cTys cI cZ cR cJ) 49 a yX2_roundsAdded wsX2_roundsAdded rmX2_roundsAdded [.ref (ta a t)] (cv cI cR a (σ)) (some (.int (rSum (σ.2.1 (dR t)) (σ.1 (dR t))))) (cv cI cR a (σ)) := by
  refine aM_of sX2_roundsAdded (lv0 := [some (.ref (ta a t))]) (j := 0) rfl rfl ?_
  intro pM eM sM mM argsM belowM methM cM AM C
  refine aw_aload_n C dX2_roundsAdded_0 Lk0 ?_
  refine aw_gX2_doneIn C ht dX2_roundsAdded_1 (by decide +kernel) (by decide +kernel) ?_
  refine aw_cV0 C dX2_roundsAdded_4 gX2_roundsAdded_X1_sum sX1_sum (rm := rmX1_sum) rfl (recRow (dR_lt ht)) (c_X1_sum (dR_lt ht) hs) ?_
  exact aw_iend C dX2_roundsAdded_7 rfl rfl
set_option maxHeartbeats 4000000 in
set_option maxRecDepth 100000 in
theorem c_X2_isThereIn {σ : CS} {t k : Nat} {x : Int32} (ht : t < 2) (hs : σ.1 (dR t) ≤ 10) (hk : k < σ.1 (dR t)) : aM l D (cTys cI cZ cR cJ) 49 a yX2_isThereIn wsX2_isThereIn rmX2_isThereIn [.ref (ta a t), .int (nI k), .int x] (cv cI cR a (σ)) (some (.int (bI (thB (σ.2.1 (dR t) k) x)))) (cv cI cR a (σ)) := by
  refine aM_of sX2_isThereIn (lv0 := [some (.ref (ta a t)), some (.int (nI k)), some (.int x), none]) (j := 1) rfl rfl ?_
  intro pM eM sM mM argsM belowM methM cM AM C
  refine aw_aload_n C dX2_isThereIn_0 Lk0 ?_
  refine aw_gX2_doneIn C ht dX2_isThereIn_1 (by decide +kernel) (by decide +kernel) ?_
  refine aw_iload_n C dX2_isThereIn_4 Lk1 ?_
  refine aw_cV1 C dX2_isThereIn_5 gX2_isThereIn_X1_at sX1_at (rm := rmX1_at) rfl (recRow (dR_lt ht)) (c_X1_at (dR_lt ht) hs hk) ?_
  refine aw_istore_n C dX2_isThereIn_8 St3 rfl ?_
  refine aw_iload_n C dX2_isThereIn_9 Lk3 ?_
  refine aw_if_eq C dX2_isThereIn_10 (tgt := 18) (by decide) (fun c_10 => ?_) (fun c_10 => ?_)
  · skip
    refine aw_iconst C dX2_isThereIn_18 (x := nI 1) (by decide) ?_
    refine aw_goto C dX2_isThereIn_19 (tgt := 23) (by decide) ?_
    exact aw_zend C dX2_isThereIn_23 rfl rfl (by rw [thB, decide_eq_true (Or.inl c_10)]; rfl)
  · skip
    refine aw_iload_n C dX2_isThereIn_13 Lk3 ?_
    refine aw_iload_n C dX2_isThereIn_14 Lk2 ?_
    refine aw_icmp_lt C dX2_isThereIn_15 (tgt := 22) (by decide) (fun c_15 => ?_) (fun c_15 => ?_)
    · skip
      refine aw_iconst C dX2_isThereIn_22 (x := nI 0) (by decide) ?_
      exact aw_zend C dX2_isThereIn_23 rfl rfl (by rw [thB, decide_eq_false (fun q => q.elim c_10 (fun q => absurd q (Int32.not_le.mpr c_15)))]; rfl)
    · skip
      refine aw_iconst C dX2_isThereIn_18 (x := nI 1) (by decide) ?_
      refine aw_goto C dX2_isThereIn_19 (tgt := 23) (by decide) ?_
      exact aw_zend C dX2_isThereIn_23 rfl rfl (by rw [thB, decide_eq_true (Or.inr (Int32.not_lt.mp c_15))]; rfl)
end LAND
