/-! HutRingsModel: its face, second half -/
def itS (F : MS → MS) (τ : MS) : Nat → MS
  | 0 => τ
  | m + 1 => F (itS F τ m)
/-- behind a keeper's part of the checksum -/
def bgN (n : Nat) (h : Nat → Nat) (L : Nat → List Nat) (τ : MS) : MS := mST τ (τ.2 4) (τ.2 5) (τ.2 6) (amF (TL h n L) (t0A n) n (τ.2 7)) (eR n (τ.2 8) (t0A n)) (nI 0) (nI 0) (nI 0)
def dgP (n : Nat) (h : Nat → Nat) (L : Nat → List Nat) (k : Nat) (d : Int64) : Int64 := dgK (toP n h L k) (fun p => nI ((L k).getD p 0)) (L k).length (nI (fT (TL h n L) (t0A n) k)) d
section MFACE2
variable {τ : MS} {n : Nat} {h : Nat → Nat} {L : Nat → List Nat} {k i : Nat} {x : Int32} {f : Nat → Int32}
theorem MInv.its {F : MS → MS} (hF : ∀ τ, MInv τ n h L → MInv (F τ) n h L) (H : MInv τ n h L) : ∀ m, MInv (itS F τ m) n h L := by
  intro m
  induction m with
  | zero => exact H
  | succ m ih => exact hF _ ih
theorem GN_gF (W : WF n h L) (hk : k < n) : gF n h L k = nI (GN h n L k) ∧ GN h n L k < n := by
  obtain ⟨-, -, -, -, h5, h6⟩ := GN_spec W hk
  exact ⟨h5, h6⟩
def mvP (n : Nat) (h : Nat → Nat) (L : Nat → List Nat) (k : Nat) : Bool := anP n h L k
def mvV (n : Nat) (h : Nat → Nat) (L : Nat → List Nat) (k : Nat) : Int32 := nI (ixL (L k) (GN h n L k))
theorem anP_iff (W : WF n h L) (hk : k < n) : anP n h L k = true ↔ ¬ GN h n L k = h k := by
  have hg := GN_gF W hk
  have hh := W.2.1 k hk
  have hn := W.1
  rw [anP, decide_eq_true_iff, hg.1]
  exact ⟨fun q z => q (congrArg nI z), fun q z => q (nI_inj (by omega) (by omega) z)⟩
/-- the reference behind move -/
def mmS (n : Nat) (h : Nat → Nat) (L : Nat → List Nat) (τ : MS) : MS := ms3 (ms3 τ 2 (lpF (anP n h L) (mvV n h L) (τ.2 2) n)) 1 (lpF (fun _ => true) (τ.2 4) (τ.2 1) n)
theorem SInv.move (S : SInv τ n h L) : MInv (mmS n h L τ) n (GN h n L) (mvL h n L) := by
  obtain ⟨⟨W, h1, hgo, hfe, hfd, hh, hL, hZ⟩, hS, -, -, -⟩ := S
  have hn := W.1
  refine ⟨W.move, h1, hgo, hfe, hfd, fun k hk => ?_, fun k hk => ?_, fun k hk hk2 => ?_⟩
  · show lpF (fun _ => true) (τ.2 4) (τ.2 1) n k = _
    rw [lpF, if_pos ⟨hk, rfl⟩, (hS k hk).1]
    exact (GN_gF W hk).1
  · have e2 : (mmS n h L τ).2 2 k = lpF (anP n h L) (mvV n h L) (τ.2 2) n k := rfl
    have e3 : ∀ p, liF (mmS n h L τ) k p = liF τ k p := fun p => rfl
    rw [e2, lpF]
    have hi := anP_iff W hk
    by_cases e : GN h n L k = h k
    · rw [if_neg (fun z => (hi.mp z.2) e)]
      simp only [mvL, if_pos e, e3]
      exact hL k hk
    · rw [if_pos ⟨hk, hi.mpr e⟩]
      obtain ⟨i1, i2⟩ := ixL_lt W hk e
      have hlen : ((L k).take (ixL (L k) (GN h n L k))).length = ixL (L k) (GN h n L k) := by simp; omega
      simp only [mvL, if_neg e]
      rw [hlen]
      refine ⟨rfl, fun p hp => ?_⟩
      rw [takL_at hp, e3]
      exact (hL k hk).2 p (by omega)
  · show lpF (anP n h L) (mvV n h L) (τ.2 2) n k = _
    rw [lpF_at k (by omega)]
    exact hZ k hk hk2
end MFACE2
section MOD5
variable {l : Launch} {D : va_G} {cI cZ cR cJ : ClassId} {b : Nat → Nat}
set_option maxHeartbeats 1000000 in
set_option maxRecDepth 100000 in
theorem c_X4_isLiked {τ : MS} {n : Nat} {h : Nat → Nat} {L : Nat → List Nat} (S : SInv τ n h L) {k : Nat} (hk : k < n) {x : Int32} : aM l D (cTys cI cZ cR cJ) 9 b yX4_isLiked wsX4_isLiked rmX4_isLiked [.ref (b 0), .int (nI k), .int x] (mv cI cZ b (τ)) (some (.int (bI (lkP n h L k x)))) (mv cI cZ b (τ)) := by
  obtain ⟨H, hS, hs10, hs11, hs12⟩ := id S
  obtain ⟨W, h1, hgo, hfe, hfd, hh, hL, hZ⟩ := id H
  have hn := W.1
  obtain ⟨hl, hcell⟩ := hL k hk
  obtain ⟨hsg, hsd, hsz⟩ := hS k hk
  refine aM_of sX4_isLiked (lv0 := [some (.ref (b 0)), some (.int (nI k)), some (.int x)]) (j := 0) rfl rfl ?_
  intro pM eM sM mM argsM belowM methM cM AM C
  refine aw_aload_n C dX4_isLiked_0 Lk0 ?_
  refine aw_iload_n C dX4_isLiked_1 Lk1 ?_
  refine aw_iload_n C dX4_isLiked_2 Lk2 ?_
  refine aw_cV2 C dX4_isLiked_3 gX4_isLiked_X4_rankOf sX4_rankOf (rm := rmX4_rankOf) rfl recMod (c_X4_rankP H hk) ?_
  refine aw_iconst C dX4_isLiked_6 (x := -1) (by decide) ?_
  refine aw_icmp_eq C dX4_isLiked_7 (tgt := 34) (by decide) (fun c_7 => ?_) (fun c_7 => ?_)
  · skip
    refine aw_iconst C dX4_isLiked_34 (x := nI 0) (by decide) ?_
    exact aw_zend C dX4_isLiked_35 rfl rfl (by rw [lkP, decide_eq_false (fun q => q.1 c_7)]; rfl)
  · skip
    refine aw_aload_n C dX4_isLiked_10 Lk0 ?_
    refine aw_iload_n C dX4_isLiked_11 Lk1 ?_
    refine aw_iload_n C dX4_isLiked_12 Lk2 ?_
    refine aw_cV2 C dX4_isLiked_13 gX4_isLiked_X4_rankOf sX4_rankOf (rm := rmX4_rankOf) rfl recMod (c_X4_rankP H hk) ?_
    refine aw_aload_n C dX4_isLiked_16 Lk0 ?_
    refine aw_iload_n C dX4_isLiked_17 Lk1 ?_
    refine aw_aload_n C dX4_isLiked_18 Lk0 ?_
    refine aw_gX4_gets C  dX4_isLiked_19 (by decide +kernel) (by decide +kernel) ?_
    refine aw_iload_n C dX4_isLiked_22 Lk1 ?_
    refine aw_ilX4n_4 C dX4_isLiked_23 (by omega) ?_
    rw [hsg]
    refine aw_cV2 C dX4_isLiked_24 gX4_isLiked_X4_rankOf sX4_rankOf (rm := rmX4_rankOf) rfl recMod (c_X4_rankP H hk) ?_
    refine aw_icmp_ge C dX4_isLiked_27 (tgt := 34) (by decide) (fun c_27 => ?_) (fun c_27 => ?_)
    · skip
      refine aw_iconst C dX4_isLiked_34 (x := nI 0) (by decide) ?_
      exact aw_zend C dX4_isLiked_35 rfl rfl (by rw [lkP, decide_eq_false (fun q => absurd q.2 (Int32.not_lt.mpr c_27))]; rfl)
    · skip
      refine aw_iconst C dX4_isLiked_30 (x := nI 1) (by decide) ?_
      refine aw_goto C dX4_isLiked_31 (tgt := 35) (by decide) ?_
      exact aw_zend C dX4_isLiked_35 rfl rfl (by rw [lkP, decide_eq_true ⟨c_7, Int32.not_le.mp c_27⟩]; rfl)
set_option maxHeartbeats 1000000 in
set_option maxRecDepth 100000 in
theorem c_X4_swaps {τ : MS} {n : Nat} {h : Nat → Nat} {L : Nat → List Nat} (H : MInv τ n h L) {k : Nat} (hk : k < n) {q : Nat} (hq : q < n) : aM l D (cTys cI cZ cR cJ) 9 b yX4_swaps wsX4_swaps rmX4_swaps [.ref (b 0), .int (nI k), .int (nI q)] (mv cI cZ b (τ)) (some (.int (bI (lkP n h L k (gF n h L q) && lkP n h L q (gF n h L k))))) (mv cI cZ b (slN n h L (ms1 τ 0 (nI 0)))) := by
  obtain ⟨W, h1, hgo, hfe, hfd, hh, hL, hZ⟩ := H.thr (x := nI 0)
  have hn := W.1
  have hS := H.thr (x := nI 0) |>.sol
  refine aM_of sX4_swaps (lv0 := [some (.ref (b 0)), some (.int (nI k)), some (.int (nI q))]) (j := 0) rfl rfl ?_
  intro pM eM sM mM argsM belowM methM cM AM C
  refine aw_aload_n C dX4_swaps_0 Lk0 ?_
  refine aw_aload_n C dX4_swaps_1 Lk0 ?_
  refine aw_iload_n C dX4_swaps_2 Lk1 ?_
  refine aw_cV1 C dX4_swaps_3 gX4_swaps_X4_isKeeper sX4_isKeeper (rm := rmX4_isKeeper) rfl recMod (c_X4_isKeeper hn H.2.1) ?_
  rw [isK_t (by omega) hk]
  refine aw_if_eq C dX4_swaps_6 (tgt := 21) (by decide) (fun c_6 => absurd c_6 (by decide)) (fun c_6 => ?_)
  refine aw_aload_n C dX4_swaps_9 Lk0 ?_
  refine aw_iload_n C dX4_swaps_10 Lk2 ?_
  refine aw_cV1 C dX4_swaps_11 gX4_swaps_X4_isKeeper sX4_isKeeper (rm := rmX4_isKeeper) rfl recMod (c_X4_isKeeper hn H.2.1) ?_
  rw [isK_t (by omega) hq]
  refine aw_if_eq C dX4_swaps_14 (tgt := 21) (by decide) (fun c_14 => absurd c_14 (by decide)) (fun c_14 => ?_)
  refine aw_iconst C dX4_swaps_17 (x := nI 0) (by decide) ?_
  refine aw_goto C dX4_swaps_18 (tgt := 22) (by decide) ?_
  refine aw_pX4_thrown C  dX4_swaps_22 (by decide +kernel) (by decide +kernel) ?_
  refine aw_aload_n C dX4_swaps_25 Lk0 ?_
  refine aw_gX4_thrown C  dX4_swaps_26 (by decide +kernel) (by decide +kernel) ?_
  rw [ms1_at]
  refine aw_if_eq C dX4_swaps_29 (tgt := 34) (by decide) (fun c_29 => ?_) (fun c_29 => absurd rfl c_29)
  refine aw_aload_n C dX4_swaps_34 Lk0 ?_
  refine aw_cV0v C dX4_swaps_35 gX4_swaps_X4_solve sX4_solve (rm := rmX4_solve) rfl recMod (c_X4_solveP H.thr) ?_
  refine aw_aload_n C dX4_swaps_38 Lk0 ?_
  refine aw_iload_n C dX4_swaps_39 Lk1 ?_
  refine aw_aload_n C dX4_swaps_40 Lk0 ?_
  refine aw_gX4_gets C  dX4_swaps_41 (by decide +kernel) (by decide +kernel) ?_
  refine aw_iload_n C dX4_swaps_44 Lk2 ?_
  refine aw_ilX4n_4 C dX4_swaps_45 (by omega) ?_
  rw [(hS.2.1 q hq).1]
  refine aw_cV2 C dX4_swaps_46 gX4_swaps_X4_isLiked sX4_isLiked (rm := rmX4_isLiked) rfl recMod (c_X4_isLiked hS hk) ?_
  refine aw_if_eq C dX4_swaps_49 (tgt := 70) (by decide) (fun c_49 => ?_) (fun c_49 => ?_)
  · skip
    refine aw_iconst C dX4_swaps_70 (x := nI 0) (by decide) ?_
    exact aw_zend C dX4_swaps_71 rfl rfl (by rw [bI_0.mp c_49]; rfl)
  · skip
    have hb : lkP n h L k (gF n h L q) = true := by cases e9 : lkP n h L k (gF n h L q) <;> first | rfl | (rw [e9] at c_49; exact absurd rfl c_49)
    refine aw_aload_n C dX4_swaps_52 Lk0 ?_
    refine aw_iload_n C dX4_swaps_53 Lk2 ?_
    refine aw_aload_n C dX4_swaps_54 Lk0 ?_
    refine aw_gX4_gets C  dX4_swaps_55 (by decide +kernel) (by decide +kernel) ?_
    refine aw_iload_n C dX4_swaps_58 Lk1 ?_
    refine aw_ilX4n_4 C dX4_swaps_59 (by omega) ?_
    rw [(hS.2.1 k hk).1]
    refine aw_cV2 C dX4_swaps_60 gX4_swaps_X4_isLiked sX4_isLiked (rm := rmX4_isLiked) rfl recMod (c_X4_isLiked hS hq) ?_
    refine aw_if_eq C dX4_swaps_63 (tgt := 70) (by decide) (fun c_63 => ?_) (fun c_63 => ?_)
    · skip
      refine aw_iconst C dX4_swaps_70 (x := nI 0) (by decide) ?_
      exact aw_zend C dX4_swaps_71 rfl rfl (by rw [hb, bI_0.mp c_63]; rfl)
    · skip
      have hb2 : lkP n h L q (gF n h L k) = true := by cases e9 : lkP n h L q (gF n h L k) <;> first | rfl | (rw [e9] at c_63; exact absurd rfl c_63)
      refine aw_iconst C dX4_swaps_66 (x := nI 1) (by decide) ?_
      refine aw_goto C dX4_swaps_67 (tgt := 71) (by decide) ?_
      exact aw_zend C dX4_swaps_71 rfl rfl (by rw [hb, hb2]; rfl)
set_option maxHeartbeats 1000000 in
set_option maxRecDepth 100000 in
theorem f_X4_swaps_k {τ : MS} {n : Nat} {h : Nat → Nat} {L : Nat → List Nat} (H : MInv τ n h L) {x y : Int32} (hx : x < 0 ∨ nI n ≤ x) : aM l D (cTys cI cZ cR cJ) 9 b yX4_swaps wsX4_swaps rmX4_swaps [.ref (b 0), .int x, .int y] (mv cI cZ b (τ)) (some (.int (nI 0))) (mv cI cZ b (ms1 τ 0 (nI 1))) := by
  obtain ⟨W, h1, hgo, hfe, hfd, hh, hL, hZ⟩ := H.thr (x := nI 0)
  have hn := W.1
  refine aM_of sX4_swaps (lv0 := [some (.ref (b 0)), some (.int x), some (.int y)]) (j := 0) rfl rfl ?_
  intro pM eM sM mM argsM belowM methM cM AM C
  refine aw_aload_n C dX4_swaps_0 Lk0 ?_
  refine aw_aload_n C dX4_swaps_1 Lk0 ?_
  refine aw_iload_n C dX4_swaps_2 Lk1 ?_
  refine aw_cV1 C dX4_swaps_3 gX4_swaps_X4_isKeeper sX4_isKeeper (rm := rmX4_isKeeper) rfl recMod (c_X4_isKeeper hn H.2.1) ?_
  rw [isK_f (by omega) hx]
  refine aw_if_eq C dX4_swaps_6 (tgt := 21) (by decide) (fun c_6 => ?_) (fun c_6 => absurd (by decide) c_6)
  refine aw_iconst C dX4_swaps_21 (x := nI 1) (by decide) ?_
  refine aw_pX4_thrown C  dX4_swaps_22 (by decide +kernel) (by decide +kernel) ?_
  refine aw_aload_n C dX4_swaps_25 Lk0 ?_
  refine aw_gX4_thrown C  dX4_swaps_26 (by decide +kernel) (by decide +kernel) ?_
  rw [ms1_at]
  refine aw_if_eq C dX4_swaps_29 (tgt := 34) (by decide) (fun c_29 => absurd c_29 (by decide)) (fun c_29 => ?_)
  refine aw_iconst C dX4_swaps_32 (x := nI 0) (by decide) ?_
  exact aw_zend C dX4_swaps_33 rfl rfl rfl
set_option maxHeartbeats 1000000 in
set_option maxRecDepth 100000 in
theorem f_X4_swaps_q {τ : MS} {n : Nat} {h : Nat → Nat} {L : Nat → List Nat} (H : MInv τ n h L) {k : Nat} (hk : k < n) {y : Int32} (hy : y < 0 ∨ nI n ≤ y) : aM l D (cTys cI cZ cR cJ) 9 b yX4_swaps wsX4_swaps rmX4_swaps [.ref (b 0), .int (nI k), .int y] (mv cI cZ b (τ)) (some (.int (nI 0))) (mv cI cZ b (ms1 τ 0 (nI 1))) := by
  obtain ⟨W, h1, hgo, hfe, hfd, hh, hL, hZ⟩ := H.thr (x := nI 0)
  have hn := W.1
  refine aM_of sX4_swaps (lv0 := [some (.ref (b 0)), some (.int (nI k)), some (.int y)]) (j := 0) rfl rfl ?_
  intro pM eM sM mM argsM belowM methM cM AM C
  refine aw_aload_n C dX4_swaps_0 Lk0 ?_
  refine aw_aload_n C dX4_swaps_1 Lk0 ?_
  refine aw_iload_n C dX4_swaps_2 Lk1 ?_
  refine aw_cV1 C dX4_swaps_3 gX4_swaps_X4_isKeeper sX4_isKeeper (rm := rmX4_isKeeper) rfl recMod (c_X4_isKeeper hn H.2.1) ?_
  rw [isK_t (by omega) hk]
  refine aw_if_eq C dX4_swaps_6 (tgt := 21) (by decide) (fun c_6 => absurd c_6 (by decide)) (fun c_6 => ?_)
  refine aw_aload_n C dX4_swaps_9 Lk0 ?_
  refine aw_iload_n C dX4_swaps_10 Lk2 ?_
  refine aw_cV1 C dX4_swaps_11 gX4_swaps_X4_isKeeper sX4_isKeeper (rm := rmX4_isKeeper) rfl recMod (c_X4_isKeeper hn H.2.1) ?_
  rw [isK_f (by omega) hy]
  refine aw_if_eq C dX4_swaps_14 (tgt := 21) (by decide) (fun c_14 => ?_) (fun c_14 => absurd (by decide) c_14)
  refine aw_iconst C dX4_swaps_21 (x := nI 1) (by decide) ?_
  refine aw_pX4_thrown C  dX4_swaps_22 (by decide +kernel) (by decide +kernel) ?_
  refine aw_aload_n C dX4_swaps_25 Lk0 ?_
  refine aw_gX4_thrown C  dX4_swaps_26 (by decide +kernel) (by decide +kernel) ?_
  rw [ms1_at]
  refine aw_if_eq C dX4_swaps_29 (tgt := 34) (by decide) (fun c_29 => absurd c_29 (by decide)) (fun c_29 => ?_)
  refine aw_iconst C dX4_swaps_32 (x := nI 0) (by decide) ?_
  exact aw_zend C dX4_swaps_33 rfl rfl rfl
set_option maxHeartbeats 1000000 in
set_option maxRecDepth 100000 in
theorem c_X4_without {τ : MS} {n : Nat} {h : Nat → Nat} {L : Nat → List Nat} (H : MInv τ n h L) {k : Nat} (hk : k < n) {o : Nat} (ho : o < n) (hne : k ≠ o) : aM l D (cTys cI cZ cR cJ) 9 b yX4_without wsX4_without rmX4_without [.ref (b 0), .int (nI k), .int (nI o)] (mv cI cZ b (τ)) (some (.int (FG (TL h n L) (t0W n o) n h k))) (mv cI cZ b (ms1 (slS (ms1 (ms1 τ 0 (nI 0)) 13 (nI o)) n (TL h n L) (t0W n o) h) 13 (-1))) := by
  obtain ⟨W, h1, hgo, hfe, hfd, hh, hL, hZ⟩ := H.thr (x := nI 0)
  have hn := W.1
  refine aM_of sX4_without (lv0 := [some (.ref (b 0)), some (.int (nI k)), some (.int (nI o))]) (j := 0) rfl rfl ?_
  intro pM eM sM mM argsM belowM methM cM AM C
  refine aw_aload_n C dX4_without_0 Lk0 ?_
  refine aw_iconst C dX4_without_1 (x := nI 0) (by decide) ?_
  refine aw_pX4_thrown C  dX4_without_2 (by decide +kernel) (by decide +kernel) ?_
  refine aw_aload_n C dX4_without_5 Lk0 ?_
  refine aw_iload_n C dX4_without_6 Lk1 ?_
  refine aw_cV1 C dX4_without_7 gX4_without_X4_isKeeper sX4_isKeeper (rm := rmX4_isKeeper) rfl recMod (c_X4_isKeeper hn h1) ?_
  rw [isK_t (by omega) hk]
  refine aw_if_eq C dX4_without_10 (tgt := 21) (by decide) (fun c_10 => absurd c_10 (by decide)) (fun c_10 => ?_)
  refine aw_aload_n C dX4_without_13 Lk0 ?_
  refine aw_iload_n C dX4_without_14 Lk2 ?_
  refine aw_cV1 C dX4_without_15 gX4_without_X4_isKeeper sX4_isKeeper (rm := rmX4_isKeeper) rfl recMod (c_X4_isKeeper hn h1) ?_
  rw [isK_t (by omega) ho]
  refine aw_if_ne C dX4_without_18 (tgt := 27) (by decide) (fun c_18 => ?_) (fun c_18 => absurd (by decide) c_18)
  refine aw_iload_n C dX4_without_27 Lk1 ?_
  refine aw_iload_n C dX4_without_28 Lk2 ?_
  refine aw_icmp_ne C dX4_without_29 (tgt := 38) (by decide) (fun c_29 => ?_) (fun c_29 => absurd (fun q => hne (nI_inj (by omega) (by omega) q)) c_29)
  refine aw_aload_n C dX4_without_38 Lk0 ?_
  refine aw_iload_n C dX4_without_39 Lk2 ?_
  refine aw_pX4_gone C  dX4_without_40 (by decide +kernel) (by decide +kernel) ?_
  refine aw_aload_n C dX4_without_43 Lk0 ?_
  refine aw_cV0v C dX4_without_44 gX4_without_X4_solve sX4_solve (rm := rmX4_solve) rfl recMod (c_X4_solve (H.thr.wo ho) t0W_ok) ?_
  refine aw_aload_n C dX4_without_47 Lk0 ?_
  refine aw_iconst C dX4_without_48 (x := -1) (by decide) ?_
  refine aw_pX4_gone C  dX4_without_49 (by decide +kernel) (by decide +kernel) ?_
  refine aw_aload_n C dX4_without_52 Lk0 ?_
  refine aw_gX4_gets C  dX4_without_53 (by decide +kernel) (by decide +kernel) ?_
  refine aw_iload_n C dX4_without_56 Lk1 ?_
  refine aw_ilX4n_4 C dX4_without_57 (by omega) ?_
  exact aw_iend C dX4_without_58 rfl (congrArg (fun z9 => some (Value.int z9)) (FG_of t0W_ok hn (decide_eq_true ⟨hk, hne⟩) _))
set_option maxHeartbeats 1000000 in
set_option maxRecDepth 100000 in
theorem f_X4_without_k {τ : MS} {n : Nat} {h : Nat → Nat} {L : Nat → List Nat} (H : MInv τ n h L) {x y : Int32} (hx : x < 0 ∨ nI n ≤ x) : aM l D (cTys cI cZ cR cJ) 9 b yX4_without wsX4_without rmX4_without [.ref (b 0), .int x, .int y] (mv cI cZ b (τ)) (some (.int (nI 0))) (mv cI cZ b (ms1 (ms1 τ 0 (nI 0)) 0 (nI 1))) := by
  obtain ⟨W, h1, hgo, hfe, hfd, hh, hL, hZ⟩ := H.thr (x := nI 0)
  have hn := W.1
  refine aM_of sX4_without (lv0 := [some (.ref (b 0)), some (.int x), some (.int y)]) (j := 0) rfl rfl ?_
  intro pM eM sM mM argsM belowM methM cM AM C
  refine aw_aload_n C dX4_without_0 Lk0 ?_
  refine aw_iconst C dX4_without_1 (x := nI 0) (by decide) ?_
  refine aw_pX4_thrown C  dX4_without_2 (by decide +kernel) (by decide +kernel) ?_
  refine aw_aload_n C dX4_without_5 Lk0 ?_
  refine aw_iload_n C dX4_without_6 Lk1 ?_
  refine aw_cV1 C dX4_without_7 gX4_without_X4_isKeeper sX4_isKeeper (rm := rmX4_isKeeper) rfl recMod (c_X4_isKeeper hn h1) ?_
  rw [isK_f (by omega) hx]
  refine aw_if_eq C dX4_without_10 (tgt := 21) (by decide) (fun c_10 => ?_) (fun c_10 => absurd (by decide) c_10)
  refine aw_aload_n C dX4_without_21 Lk0 ?_
  refine aw_iconst C dX4_without_22 (x := nI 1) (by decide) ?_
  refine aw_cV1 C dX4_without_23 gX4_without_X4_fail sX4_fail (rm := rmX4_fail) rfl recMod c_X4_fail ?_
  exact aw_iend C dX4_without_26 rfl rfl
set_option maxHeartbeats 1000000 in
set_option maxRecDepth 100000 in
theorem f_X4_without_o {τ : MS} {n : Nat} {h : Nat → Nat} {L : Nat → List Nat} (H : MInv τ n h L) {k : Nat} (hk : k < n) {y : Int32} (hy : y < 0 ∨ nI n ≤ y) : aM l D (cTys cI cZ cR cJ) 9 b yX4_without wsX4_without rmX4_without [.ref (b 0), .int (nI k), .int y] (mv cI cZ b (τ)) (some (.int (nI 0))) (mv cI cZ b (ms1 (ms1 τ 0 (nI 0)) 0 (nI 1))) := by
  obtain ⟨W, h1, hgo, hfe, hfd, hh, hL, hZ⟩ := H.thr (x := nI 0)
  have hn := W.1
  refine aM_of sX4_without (lv0 := [some (.ref (b 0)), some (.int (nI k)), some (.int y)]) (j := 0) rfl rfl ?_
  intro pM eM sM mM argsM belowM methM cM AM C
  refine aw_aload_n C dX4_without_0 Lk0 ?_
  refine aw_iconst C dX4_without_1 (x := nI 0) (by decide) ?_
  refine aw_pX4_thrown C  dX4_without_2 (by decide +kernel) (by decide +kernel) ?_
  refine aw_aload_n C dX4_without_5 Lk0 ?_
  refine aw_iload_n C dX4_without_6 Lk1 ?_
  refine aw_cV1 C dX4_without_7 gX4_without_X4_isKeeper sX4_isKeeper (rm := rmX4_isKeeper) rfl recMod (c_X4_isKeeper hn h1) ?_
  rw [isK_t (by omega) hk]
  refine aw_if_eq C dX4_without_10 (tgt := 21) (by decide) (fun c_10 => absurd c_10 (by decide)) (fun c_10 => ?_)
  refine aw_aload_n C dX4_without_13 Lk0 ?_
  refine aw_iload_n C dX4_without_14 Lk2 ?_
  refine aw_cV1 C dX4_without_15 gX4_without_X4_isKeeper sX4_isKeeper (rm := rmX4_isKeeper) rfl recMod (c_X4_isKeeper hn h1) ?_
  rw [isK_f (by omega) hy]
  refine aw_if_ne C dX4_without_18 (tgt := 27) (by decide) (fun c_18 => absurd c_18 (by decide)) (fun c_18 => ?_)
  refine aw_aload_n C dX4_without_21 Lk0 ?_
  refine aw_iconst C dX4_without_22 (x := nI 1) (by decide) ?_
  refine aw_cV1 C dX4_without_23 gX4_without_X4_fail sX4_fail (rm := rmX4_fail) rfl recMod c_X4_fail ?_
  exact aw_iend C dX4_without_26 rfl rfl
set_option maxHeartbeats 1000000 in
set_option maxRecDepth 100000 in
theorem f_X4_without_s {τ : MS} {n : Nat} {h : Nat → Nat} {L : Nat → List Nat} (H : MInv τ n h L) {k : Nat} (hk : k < n) : aM l D (cTys cI cZ cR cJ) 9 b yX4_without wsX4_without rmX4_without [.ref (b 0), .int (nI k), .int (nI k)] (mv cI cZ b (τ)) (some (.int (nI 0))) (mv cI cZ b (ms1 (ms1 τ 0 (nI 0)) 0 (nI 2))) := by
  obtain ⟨W, h1, hgo, hfe, hfd, hh, hL, hZ⟩ := H.thr (x := nI 0)
  have hn := W.1
  refine aM_of sX4_without (lv0 := [some (.ref (b 0)), some (.int (nI k)), some (.int (nI k))]) (j := 0) rfl rfl ?_
  intro pM eM sM mM argsM belowM methM cM AM C
  refine aw_aload_n C dX4_without_0 Lk0 ?_
  refine aw_iconst C dX4_without_1 (x := nI 0) (by decide) ?_
  refine aw_pX4_thrown C  dX4_without_2 (by decide +kernel) (by decide +kernel) ?_
  refine aw_aload_n C dX4_without_5 Lk0 ?_
  refine aw_iload_n C dX4_without_6 Lk1 ?_
  refine aw_cV1 C dX4_without_7 gX4_without_X4_isKeeper sX4_isKeeper (rm := rmX4_isKeeper) rfl recMod (c_X4_isKeeper hn h1) ?_
  rw [isK_t (by omega) hk]
  refine aw_if_eq C dX4_without_10 (tgt := 21) (by decide) (fun c_10 => absurd c_10 (by decide)) (fun c_10 => ?_)
  refine aw_aload_n C dX4_without_13 Lk0 ?_
  refine aw_iload_n C dX4_without_14 Lk2 ?_
  refine aw_cV1 C dX4_without_15 gX4_without_X4_isKeeper sX4_isKeeper (rm := rmX4_isKeeper) rfl recMod (c_X4_isKeeper hn h1) ?_
  rw [isK_t (by omega) hk]
  refine aw_if_ne C dX4_without_18 (tgt := 27) (by decide) (fun c_18 => ?_) (fun c_18 => absurd (by decide) c_18)
  refine aw_iload_n C dX4_without_27 Lk1 ?_
  refine aw_iload_n C dX4_without_28 Lk2 ?_
  refine aw_icmp_ne C dX4_without_29 (tgt := 38) (by decide) (fun c_29 => absurd c_29 (fun q => q rfl)) (fun c_29 => ?_)
  refine aw_aload_n C dX4_without_32 Lk0 ?_
  refine aw_iconst C dX4_without_33 (x := nI 2) (by decide) ?_
  refine aw_cV1 C dX4_without_34 gX4_without_X4_fail sX4_fail (rm := rmX4_fail) rfl recMod c_X4_fail ?_
  exact aw_iend C dX4_without_37 rfl rfl
set_option maxHeartbeats 1000000 in
set_option maxRecDepth 100000 in
theorem c_X4_feign {τ : MS} {n : Nat} {h : Nat → Nat} {L : Nat → List Nat} (H : MInv τ n h L) {k : Nat} (hk : k < n) {x : Nat} (hx : x < n) : aM l D (cTys cI cZ cR cJ) 9 b yX4_feign wsX4_feign rmX4_feign [.ref (b 0), .int (nI k), .int (nI x)] (mv cI cZ b (τ)) (some (.int (FG (TF h n L k x) (t0A n) n h k))) (mv cI cZ b (ms1 (ms1 (slS (ms1 (ms1 (ms1 τ 0 (nI 0)) 14 (nI k)) 15 (fvP h k x)) n (TF h n L k x) (t0A n) h) 14 (-1)) 15 (-1))) := by
  obtain ⟨W, h1, hgo, hfe, hfd, hh, hL, hZ⟩ := H.thr (x := nI 0)
  have hn := W.1
  have hhk := W.2.1 k hk
  refine aM_of sX4_feign (lv0 := [some (.ref (b 0)), some (.int (nI k)), some (.int (nI x))]) (j := 0) rfl rfl ?_
  intro pM eM sM mM argsM belowM methM cM AM C
  refine aw_aload_n C dX4_feign_0 Lk0 ?_
  refine aw_iconst C dX4_feign_1 (x := nI 0) (by decide) ?_
  refine aw_pX4_thrown C  dX4_feign_2 (by decide +kernel) (by decide +kernel) ?_
  refine aw_aload_n C dX4_feign_5 Lk0 ?_
  refine aw_iload_n C dX4_feign_6 Lk1 ?_
  refine aw_cV1 C dX4_feign_7 gX4_feign_X4_isKeeper sX4_isKeeper (rm := rmX4_isKeeper) rfl recMod (c_X4_isKeeper hn h1) ?_
  rw [isK_t (by omega) hk]
  refine aw_if_eq C dX4_feign_10 (tgt := 21) (by decide) (fun c_10 => absurd c_10 (by decide)) (fun c_10 => ?_)
  refine aw_aload_n C dX4_feign_13 Lk0 ?_
  refine aw_iload_n C dX4_feign_14 Lk2 ?_
  refine aw_cV1 C dX4_feign_15 gX4_feign_X4_isKeeper sX4_isKeeper (rm := rmX4_isKeeper) rfl recMod (c_X4_isKeeper hn h1) ?_
  rw [isK_t (by omega) hx]
  refine aw_if_ne C dX4_feign_18 (tgt := 27) (by decide) (fun c_18 => ?_) (fun c_18 => absurd (by decide) c_18)
  refine aw_aload_n C dX4_feign_27 Lk0 ?_
  refine aw_iload_n C dX4_feign_28 Lk1 ?_
  refine aw_pX4_feigner C  dX4_feign_29 (by decide +kernel) (by decide +kernel) ?_
  refine aw_aload_n C dX4_feign_32 Lk0 ?_
  refine aw_iload_n C dX4_feign_33 Lk2 ?_
  refine aw_aload_n C dX4_feign_34 Lk0 ?_
  refine aw_gX4_has C  dX4_feign_35 (by decide +kernel) (by decide +kernel) ?_
  refine aw_iload_n C dX4_feign_38 Lk1 ?_
  refine aw_ilX4n_1 C dX4_feign_39 (by omega) ?_
  rw [show (ms1 (ms1 τ 0 (nI 0)) 14 (nI k)).2 1 k = nI (h k) from hh k hk]
  refine aw_icmp_ne C dX4_feign_40 (tgt := 47) (by decide) (fun c_40 => ?_) (fun c_40 => ?_)
  · skip
    have hfv : nI x = fvP h k x := (if_neg (fun q => c_40 (congrArg nI q))).symm
    refine aw_iload_n C dX4_feign_47 Lk2 ?_
    refine aw_pX4_feigned C  dX4_feign_48 (by decide +kernel) (by decide +kernel) ?_
    refine aw_aload_n C dX4_feign_51 Lk0 ?_
    refine aw_cV0v C dX4_feign_52 gX4_feign_X4_solve sX4_solve (rm := rmX4_solve) rfl recMod (c_X4_solve (H.thr.fe hk hx hfv) t0A_ok) ?_
    refine aw_aload_n C dX4_feign_55 Lk0 ?_
    refine aw_iconst C dX4_feign_56 (x := -1) (by decide) ?_
    refine aw_pX4_feigner C  dX4_feign_57 (by decide +kernel) (by decide +kernel) ?_
    refine aw_aload_n C dX4_feign_60 Lk0 ?_
    refine aw_iconst C dX4_feign_61 (x := -1) (by decide) ?_
    refine aw_pX4_feigned C  dX4_feign_62 (by decide +kernel) (by decide +kernel) ?_
    refine aw_aload_n C dX4_feign_65 Lk0 ?_
    refine aw_gX4_gets C  dX4_feign_66 (by decide +kernel) (by decide +kernel) ?_
    refine aw_iload_n C dX4_feign_69 Lk1 ?_
    refine aw_ilX4n_4 C dX4_feign_70 (by omega) ?_
    exact aw_iend C dX4_feign_71 (by rw [← hfv]; rfl) (congrArg (fun z9 => some (Value.int z9)) (FG_of t0A_ok hn (t0A_t hk) _))
  · skip
    have hfv : -1 = fvP h k x := (if_pos (nI_inj (by omega) (by omega) (Classical.not_not.mp c_40))).symm
    refine aw_iconst C dX4_feign_43 (x := -1) (by decide) ?_
    refine aw_goto C dX4_feign_44 (tgt := 48) (by decide) ?_
    refine aw_pX4_feigned C  dX4_feign_48 (by decide +kernel) (by decide +kernel) ?_
    refine aw_aload_n C dX4_feign_51 Lk0 ?_
    refine aw_cV0v C dX4_feign_52 gX4_feign_X4_solve sX4_solve (rm := rmX4_solve) rfl recMod (c_X4_solve (H.thr.fe hk hx hfv) t0A_ok) ?_
    refine aw_aload_n C dX4_feign_55 Lk0 ?_
    refine aw_iconst C dX4_feign_56 (x := -1) (by decide) ?_
    refine aw_pX4_feigner C  dX4_feign_57 (by decide +kernel) (by decide +kernel) ?_
    refine aw_aload_n C dX4_feign_60 Lk0 ?_
    refine aw_iconst C dX4_feign_61 (x := -1) (by decide) ?_
    refine aw_pX4_feigned C  dX4_feign_62 (by decide +kernel) (by decide +kernel) ?_
    refine aw_aload_n C dX4_feign_65 Lk0 ?_
    refine aw_gX4_gets C  dX4_feign_66 (by decide +kernel) (by decide +kernel) ?_
    refine aw_iload_n C dX4_feign_69 Lk1 ?_
    refine aw_ilX4n_4 C dX4_feign_70 (by omega) ?_
    exact aw_iend C dX4_feign_71 (by rw [← hfv]; rfl) (congrArg (fun z9 => some (Value.int z9)) (FG_of t0A_ok hn (t0A_t hk) _))
set_option maxHeartbeats 1000000 in
set_option maxRecDepth 100000 in
theorem f_X4_feign_k {τ : MS} {n : Nat} {h : Nat → Nat} {L : Nat → List Nat} (H : MInv τ n h L) {x y : Int32} (hx : x < 0 ∨ nI n ≤ x) : aM l D (cTys cI cZ cR cJ) 9 b yX4_feign wsX4_feign rmX4_feign [.ref (b 0), .int x, .int y] (mv cI cZ b (τ)) (some (.int (nI 0))) (mv cI cZ b (ms1 (ms1 τ 0 (nI 0)) 0 (nI 1))) := by
  obtain ⟨W, h1, hgo, hfe, hfd, hh, hL, hZ⟩ := H.thr (x := nI 0)
  have hn := W.1
  refine aM_of sX4_feign (lv0 := [some (.ref (b 0)), some (.int x), some (.int y)]) (j := 0) rfl rfl ?_
  intro pM eM sM mM argsM belowM methM cM AM C
  refine aw_aload_n C dX4_feign_0 Lk0 ?_
  refine aw_iconst C dX4_feign_1 (x := nI 0) (by decide) ?_
  refine aw_pX4_thrown C  dX4_feign_2 (by decide +kernel) (by decide +kernel) ?_
  refine aw_aload_n C dX4_feign_5 Lk0 ?_
  refine aw_iload_n C dX4_feign_6 Lk1 ?_
  refine aw_cV1 C dX4_feign_7 gX4_feign_X4_isKeeper sX4_isKeeper (rm := rmX4_isKeeper) rfl recMod (c_X4_isKeeper hn h1) ?_
  rw [isK_f (by omega) hx]
  refine aw_if_eq C dX4_feign_10 (tgt := 21) (by decide) (fun c_10 => ?_) (fun c_10 => absurd (by decide) c_10)
  refine aw_aload_n C dX4_feign_21 Lk0 ?_
  refine aw_iconst C dX4_feign_22 (x := nI 1) (by decide) ?_
  refine aw_cV1 C dX4_feign_23 gX4_feign_X4_fail sX4_fail (rm := rmX4_fail) rfl recMod c_X4_fail ?_
  exact aw_iend C dX4_feign_26 rfl rfl
set_option maxHeartbeats 1000000 in
set_option maxRecDepth 100000 in
theorem f_X4_feign_x {τ : MS} {n : Nat} {h : Nat → Nat} {L : Nat → List Nat} (H : MInv τ n h L) {k : Nat} (hk : k < n) {y : Int32} (hy : y < 0 ∨ nI n ≤ y) : aM l D (cTys cI cZ cR cJ) 9 b yX4_feign wsX4_feign rmX4_feign [.ref (b 0), .int (nI k), .int y] (mv cI cZ b (τ)) (some (.int (nI 0))) (mv cI cZ b (ms1 (ms1 τ 0 (nI 0)) 0 (nI 1))) := by
  obtain ⟨W, h1, hgo, hfe, hfd, hh, hL, hZ⟩ := H.thr (x := nI 0)
  have hn := W.1
  refine aM_of sX4_feign (lv0 := [some (.ref (b 0)), some (.int (nI k)), some (.int y)]) (j := 0) rfl rfl ?_
  intro pM eM sM mM argsM belowM methM cM AM C
  refine aw_aload_n C dX4_feign_0 Lk0 ?_
  refine aw_iconst C dX4_feign_1 (x := nI 0) (by decide) ?_
  refine aw_pX4_thrown C  dX4_feign_2 (by decide +kernel) (by decide +kernel) ?_
  refine aw_aload_n C dX4_feign_5 Lk0 ?_
  refine aw_iload_n C dX4_feign_6 Lk1 ?_
  refine aw_cV1 C dX4_feign_7 gX4_feign_X4_isKeeper sX4_isKeeper (rm := rmX4_isKeeper) rfl recMod (c_X4_isKeeper hn h1) ?_
  rw [isK_t (by omega) hk]
  refine aw_if_eq C dX4_feign_10 (tgt := 21) (by decide) (fun c_10 => absurd c_10 (by decide)) (fun c_10 => ?_)
  refine aw_aload_n C dX4_feign_13 Lk0 ?_
  refine aw_iload_n C dX4_feign_14 Lk2 ?_
  refine aw_cV1 C dX4_feign_15 gX4_feign_X4_isKeeper sX4_isKeeper (rm := rmX4_isKeeper) rfl recMod (c_X4_isKeeper hn h1) ?_
  rw [isK_f (by omega) hy]
  refine aw_if_ne C dX4_feign_18 (tgt := 27) (by decide) (fun c_18 => absurd c_18 (by decide)) (fun c_18 => ?_)
  refine aw_aload_n C dX4_feign_21 Lk0 ?_
  refine aw_iconst C dX4_feign_22 (x := nI 1) (by decide) ?_
  refine aw_cV1 C dX4_feign_23 gX4_feign_X4_fail sX4_fail (rm := rmX4_fail) rfl recMod c_X4_fail ?_
  exact aw_iend C dX4_feign_26 rfl rfl
set_option maxHeartbeats 1000000 in
set_option maxRecDepth 100000 in
theorem c_X4_counted_0 {τ : MS} {n : Nat} {h : Nat → Nat} {L : Nat → List Nat} (H : MInv τ n h L) : aM l D (cTys cI cZ cR cJ) 9 b yX4_counted wsX4_counted rmX4_counted [.ref (b 0), .int (nI 0)] (mv cI cZ b (τ)) (some (.int (cnP n h L 0))) (mv cI cZ b (slN n h L τ)) := by
  have S := H.sol
  obtain ⟨H', hS, hs10, hs11, hs12⟩ := id S
  obtain ⟨W, h1, hgo, hfe, hfd, hh, hL, hZ⟩ := id H'
  have hn := W.1
  refine aM_of sX4_counted (lv0 := [some (.ref (b 0)), some (.int (nI 0)), none, none]) (j := 2) rfl rfl ?_
  intro pM eM sM mM argsM belowM methM cM AM C
  refine aw_iconst C dX4_counted_0 (x := nI 0) (by decide) ?_
  refine aw_istore_n C dX4_counted_1 St2 rfl ?_
  refine aw_aload_n C dX4_counted_2 Lk0 ?_
  refine aw_cV0v C dX4_counted_3 gX4_counted_X4_solve sX4_solve (rm := rmX4_solve) rfl recMod (c_X4_solveP H) ?_
  refine aw_iload_n C dX4_counted_6 Lk1 ?_
  refine aw_tableIn C dX4_counted_7 (tgt := 40) (by decide) (by decide) (off := 33) (by decide) (by decide) ?_
  refine aw_aload_n C dX4_counted_40 Lk0 ?_
  refine aw_gX4_keepers C  dX4_counted_41 (by decide +kernel) (by decide +kernel) ?_
  rw [h1]
  exact aw_iend C dX4_counted_44 rfl rfl
set_option maxHeartbeats 1000000 in
set_option maxRecDepth 100000 in
theorem c_X4_counted_1 {τ : MS} {n : Nat} {h : Nat → Nat} {L : Nat → List Nat} (H : MInv τ n h L) : aM l D (cTys cI cZ cR cJ) 9 b yX4_counted wsX4_counted rmX4_counted [.ref (b 0), .int (nI 1)] (mv cI cZ b (τ)) (some (.int (cnP n h L 1))) (mv cI cZ b (slN n h L τ)) := by
  have S := H.sol
  obtain ⟨H', hS, hs10, hs11, hs12⟩ := id S
  obtain ⟨W, h1, hgo, hfe, hfd, hh, hL, hZ⟩ := id H'
  have hn := W.1
  refine aM_of sX4_counted (lv0 := [some (.ref (b 0)), some (.int (nI 1)), none, none]) (j := 2) rfl rfl ?_
  intro pM eM sM mM argsM belowM methM cM AM C
  refine aw_iconst C dX4_counted_0 (x := nI 0) (by decide) ?_
  refine aw_istore_n C dX4_counted_1 St2 rfl ?_
  refine aw_aload_n C dX4_counted_2 Lk0 ?_
  refine aw_cV0v C dX4_counted_3 gX4_counted_X4_solve sX4_solve (rm := rmX4_solve) rfl recMod (c_X4_solveP H) ?_
  refine aw_iload_n C dX4_counted_6 Lk1 ?_
  refine aw_tableIn C dX4_counted_7 (tgt := 45) (by decide) (by decide) (off := 38) (by decide) (by decide) ?_
  refine aw_aload_n C dX4_counted_45 Lk0 ?_
  refine aw_gX4_last C  dX4_counted_46 (by decide +kernel) (by decide +kernel) ?_
  rw [hs10]
  exact aw_iend C dX4_counted_49 rfl rfl
set_option maxHeartbeats 1000000 in
set_option maxRecDepth 100000 in
theorem c_X4_counted_2 {τ : MS} {n : Nat} {h : Nat → Nat} {L : Nat → List Nat} (H : MInv τ n h L) : aM l D (cTys cI cZ cR cJ) 9 b yX4_counted wsX4_counted rmX4_counted [.ref (b 0), .int (nI 2)] (mv cI cZ b (τ)) (some (.int (cnP n h L 2))) (mv cI cZ b (slN n h L τ)) := by
  have S := H.sol
  obtain ⟨H', hS, hs10, hs11, hs12⟩ := id S
  obtain ⟨W, h1, hgo, hfe, hfd, hh, hL, hZ⟩ := id H'
  have hn := W.1
  refine aM_of sX4_counted (lv0 := [some (.ref (b 0)), some (.int (nI 2)), none, none]) (j := 2) rfl rfl ?_
  intro pM eM sM mM argsM belowM methM cM AM C
  refine aw_iconst C dX4_counted_0 (x := nI 0) (by decide) ?_
  refine aw_istore_n C dX4_counted_1 St2 rfl ?_
  refine aw_aload_n C dX4_counted_2 Lk0 ?_
  refine aw_cV0v C dX4_counted_3 gX4_counted_X4_solve sX4_solve (rm := rmX4_solve) rfl recMod (c_X4_solveP H) ?_
  refine aw_iload_n C dX4_counted_6 Lk1 ?_
  refine aw_tableIn C dX4_counted_7 (tgt := 50) (by decide) (by decide) (off := 43) (by decide) (by decide) ?_
  refine aw_aload_n C dX4_counted_50 Lk0 ?_
  refine aw_gX4_rings C  dX4_counted_51 (by decide +kernel) (by decide +kernel) ?_
  rw [hs11]
  exact aw_iend C dX4_counted_54 rfl rfl
set_option maxHeartbeats 1000000 in
set_option maxRecDepth 100000 in
theorem c_X4_counted_3 {τ : MS} {n : Nat} {h : Nat → Nat} {L : Nat → List Nat} (H : MInv τ n h L) : aM l D (cTys cI cZ cR cJ) 9 b yX4_counted wsX4_counted rmX4_counted [.ref (b 0), .int (nI 3)] (mv cI cZ b (τ)) (some (.int (cnP n h L 3))) (mv cI cZ b (slN n h L τ)) := by
  have S := H.sol
  obtain ⟨H', hS, hs10, hs11, hs12⟩ := id S
  obtain ⟨W, h1, hgo, hfe, hfd, hh, hL, hZ⟩ := id H'
  have hn := W.1
  refine aM_of sX4_counted (lv0 := [some (.ref (b 0)), some (.int (nI 3)), none, none]) (j := 2) rfl rfl ?_
  intro pM eM sM mM argsM belowM methM cM AM C
  refine aw_iconst C dX4_counted_0 (x := nI 0) (by decide) ?_
  refine aw_istore_n C dX4_counted_1 St2 rfl ?_
  refine aw_aload_n C dX4_counted_2 Lk0 ?_
  refine aw_cV0v C dX4_counted_3 gX4_counted_X4_solve sX4_solve (rm := rmX4_solve) rfl recMod (c_X4_solveP H) ?_
  refine aw_iload_n C dX4_counted_6 Lk1 ?_
  refine aw_tableIn C dX4_counted_7 (tgt := 55) (by decide) (by decide) (off := 48) (by decide) (by decide) ?_
  refine aw_iconst C dX4_counted_55 (x := nI 0) (by decide) ?_
  refine aw_istore_n C dX4_counted_56 St3 rfl ?_
  have hl_57 : ∀ (j i : Nat) (hj : i + j = n), aW pM l eM rmX4_counted sM mM argsM belowM methM cM (MQ belowM (aQ D 9 b (mv cI cZ b (slN n h L τ)) (some (.int (cnP n h L 3))) AM) argsM sM 0 0 AM) D AM 0 0 9 b (mv cI cZ b (slN n h L τ)) 57 [some (.ref (b 0)), some (.int (nI 3)), some (.int (nI (fb_ct (anP n h L) i))), some (.int (nI i))] [] := by
    intro j
    induction j with
    | zero =>
      intro i hj
      have hin : i = n := by omega
      rw [hin]
      refine aw_iload_n C dX4_counted_57 Lk3 ?_
      refine aw_aload_n C dX4_counted_58 Lk0 ?_
      refine aw_gX4_keepers C  dX4_counted_59 (by decide +kernel) (by decide +kernel) ?_
      rw [h1]
      refine aw_icmp_ge C dX4_counted_62 (tgt := 94) (by decide) (fun c_62 => ?_) (fun c_62 => absurd (nI_le (Nat.le_refl _) (by omega)) c_62)
      refine aw_iload_n C dX4_counted_94 Lk2 ?_
      exact aw_iend C dX4_counted_95 rfl rfl
    | succ j ih =>
      intro i hj
      have hi : i < n := by omega
      obtain ⟨hsg, hsd, hsz⟩ := hS i hi
      refine aw_iload_n C dX4_counted_57 Lk3 ?_
      refine aw_aload_n C dX4_counted_58 Lk0 ?_
      refine aw_gX4_keepers C  dX4_counted_59 (by decide +kernel) (by decide +kernel) ?_
      rw [h1]
      refine aw_icmp_ge C dX4_counted_62 (tgt := 94) (by decide) (fun c_62 => absurd c_62 (nI_ge hi (by omega))) (fun c_62 => ?_)
      refine aw_iload_n C dX4_counted_65 Lk2 ?_
      refine aw_aload_n C dX4_counted_66 Lk0 ?_
      refine aw_gX4_gets C  dX4_counted_67 (by decide +kernel) (by decide +kernel) ?_
      refine aw_iload_n C dX4_counted_70 Lk3 ?_
      refine aw_ilX4n_4 C dX4_counted_71 (by omega) ?_
      rw [hsg]
      refine aw_aload_n C dX4_counted_72 Lk0 ?_
      refine aw_gX4_has C  dX4_counted_73 (by decide +kernel) (by decide +kernel) ?_
      refine aw_iload_n C dX4_counted_76 Lk3 ?_
      refine aw_ilX4n_1 C dX4_counted_77 (by omega) ?_
      rw [hh i hi]
      refine aw_icmp_ne C dX4_counted_78 (tgt := 85) (by decide) (fun c_78 => ?_) (fun c_78 => ?_)
      · skip
        have hb : anP n h L i = true := decide_eq_true c_78
        have hct : fb_ct (anP n h L) (i + 1) = fb_ct (anP n h L) i + 1 := by rw [fb_ct_succ, hb]; rfl
        refine aw_iconst C dX4_counted_85 (x := nI 1) (by decide) ?_
        refine aw_iadd C dX4_counted_86 ?_
        rw [nI_add, ← hct]
        refine aw_istore_n C dX4_counted_87 St2 rfl ?_
        refine aw_iinc C dX4_counted_88 Lk3 (nI_1 _) St3 rfl ?_
        refine aw_goto C dX4_counted_91 (tgt := 57) (by decide) ?_
        exact ih (i + 1) (by omega)
      · skip
        have hb : anP n h L i = false := decide_eq_false c_78
        have hct : fb_ct (anP n h L) (i + 1) = fb_ct (anP n h L) i + 0 := by rw [fb_ct_succ, hb]; rfl
        refine aw_iconst C dX4_counted_81 (x := nI 0) (by decide) ?_
        refine aw_goto C dX4_counted_82 (tgt := 86) (by decide) ?_
        refine aw_iadd C dX4_counted_86 ?_
        rw [nI_add, ← hct]
        refine aw_istore_n C dX4_counted_87 St2 rfl ?_
        refine aw_iinc C dX4_counted_88 Lk3 (nI_1 _) St3 rfl ?_
        refine aw_goto C dX4_counted_91 (tgt := 57) (by decide) ?_
        exact ih (i + 1) (by omega)
  exact hl_57 n 0 (by omega)
set_option maxHeartbeats 1000000 in
set_option maxRecDepth 100000 in
theorem c_X4_counted_4 {τ : MS} {n : Nat} {h : Nat → Nat} {L : Nat → List Nat} (H : MInv τ n h L) : aM l D (cTys cI cZ cR cJ) 9 b yX4_counted wsX4_counted rmX4_counted [.ref (b 0), .int (nI 4)] (mv cI cZ b (τ)) (some (.int (cnP n h L 4))) (mv cI cZ b (slN n h L τ)) := by
  have S := H.sol
  obtain ⟨H', hS, hs10, hs11, hs12⟩ := id S
  obtain ⟨W, h1, hgo, hfe, hfd, hh, hL, hZ⟩ := id H'
  have hn := W.1
  refine aM_of sX4_counted (lv0 := [some (.ref (b 0)), some (.int (nI 4)), none, none]) (j := 2) rfl rfl ?_
  intro pM eM sM mM argsM belowM methM cM AM C
  refine aw_iconst C dX4_counted_0 (x := nI 0) (by decide) ?_
  refine aw_istore_n C dX4_counted_1 St2 rfl ?_
  refine aw_aload_n C dX4_counted_2 Lk0 ?_
  refine aw_cV0v C dX4_counted_3 gX4_counted_X4_solve sX4_solve (rm := rmX4_solve) rfl recMod (c_X4_solveP H) ?_
  refine aw_iload_n C dX4_counted_6 Lk1 ?_
  refine aw_tableIn C dX4_counted_7 (tgt := 96) (by decide) (by decide) (off := 89) (by decide) (by decide) ?_
  refine aw_iconst C dX4_counted_96 (x := nI 0) (by decide) ?_
  refine aw_istore_n C dX4_counted_97 St3 rfl ?_
  have hl_98 : ∀ (j i : Nat) (hj : i + j = n), aW pM l eM rmX4_counted sM mM argsM belowM methM cM (MQ belowM (aQ D 9 b (mv cI cZ b (slN n h L τ)) (some (.int (cnP n h L 4))) AM) argsM sM 0 0 AM) D AM 0 0 9 b (mv cI cZ b (slN n h L τ)) 98 [some (.ref (b 0)), some (.int (nI 4)), some (.int (rSum (fun k => rkP h L k (gF n h L k)) i)), some (.int (nI i))] [] := by
    intro j
    induction j with
    | zero =>
      intro i hj
      have hin : i = n := by omega
      rw [hin]
      refine aw_iload_n C dX4_counted_98 Lk3 ?_
      refine aw_aload_n C dX4_counted_99 Lk0 ?_
      refine aw_gX4_keepers C  dX4_counted_100 (by decide +kernel) (by decide +kernel) ?_
      rw [h1]
      refine aw_icmp_ge C dX4_counted_103 (tgt := 126) (by decide) (fun c_103 => ?_) (fun c_103 => absurd (nI_le (Nat.le_refl _) (by omega)) c_103)
      refine aw_iload_n C dX4_counted_126 Lk2 ?_
      exact aw_iend C dX4_counted_127 rfl rfl
    | succ j ih =>
      intro i hj
      have hi : i < n := by omega
      obtain ⟨hsg, hsd, hsz⟩ := hS i hi
      refine aw_iload_n C dX4_counted_98 Lk3 ?_
      refine aw_aload_n C dX4_counted_99 Lk0 ?_
      refine aw_gX4_keepers C  dX4_counted_100 (by decide +kernel) (by decide +kernel) ?_
      rw [h1]
      refine aw_icmp_ge C dX4_counted_103 (tgt := 126) (by decide) (fun c_103 => absurd c_103 (nI_ge hi (by omega))) (fun c_103 => ?_)
      refine aw_iload_n C dX4_counted_106 Lk2 ?_
      refine aw_aload_n C dX4_counted_107 Lk0 ?_
      refine aw_iload_n C dX4_counted_108 Lk3 ?_
      refine aw_aload_n C dX4_counted_109 Lk0 ?_
      refine aw_gX4_gets C  dX4_counted_110 (by decide +kernel) (by decide +kernel) ?_
      refine aw_iload_n C dX4_counted_113 Lk3 ?_
      refine aw_ilX4n_4 C dX4_counted_114 (by omega) ?_
      rw [hsg]
      refine aw_cV2 C dX4_counted_115 gX4_counted_X4_rankOf sX4_rankOf (rm := rmX4_rankOf) rfl recMod (c_X4_rankP H' hi) ?_
      refine aw_iadd C dX4_counted_118 ?_
      refine aw_istore_n C dX4_counted_119 St2 rfl ?_
      refine aw_iinc C dX4_counted_120 Lk3 (nI_1 _) St3 rfl ?_
      refine aw_goto C dX4_counted_123 (tgt := 98) (by decide) ?_
      exact ih (i + 1) (by omega)
  exact hl_98 n 0 (by omega)
set_option maxHeartbeats 1000000 in
set_option maxRecDepth 100000 in
theorem c_X4_counted_5 {τ : MS} {n : Nat} {h : Nat → Nat} {L : Nat → List Nat} (H : MInv τ n h L) : aM l D (cTys cI cZ cR cJ) 9 b yX4_counted wsX4_counted rmX4_counted [.ref (b 0), .int (nI 5)] (mv cI cZ b (τ)) (some (.int (cnP n h L 5))) (mv cI cZ b (slN n h L τ)) := by
  have S := H.sol
  obtain ⟨H', hS, hs10, hs11, hs12⟩ := id S
  obtain ⟨W, h1, hgo, hfe, hfd, hh, hL, hZ⟩ := id H'
  have hn := W.1
  refine aM_of sX4_counted (lv0 := [some (.ref (b 0)), some (.int (nI 5)), none, none]) (j := 2) rfl rfl ?_
  intro pM eM sM mM argsM belowM methM cM AM C
  refine aw_iconst C dX4_counted_0 (x := nI 0) (by decide) ?_
  refine aw_istore_n C dX4_counted_1 St2 rfl ?_
  refine aw_aload_n C dX4_counted_2 Lk0 ?_
  refine aw_cV0v C dX4_counted_3 gX4_counted_X4_solve sX4_solve (rm := rmX4_solve) rfl recMod (c_X4_solveP H) ?_
  refine aw_iload_n C dX4_counted_6 Lk1 ?_
  refine aw_tableOut C dX4_counted_7 (tgt := 128) (by decide) (by decide) ?_
  refine aw_aload_n C dX4_counted_128 Lk0 ?_
  refine aw_gX4_greatest C  dX4_counted_129 (by decide +kernel) (by decide +kernel) ?_
  rw [hs12]
  exact aw_iend C dX4_counted_132 rfl rfl
theorem c_X4_counted {τ : MS} {n : Nat} {h : Nat → Nat} {L : Nat → List Nat} (H : MInv τ n h L) {w : Nat} (hw : w < 6) : aM l D (cTys cI cZ cR cJ) 9 b yX4_counted wsX4_counted rmX4_counted [.ref (b 0), .int (nI w)] (mv cI cZ b τ) (some (.int (cnP n h L w))) (mv cI cZ b (slN n h L τ)) := by
  rcases (show w = 0 ∨ w = 1 ∨ w = 2 ∨ w = 3 ∨ w = 4 ∨ w = 5 by omega) with rfl | rfl | rfl | rfl | rfl | rfl
  · exact c_X4_counted_0 H
  · exact c_X4_counted_1 H
  · exact c_X4_counted_2 H
  · exact c_X4_counted_3 H
  · exact c_X4_counted_4 H
  · exact c_X4_counted_5 H
set_option maxHeartbeats 1000000 in
set_option maxRecDepth 100000 in
theorem c_X4_count {τ : MS} {n : Nat} {h : Nat → Nat} {L : Nat → List Nat} (H : MInv τ n h L) {w : Nat} (hw : w < 6) : aM l D (cTys cI cZ cR cJ) 9 b yX4_count wsX4_count rmX4_count [.ref (b 0), .int (nI w)] (mv cI cZ b (τ)) (some (.int (cnP n h L w))) (mv cI cZ b (slN n h L (ms1 τ 0 (nI 0)))) := by
  obtain ⟨W, h1, hgo, hfe, hfd, hh, hL, hZ⟩ := H.thr (x := nI 0)
  have hn := W.1
  refine aM_of sX4_count (lv0 := [some (.ref (b 0)), some (.int (nI w))]) (j := 0) rfl rfl ?_
  intro pM eM sM mM argsM belowM methM cM AM C
  refine aw_aload_n C dX4_count_0 Lk0 ?_
  refine aw_iconst C dX4_count_1 (x := nI 0) (by decide) ?_
  refine aw_pX4_thrown C  dX4_count_2 (by decide +kernel) (by decide +kernel) ?_
  refine aw_iload_n C dX4_count_5 Lk1 ?_
  refine aw_iconst C dX4_count_6 (x := nI 0) (by decide) ?_
  refine aw_iconst C dX4_count_7 (x := nI 5) (by decide) ?_
  refine aw_cS3 C dX4_count_8 gX4_count_X4_isIn sX4_isIn (rm := rmX4_isIn) rfl c_X4_isIn ?_
  rw [inB_n (show w ≤ 5 by omega) (by decide)]
  refine aw_if_eq C dX4_count_11 (tgt := 22) (by decide) (fun c_11 => absurd c_11 (by decide)) (fun c_11 => ?_)
  refine aw_aload_n C dX4_count_14 Lk0 ?_
  refine aw_iload_n C dX4_count_15 Lk1 ?_
  refine aw_cV1 C dX4_count_16 gX4_count_X4_counted sX4_counted (rm := rmX4_counted) rfl recMod (c_X4_counted H.thr hw) ?_
  refine aw_goto C dX4_count_19 (tgt := 27) (by decide) ?_
  exact aw_iend C dX4_count_27 rfl rfl
set_option maxHeartbeats 1000000 in
set_option maxRecDepth 100000 in
theorem f_X4_count {τ : MS} {n : Nat} {h : Nat → Nat} {L : Nat → List Nat} (H : MInv τ n h L) {y : Int32} (hy : y.toInt < 0 ∨ 5 < y.toInt) : aM l D (cTys cI cZ cR cJ) 9 b yX4_count wsX4_count rmX4_count [.ref (b 0), .int y] (mv cI cZ b (τ)) (some (.int (nI 0))) (mv cI cZ b (ms1 (ms1 τ 0 (nI 0)) 0 (nI 1))) := by
  obtain ⟨W, h1, hgo, hfe, hfd, hh, hL, hZ⟩ := H.thr (x := nI 0)
  have hn := W.1
  refine aM_of sX4_count (lv0 := [some (.ref (b 0)), some (.int y)]) (j := 0) rfl rfl ?_
  intro pM eM sM mM argsM belowM methM cM AM C
  refine aw_aload_n C dX4_count_0 Lk0 ?_
  refine aw_iconst C dX4_count_1 (x := nI 0) (by decide) ?_
  refine aw_pX4_thrown C  dX4_count_2 (by decide +kernel) (by decide +kernel) ?_
  refine aw_iload_n C dX4_count_5 Lk1 ?_
  refine aw_iconst C dX4_count_6 (x := nI 0) (by decide) ?_
  refine aw_iconst C dX4_count_7 (x := nI 5) (by decide) ?_
  refine aw_cS3 C dX4_count_8 gX4_count_X4_isIn sX4_isIn (rm := rmX4_isIn) rfl c_X4_isIn ?_
  rw [isW_f hy]
  refine aw_if_eq C dX4_count_11 (tgt := 22) (by decide) (fun c_11 => ?_) (fun c_11 => absurd (by decide) c_11)
  refine aw_aload_n C dX4_count_22 Lk0 ?_
  refine aw_iconst C dX4_count_23 (x := nI 1) (by decide) ?_
  refine aw_cV1 C dX4_count_24 gX4_count_X4_fail sX4_fail (rm := rmX4_fail) rfl recMod c_X4_fail ?_
  exact aw_iend C dX4_count_27 rfl rfl
set_option maxHeartbeats 1000000 in
set_option maxRecDepth 100000 in
theorem c_X4_move {τ : MS} {n : Nat} {h : Nat → Nat} {L : Nat → List Nat} (H : MInv τ n h L) : aM l D (cTys cI cZ cR cJ) 9 b yX4_move wsX4_move rmX4_move [.ref (b 0)] (mv cI cZ b (τ)) (some (.int (nI (fb_ct (anP n h L) n)))) (mv cI cZ b (mmS n h L (slN n h L (ms1 τ 0 (nI 0))))) := by
  have S := H.thr (x := nI 0) |>.sol
  obtain ⟨H', hS, hs10, hs11, hs12⟩ := id S
  obtain ⟨W, h1, hgo, hfe, hfd, hh, hL, hZ⟩ := id H'
  have hn := W.1
  refine aM_of sX4_move (lv0 := [some (.ref (b 0)), none, none]) (j := 2) rfl rfl ?_
  intro pM eM sM mM argsM belowM methM cM AM C
  refine aw_aload_n C dX4_move_0 Lk0 ?_
  refine aw_iconst C dX4_move_1 (x := nI 0) (by decide) ?_
  refine aw_pX4_thrown C  dX4_move_2 (by decide +kernel) (by decide +kernel) ?_
  refine aw_aload_n C dX4_move_5 Lk0 ?_
  refine aw_cV0v C dX4_move_6 gX4_move_X4_solve sX4_solve (rm := rmX4_solve) rfl recMod (c_X4_solveP H.thr) ?_
  refine aw_iconst C dX4_move_9 (x := nI 0) (by decide) ?_
  refine aw_istore_n C dX4_move_10 St1 rfl ?_
  refine aw_iconst C dX4_move_11 (x := nI 0) (by decide) ?_
  refine aw_istore_n C dX4_move_12 St2 rfl ?_
  have hl_13 : ∀ (j i : Nat) (hj : i + j = n), aW pM l eM rmX4_move sM mM argsM belowM methM cM (MQ belowM (aQ D 9 b (mv cI cZ b (mmS n h L (slN n h L (ms1 τ 0 (nI 0))))) (some (.int (nI (fb_ct (anP n h L) n)))) AM) argsM sM 0 0 AM) D AM 0 0 9 b (mv cI cZ b (ms3 (slN n h L (ms1 τ 0 (nI 0))) 2 (lpF (anP n h L) (mvV n h L) ((slN n h L (ms1 τ 0 (nI 0))).2 2) (i)))) 13 [some (.ref (b 0)), some (.int (nI (fb_ct (anP n h L) i))), some (.int (nI i))] [] := by
    intro j
    induction j with
    | zero =>
      intro i hj
      have hin : i = n := by omega
      rw [hin]
      refine aw_iload_n C dX4_move_13 Lk2 ?_
      refine aw_aload_n C dX4_move_14 Lk0 ?_
      refine aw_gX4_keepers C  dX4_move_15 (by decide +kernel) (by decide +kernel) ?_
      rw [ms3_1, h1]
      refine aw_icmp_ge C dX4_move_18 (tgt := 65) (by decide) (fun c_18 => ?_) (fun c_18 => absurd (nI_le (Nat.le_refl _) (by omega)) c_18)
      refine aw_iconst C dX4_move_65 (x := nI 0) (by decide) ?_
      refine aw_istore_n C dX4_move_66 St2 rfl ?_
      have hl_67 : ∀ (j i : Nat) (hj : i + j = n), aW pM l eM rmX4_move sM mM argsM belowM methM cM (MQ belowM (aQ D 9 b (mv cI cZ b (mmS n h L (slN n h L (ms1 τ 0 (nI 0))))) (some (.int (nI (fb_ct (anP n h L) n)))) AM) argsM sM 0 0 AM) D AM 0 0 9 b (mv cI cZ b (ms3 (ms3 (slN n h L (ms1 τ 0 (nI 0))) 2 (lpF (anP n h L) (mvV n h L) ((slN n h L (ms1 τ 0 (nI 0))).2 2) (n))) 1 (lpF (fun _ => true) ((slN n h L (ms1 τ 0 (nI 0))).2 4) ((slN n h L (ms1 τ 0 (nI 0))).2 1) (i)))) 67 [some (.ref (b 0)), some (.int (nI (fb_ct (anP n h L) n))), some (.int (nI i))] [] := by
        intro j
        induction j with
        | zero =>
          intro i hj
          have hin : i = n := by omega
          rw [hin]
          refine aw_iload_n C dX4_move_67 Lk2 ?_
          refine aw_aload_n C dX4_move_68 Lk0 ?_
          refine aw_gX4_keepers C  dX4_move_69 (by decide +kernel) (by decide +kernel) ?_
          rw [ms3_1, ms3_1, h1]
          refine aw_icmp_ge C dX4_move_72 (tgt := 93) (by decide) (fun c_72 => ?_) (fun c_72 => absurd (nI_le (Nat.le_refl _) (by omega)) c_72)
          refine aw_iload_n C dX4_move_93 Lk1 ?_
          exact aw_iend C dX4_move_94 rfl rfl
        | succ j ih =>
          intro i hj
          have hi : i < n := by omega
          refine aw_iload_n C dX4_move_67 Lk2 ?_
          refine aw_aload_n C dX4_move_68 Lk0 ?_
          refine aw_gX4_keepers C  dX4_move_69 (by decide +kernel) (by decide +kernel) ?_
          rw [ms3_1, ms3_1, h1]
          refine aw_icmp_ge C dX4_move_72 (tgt := 93) (by decide) (fun c_72 => absurd c_72 (nI_ge hi (by omega))) (fun c_72 => ?_)
          refine aw_aload_n C dX4_move_75 Lk0 ?_
          refine aw_gX4_has C  dX4_move_76 (by decide +kernel) (by decide +kernel) ?_
          refine aw_iload_n C dX4_move_79 Lk2 ?_
          refine aw_aload_n C dX4_move_80 Lk0 ?_
          refine aw_gX4_gets C  dX4_move_81 (by decide +kernel) (by decide +kernel) ?_
          refine aw_iload_n C dX4_move_84 Lk2 ?_
          refine aw_ilX4n_4 C dX4_move_85 (by omega) ?_
          rw [show (ms3 (ms3 (slN n h L (ms1 τ 0 (nI 0))) 2 (lpF (anP n h L) (mvV n h L) ((slN n h L (ms1 τ 0 (nI 0))).2 2) (n))) 1 (lpF (fun _ => true) ((slN n h L (ms1 τ 0 (nI 0))).2 4) ((slN n h L (ms1 τ 0 (nI 0))).2 1) (i))).2 4 i = (slN n h L (ms1 τ 0 (nI 0))).2 4 i from rfl]
          refine aw_isX4n_1 C dX4_move_86 (by omega) ?_
          rw [ms3_s, lpF_t (p := fun _ => true) (val := (slN n h L (ms1 τ 0 (nI 0))).2 4) rfl]
          refine aw_iinc C dX4_move_87 Lk2 (nI_1 _) St2 rfl ?_
          refine aw_goto C dX4_move_90 (tgt := 67) (by decide) ?_
          exact ih (i + 1) (by omega)
      have hq := hl_67 n 0 (by omega)
      rw [lpF_0, show ms3 (ms3 (slN n h L (ms1 τ 0 (nI 0))) 2 (lpF (anP n h L) (mvV n h L) ((slN n h L (ms1 τ 0 (nI 0))).2 2) (n))) 1 ((slN n h L (ms1 τ 0 (nI 0))).2 1) = ms3 (slN n h L (ms1 τ 0 (nI 0))) 2 (lpF (anP n h L) (mvV n h L) ((slN n h L (ms1 τ 0 (nI 0))).2 2) (n)) from ms3_self (τ := ms3 (slN n h L (ms1 τ 0 (nI 0))) 2 (lpF (anP n h L) (mvV n h L) ((slN n h L (ms1 τ 0 (nI 0))).2 2) (n))) (k := 1)] at hq
      exact hq
    | succ j ih =>
      intro i hj
      have hi : i < n := by omega
      refine aw_iload_n C dX4_move_13 Lk2 ?_
      refine aw_aload_n C dX4_move_14 Lk0 ?_
      refine aw_gX4_keepers C  dX4_move_15 (by decide +kernel) (by decide +kernel) ?_
      rw [ms3_1, h1]
      refine aw_icmp_ge C dX4_move_18 (tgt := 65) (by decide) (fun c_18 => absurd c_18 (nI_ge hi (by omega))) (fun c_18 => ?_)
      refine aw_aload_n C dX4_move_21 Lk0 ?_
      refine aw_gX4_gets C  dX4_move_22 (by decide +kernel) (by decide +kernel) ?_
      refine aw_iload_n C dX4_move_25 Lk2 ?_
      refine aw_ilX4n_4 C dX4_move_26 (by omega) ?_
      rw [ms3_n (by decide), (hS i hi).1]
      refine aw_aload_n C dX4_move_27 Lk0 ?_
      refine aw_gX4_has C  dX4_move_28 (by decide +kernel) (by decide +kernel) ?_
      refine aw_iload_n C dX4_move_31 Lk2 ?_
      refine aw_ilX4n_1 C dX4_move_32 (by omega) ?_
      rw [ms3_n (by decide), hh i hi]
      refine aw_icmp_ne C dX4_move_33 (tgt := 39) (by decide) (fun c_33 => ?_) (fun c_33 => ?_)
      · skip
        have hb : anP n h L i = true := decide_eq_true c_33
        have hgn := GN_gF W hi
        have hne := (anP_iff W hi).mp hb
        obtain ⟨i1, i2⟩ := ixL_lt W hi hne
        have hlen := W.len hi
        have hct : fb_ct (anP n h L) (i + 1) = fb_ct (anP n h L) i + 1 := by rw [fb_ct_succ, hb]; rfl
        have hix : rFind (liF (ms3 (slN n h L (ms1 τ 0 (nI 0))) 2 (lpF (anP n h L) (mvV n h L) ((slN n h L (ms1 τ 0 (nI 0))).2 2) (i))) i) (gF n h L i) (L i).length 0 = mvV n h L i := by
          rw [hgn.1]
          exact rFind_at (h := fun p => (L i).getD p 0) (by omega) (fun p hp => ⟨(hL i hi).2 p hp, by have := ((W.2.2.2 i hi).1 p hp).1; omega⟩) ((GN_in W hi).resolve_left hne)
        refine aw_aload_n C dX4_move_39 Lk0 ?_
        refine aw_gX4_longs C  dX4_move_40 (by decide +kernel) (by decide +kernel) ?_
        refine aw_iload_n C dX4_move_43 Lk2 ?_
        refine aw_aload_n C dX4_move_44 Lk0 ?_
        refine aw_iload_n C dX4_move_45 Lk2 ?_
        refine aw_aload_n C dX4_move_46 Lk0 ?_
        refine aw_gX4_gets C  dX4_move_47 (by decide +kernel) (by decide +kernel) ?_
        refine aw_iload_n C dX4_move_50 Lk2 ?_
        refine aw_ilX4n_4 C dX4_move_51 (by omega) ?_
        rw [ms3_n (by decide), (hS i hi).1]
        refine aw_cV2 C dX4_move_52 gX4_move_X4_placeOf sX4_placeOf (rm := rmX4_placeOf) rfl recMod (c_X4_placeOf (len := (L i).length) (by omega) (by rw [ms3_2, lpF_at i (Nat.lt_irrefl i)]; exact (hL i hi).1) (by omega)) ?_
        rw [hix]
        refine aw_isX4n_2 C dX4_move_55 (by omega) ?_
        rw [ms3_s, lpF_t hb]
        refine aw_iinc C dX4_move_56 Lk1 (nI_1 _) St1 rfl ?_
        refine aw_iinc C dX4_move_59 Lk2 (nI_1 _) St2 rfl ?_
        refine aw_goto C dX4_move_62 (tgt := 13) (by decide) ?_
        have hq := ih (i + 1) (by omega)
        rw [hct] at hq
        exact hq
      · skip
        have hb : anP n h L i = false := decide_eq_false c_33
        have hct : fb_ct (anP n h L) (i + 1) = fb_ct (anP n h L) i := by rw [fb_ct_succ, hb]; rfl
        refine aw_goto C dX4_move_36 (tgt := 59) (by decide) ?_
        refine aw_iinc C dX4_move_59 Lk2 (nI_1 _) St2 rfl ?_
        refine aw_goto C dX4_move_62 (tgt := 13) (by decide) ?_
        have hq := ih (i + 1) (by omega)
        rw [hct, lpF_f hb] at hq
        exact hq
  have hq := hl_13 n 0 (by omega)
  rw [lpF_0, ms3_self] at hq
  exact hq
set_option maxHeartbeats 1000000 in
set_option maxRecDepth 100000 in
theorem c_X4_mean {τ : MS} {n : Nat} {h : Nat → Nat} {L : Nat → List Nat} (H : MInv τ n h L) : aM l D (cTys cI cZ cR cJ) 9 b yX4_mean wsX4_mean rmX4_mean [.ref (b 0)] (mv cI cZ b (τ)) (some (.double (if n = 0 then 0 else FP.ddiv (FP.i2d (rSum (FD (TL h n L) (t0A n) n) n)) (FP.i2d (nI n))))) (mv cI cZ b (slN n h L (ms1 τ 0 (nI 0)))) := by
  have S := H.thr (x := nI 0) |>.sol
  obtain ⟨H', hS, hs10, hs11, hs12⟩ := id S
  obtain ⟨W, h1, hgo, hfe, hfd, hh, hL, hZ⟩ := id H'
  have hn := W.1
  have hsum : rSum ((slN n h L (ms1 τ 0 (nI 0))).2 5) n = rSum (FD (TL h n L) (t0A n) n) n := rSum_cong n (fun k hk => (hS k hk).2.1)
  refine aM_of sX4_mean (lv0 := [some (.ref (b 0)), none, none]) (j := 2) rfl rfl ?_
  intro pM eM sM mM argsM belowM methM cM AM C
  refine aw_aload_n C dX4_mean_0 Lk0 ?_
  refine aw_iconst C dX4_mean_1 (x := nI 0) (by decide) ?_
  refine aw_pX4_thrown C  dX4_mean_2 (by decide +kernel) (by decide +kernel) ?_
  refine aw_aload_n C dX4_mean_5 Lk0 ?_
  refine aw_cV0v C dX4_mean_6 gX4_mean_X4_solve sX4_solve (rm := rmX4_solve) rfl recMod (c_X4_solveP H.thr) ?_
  refine aw_iconst C dX4_mean_9 (x := nI 0) (by decide) ?_
  refine aw_istore_n C dX4_mean_10 St1 rfl ?_
  refine aw_iconst C dX4_mean_11 (x := nI 0) (by decide) ?_
  refine aw_istore_n C dX4_mean_12 St2 rfl ?_
  have hl_13 : ∀ (j i : Nat) (hj : i + j = n), aW pM l eM rmX4_mean sM mM argsM belowM methM cM (MQ belowM (aQ D 9 b (mv cI cZ b (slN n h L (ms1 τ 0 (nI 0)))) (some (.double (if n = 0 then 0 else FP.ddiv (FP.i2d (rSum (FD (TL h n L) (t0A n) n) n)) (FP.i2d (nI n))))) AM) argsM sM 0 0 AM) D AM 0 0 9 b (mv cI cZ b (slN n h L (ms1 τ 0 (nI 0)))) 13 [some (.ref (b 0)), some (.int (rSum ((slN n h L (ms1 τ 0 (nI 0))).2 5) i)), some (.int (nI i))] [] := by
    intro j
    induction j with
    | zero =>
      intro i hj
      have hin : i = n := by omega
      rw [hin, hsum]
      refine aw_iload_n C dX4_mean_13 Lk2 ?_
      refine aw_aload_n C dX4_mean_14 Lk0 ?_
      refine aw_gX4_keepers C  dX4_mean_15 (by decide +kernel) (by decide +kernel) ?_
      rw [show (slN n h L (ms1 τ 0 (nI 0))).1 1 = nI n from h1]
      refine aw_icmp_ge C dX4_mean_18 (tgt := 36) (by decide) (fun c_18 => ?_) (fun c_18 => absurd (nI_le (Nat.le_refl _) (by omega)) c_18)
      refine aw_aload_n C dX4_mean_36 Lk0 ?_
      refine aw_gX4_keepers C  dX4_mean_37 (by decide +kernel) (by decide +kernel) ?_
      rw [show (slN n h L (ms1 τ 0 (nI 0))).1 1 = nI n from h1]
      refine aw_if_ne C dX4_mean_40 (tgt := 47) (by decide) (fun c_40 => ?_) (fun c_40 => ?_)
      · skip
        have h0 : n ≠ 0 := fun z9 => c_40 (congrArg nI z9)
        obtain ⟨sv, hs1, hs2⟩ := rSum_le (f := FD (TL h n L) (t0A n) n) (m := 10) n (fun k hk => FD_le W hk)
        refine aw_iload_n C dX4_mean_47 Lk1 ?_
        refine aw_i2d C dX4_mean_48 ?_
        refine aw_aload_n C dX4_mean_49 Lk0 ?_
        refine aw_gX4_keepers C  dX4_mean_50 (by decide +kernel) (by decide +kernel) ?_
        rw [show (slN n h L (ms1 τ 0 (nI 0))).1 1 = nI n from h1]
        refine aw_i2d C dX4_mean_53 ?_
        refine aw_ddiv C dX4_mean_54 (by rw [hs2]; exact mean_ok sv (by omega) n (by omega) h0) ?_
        exact aw_dend C dX4_mean_55 rfl (by rw [if_neg h0])
      · skip
        have h0 : n = 0 := nI_inj (by omega) (by omega) (Classical.not_not.mp c_40)
        refine aw_dconst0 C dX4_mean_43 rfl ?_
        refine aw_goto C dX4_mean_44 (tgt := 55) (by decide) ?_
        exact aw_dend C dX4_mean_55 rfl (by rw [if_pos h0])
    | succ j ih =>
      intro i hj
      have hi : i < n := by omega
      refine aw_iload_n C dX4_mean_13 Lk2 ?_
      refine aw_aload_n C dX4_mean_14 Lk0 ?_
      refine aw_gX4_keepers C  dX4_mean_15 (by decide +kernel) (by decide +kernel) ?_
      rw [show (slN n h L (ms1 τ 0 (nI 0))).1 1 = nI n from h1]
      refine aw_icmp_ge C dX4_mean_18 (tgt := 36) (by decide) (fun c_18 => absurd c_18 (nI_ge hi (by omega))) (fun c_18 => ?_)
      refine aw_iload_n C dX4_mean_21 Lk1 ?_
      refine aw_aload_n C dX4_mean_22 Lk0 ?_
      refine aw_gX4_rounds C  dX4_mean_23 (by decide +kernel) (by decide +kernel) ?_
      refine aw_iload_n C dX4_mean_26 Lk2 ?_
      refine aw_ilX4n_5 C dX4_mean_27 (by omega) ?_
      refine aw_iadd C dX4_mean_28 ?_
      refine aw_istore_n C dX4_mean_29 St1 rfl ?_
      refine aw_iinc C dX4_mean_30 Lk2 (nI_1 _) St2 rfl ?_
      refine aw_goto C dX4_mean_33 (tgt := 13) (by decide) ?_
      exact ih (i + 1) (by omega)
  exact hl_13 n 0 (by omega)
set_option maxHeartbeats 1000000 in
set_option maxRecDepth 100000 in
theorem c_X4_digest {τ : MS} {n : Nat} {h : Nat → Nat} {L : Nat → List Nat} (H : MInv τ n h L) : aM l D (cTys cI cZ cR cJ) 9 b yX4_digest wsX4_digest rmX4_digest [.ref (b 0)] (mv cI cZ b (τ)) (some (.long (dgA (dgP n h L) (dgF (cnP n h L) 1259 6) (n)))) (mv cI cZ b (itS (fun τ => bgN n h L (slN n h L τ)) (itS (slN n h L) (ms1 τ 0 (nI 0)) (6)) (n))) := by
  obtain ⟨W, h1, hgo, hfe, hfd, hh, hL, hZ⟩ := H.thr (x := nI 0)
  have hn := W.1
  have HA : ∀ m, MInv (itS (slN n h L) (ms1 τ 0 (nI 0)) (m)) n h L := MInv.its (fun τ H => H.sl) H.thr
  have HB : ∀ m, MInv (itS (fun τ => bgN n h L (slN n h L τ)) (itS (slN n h L) (ms1 τ 0 (nI 0)) (6)) (m)) n h L := MInv.its (fun τ H => H.sl.st) (HA 6)
  refine aM_of sX4_digest (lv0 := [some (.ref (b 0)), none, none, none, none]) (j := 4) rfl rfl ?_
  intro pM eM sM mM argsM belowM methM cM AM C
  refine aw_aload_n C dX4_digest_0 Lk0 ?_
  refine aw_iconst C dX4_digest_1 (x := nI 0) (by decide) ?_
  refine aw_pX4_thrown C  dX4_digest_2 (by decide +kernel) (by decide +kernel) ?_
  refine aw_ldc2 C dX4_digest_5 (x := 1259) (by decide +kernel) ?_
  refine aw_lstore_n C dX4_digest_8 Sl1 rfl ?_
  refine aw_iconst C dX4_digest_9 (x := nI 0) (by decide) ?_
  refine aw_istore_n C dX4_digest_10 St3 rfl ?_
  have hl_11 : ∀ (j i : Nat) (hj : i + j = 6), aW pM l eM rmX4_digest sM mM argsM belowM methM cM (MQ belowM (aQ D 9 b (mv cI cZ b (itS (fun τ => bgN n h L (slN n h L τ)) (itS (slN n h L) (ms1 τ 0 (nI 0)) (6)) (n))) (some (.long (dgA (dgP n h L) (dgF (cnP n h L) 1259 6) (n)))) AM) argsM sM 0 0 AM) D AM 0 0 9 b (mv cI cZ b (itS (slN n h L) (ms1 τ 0 (nI 0)) (i))) 11 [some (.ref (b 0)), some (.long (dgF (cnP n h L) 1259 i)), none, some (.int (nI i)), none] [] := by
    intro j
    induction j with
    | zero =>
      intro i hj
      have hin : i = 6 := by omega
      subst hin
      refine aw_iload_n C dX4_digest_11 Lk3 ?_
      refine aw_bipush C dX4_digest_12 (x := nI 6) (by decide) ?_
      refine aw_icmp_ge C dX4_digest_14 (tgt := 36) (by decide) (fun c_14 => ?_) (fun c_14 => absurd (by decide) c_14)
      refine aw_iconst C dX4_digest_36 (x := nI 0) (by decide) ?_
      refine aw_istore_n C dX4_digest_37 St3 rfl ?_
      have hl_38 : ∀ (j i : Nat) (hj : i + j = n), aW pM l eM rmX4_digest sM mM argsM belowM methM cM (MQ belowM (aQ D 9 b (mv cI cZ b (itS (fun τ => bgN n h L (slN n h L τ)) (itS (slN n h L) (ms1 τ 0 (nI 0)) (6)) (n))) (some (.long (dgA (dgP n h L) (dgF (cnP n h L) 1259 6) (n)))) AM) argsM sM 0 0 AM) D AM 0 0 9 b (mv cI cZ b (itS (fun τ => bgN n h L (slN n h L τ)) (itS (slN n h L) (ms1 τ 0 (nI 0)) (6)) (i))) 38 [some (.ref (b 0)), some (.long (dgA (dgP n h L) (dgF (cnP n h L) 1259 6) (i))), none, some (.int (nI i)), none] [] := by
        intro j
        induction j with
        | zero =>
          intro i hj
          have hin : i = n := by omega
          rw [hin]
          refine aw_iload_n C dX4_digest_38 Lk3 ?_
          refine aw_aload_n C dX4_digest_39 Lk0 ?_
          refine aw_gX4_keepers C  dX4_digest_40 (by decide +kernel) (by decide +kernel) ?_
          rw [(HB _).2.1]
          refine aw_icmp_ge C dX4_digest_43 (tgt := 144) (by decide) (fun c_43 => ?_) (fun c_43 => absurd (nI_le (Nat.le_refl _) (by omega)) c_43)
          refine aw_lload_n C dX4_digest_144 Lk1 ?_
          exact aw_lend C dX4_digest_145 rfl rfl
        | succ j ih =>
          intro i hj
          have hi : i < n := by omega
          obtain ⟨hl, hcell⟩ := (HB i).sol.1.2.2.2.2.2.2.1 i hi
          have hlen := W.len hi
          refine aw_iload_n C dX4_digest_38 Lk3 ?_
          refine aw_aload_n C dX4_digest_39 Lk0 ?_
          refine aw_gX4_keepers C  dX4_digest_40 (by decide +kernel) (by decide +kernel) ?_
          rw [(HB _).2.1]
          refine aw_icmp_ge C dX4_digest_43 (tgt := 144) (by decide) (fun c_43 => absurd c_43 (nI_ge hi (by omega))) (fun c_43 => ?_)
          refine aw_aload_n C dX4_digest_46 Lk0 ?_
          refine aw_cV0v C dX4_digest_47 gX4_digest_X4_solve sX4_solve (rm := rmX4_solve) rfl recMod (c_X4_solveP (HB i)) ?_
          refine aw_iconst C dX4_digest_50 (x := nI 0) (by decide) ?_
          refine aw_istore C dX4_digest_51 St4 rfl ?_
          have hl_53 : ∀ (j2 p : Nat) (hj2 : p + j2 = 6), aW pM l eM rmX4_digest sM mM argsM belowM methM cM (MQ belowM (aQ D 9 b (mv cI cZ b (itS (fun τ => bgN n h L (slN n h L τ)) (itS (slN n h L) (ms1 τ 0 (nI 0)) (6)) (n))) (some (.long (dgA (dgP n h L) (dgF (cnP n h L) 1259 6) (n)))) AM) argsM sM 0 0 AM) D AM 0 0 9 b (mv cI cZ b ((slN n h L (itS (fun τ => bgN n h L (slN n h L τ)) (itS (slN n h L) (ms1 τ 0 (nI 0)) (6)) (i))))) 53 [some (.ref (b 0)), some (.long (dgF (toP n h L i) (dgA (dgP n h L) (dgF (cnP n h L) 1259 6) (i)) p)), none, some (.int (nI i)), some (.int (nI p))] [] := by
            intro j2
            induction j2 with
            | zero =>
              intro p hj2
              have hin : p = 6 := by omega
              subst hin
              refine aw_iload C dX4_digest_53 Lk4 ?_
              refine aw_bipush C dX4_digest_55 (x := nI 6) (by decide) ?_
              refine aw_icmp_ge C dX4_digest_57 (tgt := 81) (by decide) (fun c_57 => ?_) (fun c_57 => absurd (by decide) c_57)
              refine aw_iconst C dX4_digest_81 (x := nI 0) (by decide) ?_
              refine aw_istore C dX4_digest_82 St4 rfl ?_
              have hl_84 : ∀ (j3 p : Nat) (hj3 : p + j3 = (L i).length), aW pM l eM rmX4_digest sM mM argsM belowM methM cM (MQ belowM (aQ D 9 b (mv cI cZ b (itS (fun τ => bgN n h L (slN n h L τ)) (itS (slN n h L) (ms1 τ 0 (nI 0)) (6)) (n))) (some (.long (dgA (dgP n h L) (dgF (cnP n h L) 1259 6) (n)))) AM) argsM sM 0 0 AM) D AM 0 0 9 b (mv cI cZ b ((slN n h L (itS (fun τ => bgN n h L (slN n h L τ)) (itS (slN n h L) (ms1 τ 0 (nI 0)) (6)) (i))))) 84 [some (.ref (b 0)), some (.long (dgF (fun p => nI ((L i).getD p 0)) (dgF (toP n h L i) (dgA (dgP n h L) (dgF (cnP n h L) 1259 6) (i)) 6) p)), none, some (.int (nI i)), some (.int (nI p))] [] := by
                intro j3
                induction j3 with
                | zero =>
                  intro p hj3
                  have hin : p = (L i).length := by omega
                  subst hin
                  refine aw_iload C dX4_digest_84 Lk4 ?_
                  refine aw_aload_n C dX4_digest_86 Lk0 ?_
                  refine aw_gX4_longs C  dX4_digest_87 (by decide +kernel) (by decide +kernel) ?_
                  refine aw_iload_n C dX4_digest_90 Lk3 ?_
                  refine aw_ilX4n_2 C dX4_digest_91 (by omega) ?_
                  rw [hl]
                  refine aw_icmp_ge C dX4_digest_92 (tgt := 116) (by decide) (fun c_92 => ?_) (fun c_92 => absurd (nI_le (Nat.le_refl _) (by omega)) c_92)
                  refine aw_aload_n C dX4_digest_116 Lk0 ?_
                  refine aw_cV0v C dX4_digest_117 gX4_digest_X4_begin sX4_begin (rm := rmX4_begin) rfl recMod (c_X4_beginP (HB i).sol.1.run) ?_
                  refine aw_aload_n C dX4_digest_120 Lk0 ?_
                  refine aw_cV0v C dX4_digest_121 gX4_digest_X4_aimAll sX4_aimAll (rm := rmX4_aimAll) rfl recMod (c_X4_aimAll (HB i).sol.1.run (th := t0A n) (fun q hq => eR_at hq)) ?_
                  refine aw_lload_n C dX4_digest_124 Lk1 ?_
                  refine aw_ldc2 C dX4_digest_125 (x := 31) (by decide +kernel) ?_
                  refine aw_lmul C dX4_digest_128 ?_
                  refine aw_aload_n C dX4_digest_129 Lk0 ?_
                  refine aw_gX4_aims C  dX4_digest_130 (by decide +kernel) (by decide +kernel) ?_
                  refine aw_iload_n C dX4_digest_133 Lk3 ?_
                  refine aw_ilX4n_7 C dX4_digest_134 (by omega) ?_
                  rw [mST_m, amF_in hi (t0A_t hi)]
                  refine aw_i2l C dX4_digest_135 ?_
                  refine aw_ladd C dX4_digest_136 ?_
                  refine aw_lstore_n C dX4_digest_137 Sl1 rfl ?_
                  refine aw_iinc C dX4_digest_138 Lk3 (nI_1 _) St3 rfl ?_
                  refine aw_goto C dX4_digest_141 (tgt := 38) (by decide) ?_
                  exact aW_wk (ih (i + 1) (by omega)) (by repeat' (first | exact Wk.n | apply Wk.k | apply Wk.d))
                | succ j3 ih3 =>
                  intro p hj3
                  refine aw_iload C dX4_digest_84 Lk4 ?_
                  refine aw_aload_n C dX4_digest_86 Lk0 ?_
                  refine aw_gX4_longs C  dX4_digest_87 (by decide +kernel) (by decide +kernel) ?_
                  refine aw_iload_n C dX4_digest_90 Lk3 ?_
                  refine aw_ilX4n_2 C dX4_digest_91 (by omega) ?_
                  rw [hl]
                  refine aw_icmp_ge C dX4_digest_92 (tgt := 116) (by decide) (fun c_92 => absurd c_92 (nI_ge (by omega) (by omega))) (fun c_92 => ?_)
                  refine aw_lload_n C dX4_digest_95 Lk1 ?_
                  refine aw_ldc2 C dX4_digest_96 (x := 31) (by decide +kernel) ?_
                  refine aw_lmul C dX4_digest_99 ?_
                  refine aw_aload_n C dX4_digest_100 Lk0 ?_
                  refine aw_iload_n C dX4_digest_101 Lk3 ?_
                  refine aw_iload C dX4_digest_102 Lk4 ?_
                  refine aw_cV2 C dX4_digest_104 gX4_digest_X4_li sX4_li (rm := rmX4_li) rfl recMod (c_X4_li (by omega)) ?_
                  rw [hcell p (by omega)]
                  refine aw_i2l C dX4_digest_107 ?_
                  refine aw_ladd C dX4_digest_108 ?_
                  refine aw_lstore_n C dX4_digest_109 Sl1 rfl ?_
                  refine aw_iinc C dX4_digest_110 Lk4 (nI_1 _) St4 rfl ?_
                  refine aw_goto C dX4_digest_113 (tgt := 84) (by decide) ?_
                  exact ih3 (p + 1) (by omega)
              exact hl_84 (L i).length 0 (by omega)
            | succ j2 ih2 =>
              intro p hj2
              refine aw_iload C dX4_digest_53 Lk4 ?_
              refine aw_bipush C dX4_digest_55 (x := nI 6) (by decide) ?_
              refine aw_icmp_ge C dX4_digest_57 (tgt := 81) (by decide) (fun c_57 => absurd c_57 (nI_ge (by omega) (by omega))) (fun c_57 => ?_)
              refine aw_lload_n C dX4_digest_60 Lk1 ?_
              refine aw_ldc2 C dX4_digest_61 (x := 31) (by decide +kernel) ?_
              refine aw_lmul C dX4_digest_64 ?_
              refine aw_aload_n C dX4_digest_65 Lk0 ?_
              refine aw_iload_n C dX4_digest_66 Lk3 ?_
              refine aw_iload C dX4_digest_67 Lk4 ?_
              refine aw_cV2 C dX4_digest_69 gX4_digest_X4_toldOf sX4_toldOf (rm := rmX4_toldOf) rfl recMod (c_X4_toldOf (HB i).sol hi (by omega)) ?_
              refine aw_i2l C dX4_digest_72 ?_
              refine aw_ladd C dX4_digest_73 ?_
              refine aw_lstore_n C dX4_digest_74 Sl1 rfl ?_
              refine aw_iinc C dX4_digest_75 Lk4 (nI_1 _) St4 rfl ?_
              refine aw_goto C dX4_digest_78 (tgt := 53) (by decide) ?_
              exact ih2 (p + 1) (by omega)
          exact hl_53 6 0 (by omega)
      exact hl_38 n 0 (by omega)
    | succ j ih =>
      intro i hj
      refine aw_iload_n C dX4_digest_11 Lk3 ?_
      refine aw_bipush C dX4_digest_12 (x := nI 6) (by decide) ?_
      refine aw_icmp_ge C dX4_digest_14 (tgt := 36) (by decide) (fun c_14 => absurd c_14 (nI_ge (by omega) (by omega))) (fun c_14 => ?_)
      refine aw_lload_n C dX4_digest_17 Lk1 ?_
      refine aw_ldc2 C dX4_digest_18 (x := 31) (by decide +kernel) ?_
      refine aw_lmul C dX4_digest_21 ?_
      refine aw_aload_n C dX4_digest_22 Lk0 ?_
      refine aw_iload_n C dX4_digest_23 Lk3 ?_
      refine aw_cV1 C dX4_digest_24 gX4_digest_X4_counted sX4_counted (rm := rmX4_counted) rfl recMod (c_X4_counted (HA i) (by omega)) ?_
      refine aw_i2l C dX4_digest_27 ?_
      refine aw_ladd C dX4_digest_28 ?_
      refine aw_lstore_n C dX4_digest_29 Sl1 rfl ?_
      refine aw_iinc C dX4_digest_30 Lk3 (nI_1 _) St3 rfl ?_
      refine aw_goto C dX4_digest_33 (tgt := 11) (by decide) ?_
      exact ih (i + 1) (by omega)
  exact hl_11 6 0 (by omega)
end MOD5
