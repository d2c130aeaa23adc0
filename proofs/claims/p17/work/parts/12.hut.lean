/-! HutRings: the reads -/
def HInv (σ : CS) (n : Nat) (h : Nat → Nat) (L : Nat → List Nat) : Prop :=
  WF n h L ∧ LandR σ n h L ∧ σ.1 (gR 0) = n ∧ σ.1 (dR 0) = n ∧ σ.1 (zR 0) = n ∧ σ.1 (mR 0) = n ∧ σ.2.2 (3 * 0) = -1 ∧ σ.2.2 (3 * 0 + 1) = nI (rn (TL h n L) (t0A n) n) ∧ σ.2.2 (3 * 0 + 2) = nI (rmR (TL h n L) (t0A n) n (rn (TL h n L) (t0A n) n)) ∧
  ∀ k, k < n → σ.2.1 (gR 0) k = FG (TL h n L) (t0A n) n h k ∧ σ.2.1 (dR 0) k = FD (TL h n L) (t0A n) n k ∧ σ.2.1 (zR 0) k = FZ (TL h n L) (t0A n) n k
def gotR (σ : CS) (k : Nat) : Int32 := rRank σ k (σ.2.1 (gR 0) k)
def hadB (σ : CS) (k : Nat) (x : Int32) : Bool := decide (rRank σ k x ≠ -1 ∧ rRank σ k x < gotR σ k)
def anoB (σ : CS) (k : Nat) : Bool := decide (σ.2.1 (gR 0) k ≠ σ.2.1 0 k)
section HUTS
variable {σ : CS} {n : Nat} {h : Nat → Nat} {L : Nat → List Nat}
/-- the sizes -/
theorem HInv.sz (H : HInv σ n h L) : n ≤ 10 ∧ σ.1 0 = n ∧ σ.1 (gR 0) = n ∧ σ.1 (dR 0) = n ∧ σ.1 (zR 0) = n ∧ σ.1 (mR 0) = n := ⟨H.1.1, H.2.1.1, H.2.2.1, H.2.2.2.1, H.2.2.2.2.1, H.2.2.2.2.2.1⟩
theorem HInv.ls (H : HInv σ n h L) {k : Nat} (hk : k < n) : σ.1 (kR k) = (L k).length ∧ (L k).length < n := ⟨(H.2.1.2.2.2 k hk).1, H.1.len hk⟩
theorem HInv.run (H : HInv σ n h L) : RunOK σ 0 n h (TL h n L) kR := by
  have W := H.1
  obtain ⟨hn, s0, sg, sd, sz, sm⟩ := H.sz
  obtain ⟨r1, r2, r3, r4⟩ := H.2.1
  refine ⟨by omega, hn, s0, r2, sg, sd, sz, sm, fun k hk => ?_⟩
  have hkn := W.len hk
  refine ⟨Or.inr ⟨by rw [H.2.2.2.2.2.2.1]; exact nI_ne_m1 (by omega), rfl⟩, by rw [TL_len]; exact (r4 k hk).1, by rw [TL_len]; omega, fun p hp => ?_⟩
  rw [TL_len] at hp
  rw [(r4 k hk).2 p hp, TL_at hp]
  have hx := ((W.2.2.2 k hk).1 p hp).1
  exact ⟨W.find r2 hx, (W.ow hx).1⟩
end HUTS
theorem ne_dec {a b : Int32} : (decide (a ≠ b) = true) ↔ a ≠ b := decide_eq_true_iff
section HUT
variable {l : Launch} {D : va_G} {cI cZ cR cJ : ClassId} {a : Nat → Nat}
set_option maxHeartbeats 4000000 in
set_option maxRecDepth 100000 in
theorem c_X3_needKeeper {σ : CS} {n : Nat} {h : Nat → Nat} {L : Nat → List Nat} (H : HInv σ n h L) {k : Nat} (hk : k < n) : aM l D (cTys cI cZ cR cJ) 49 a yX3_needKeeper wsX3_needKeeper rmX3_needKeeper [.ref (a 44), .int (nI k)] (cv cI cR a (σ)) (none) (cv cI cR a (σ)) := by
  obtain ⟨hn, s0, sg, sd, sz, sm⟩ := H.sz
  refine aM_of sX3_needKeeper (lv0 := [some (.ref (a 44)), some (.int (nI k))]) (j := 0) rfl rfl ?_
  intro pM eM sM mM argsM belowM methM cM AM C
  refine aw_iload_n C dX3_needKeeper_0 Lk1 ?_
  refine aw_if_lt C dX3_needKeeper_1 (tgt := 15) (by decide) (fun c_1 => absurd c_1 (nI_pos (by omega))) (fun c_1 => ?_)
  refine aw_iload_n C dX3_needKeeper_4 Lk1 ?_
  refine aw_aload_n C dX3_needKeeper_5 Lk0 ?_
  refine aw_gX3_land C  dX3_needKeeper_6 (by decide +kernel) (by decide +kernel) ?_
  refine aw_cV0 C dX3_needKeeper_9 gX3_needKeeper_X0_size sX0_size (rm := rmX0_size) rfl recLand c_X0_size ?_
  rw [s0]
  refine aw_icmp_lt C dX3_needKeeper_12 (tgt := 25) (by decide) (fun c_12 => ?_) (fun c_12 => absurd (nI_lt hk (by omega)) c_12)
  exact aw_vend C dX3_needKeeper_25 rfl rfl

set_option maxHeartbeats 4000000 in
set_option maxRecDepth 100000 in
theorem c_X3_needHut {σ : CS} {n : Nat} {h : Nat → Nat} {L : Nat → List Nat} (H : HInv σ n h L) {k : Nat} (hk : k < n) : aM l D (cTys cI cZ cR cJ) 49 a yX3_needHut wsX3_needHut rmX3_needHut [.ref (a 44), .int (nI k)] (cv cI cR a (σ)) (none) (cv cI cR a (σ)) := by
  obtain ⟨hn, s0, sg, sd, sz, sm⟩ := H.sz
  refine aM_of sX3_needHut (lv0 := [some (.ref (a 44)), some (.int (nI k))]) (j := 0) rfl rfl ?_
  intro pM eM sM mM argsM belowM methM cM AM C
  refine aw_iload_n C dX3_needHut_0 Lk1 ?_
  refine aw_if_lt C dX3_needHut_1 (tgt := 15) (by decide) (fun c_1 => absurd c_1 (nI_pos (by omega))) (fun c_1 => ?_)
  refine aw_iload_n C dX3_needHut_4 Lk1 ?_
  refine aw_aload_n C dX3_needHut_5 Lk0 ?_
  refine aw_gX3_land C  dX3_needHut_6 (by decide +kernel) (by decide +kernel) ?_
  refine aw_cV0 C dX3_needHut_9 gX3_needHut_X0_size sX0_size (rm := rmX0_size) rfl recLand c_X0_size ?_
  rw [s0]
  refine aw_icmp_lt C dX3_needHut_12 (tgt := 25) (by decide) (fun c_12 => ?_) (fun c_12 => absurd (nI_lt hk (by omega)) c_12)
  exact aw_vend C dX3_needHut_25 rfl rfl

set_option maxHeartbeats 4000000 in
set_option maxRecDepth 100000 in
theorem c_X3_needPlace {σ : CS} {j : Nat} (hj : j < 22) {i : Nat} (hs : σ.1 j ≤ 10) (hi : i < σ.1 j) : aM l D (cTys cI cZ cR cJ) 49 a yX3_needPlace wsX3_needPlace rmX3_needPlace [.ref (ra a j), .int (nI i)] (cv cI cR a (σ)) (none) (cv cI cR a (σ)) := by
  refine aM_of sX3_needPlace (lv0 := [some (.ref (ra a j)), some (.int (nI i))]) (j := 0) rfl rfl ?_
  intro pM eM sM mM argsM belowM methM cM AM C
  refine aw_iload_n C dX3_needPlace_0 Lk1 ?_
  refine aw_if_lt C dX3_needPlace_1 (tgt := 12) (by decide) (fun c_1 => absurd c_1 (nI_pos (by omega))) (fun c_1 => ?_)
  refine aw_iload_n C dX3_needPlace_4 Lk1 ?_
  refine aw_aload_n C dX3_needPlace_5 Lk0 ?_
  refine aw_cV0 C dX3_needPlace_6 gX3_needPlace_X1_size sX1_size (rm := rmX1_size) rfl (recRow hj) (c_X1_size hj) ?_
  refine aw_icmp_lt C dX3_needPlace_9 (tgt := 22) (by decide) (fun c_9 => ?_) (fun c_9 => absurd (nI_lt hi (by omega)) c_9)
  exact aw_vend C dX3_needPlace_22 rfl rfl

set_option maxHeartbeats 4000000 in
set_option maxRecDepth 100000 in
theorem c_X3_rankOfGot {σ : CS} {n : Nat} {h : Nat → Nat} {L : Nat → List Nat} (H : HInv σ n h L) {k : Nat} (hk : k < n) : aM l D (cTys cI cZ cR cJ) 49 a yX3_rankOfGot wsX3_rankOfGot rmX3_rankOfGot [.ref (a 44), .int (nI k)] (cv cI cR a (σ)) (some (.int (gotR σ k))) (cv cI cR a (σ)) := by
  obtain ⟨hn, s0, sg, sd, sz, sm⟩ := H.sz
  refine aM_of sX3_rankOfGot (lv0 := [some (.ref (a 44)), some (.int (nI k))]) (j := 0) rfl rfl ?_
  intro pM eM sM mM argsM belowM methM cM AM C
  refine aw_aload_n C dX3_rankOfGot_0 Lk0 ?_
  refine aw_gX3_land C  dX3_rankOfGot_1 (by decide +kernel) (by decide +kernel) ?_
  refine aw_iload_n C dX3_rankOfGot_4 Lk1 ?_
  refine aw_aload_n C dX3_rankOfGot_5 Lk0 ?_
  refine aw_gX3_trade C  dX3_rankOfGot_6 (by decide +kernel) (by decide +kernel) ?_
  refine aw_iload_n C dX3_rankOfGot_9 Lk1 ?_
  refine aw_cV1 C dX3_rankOfGot_10 gX3_rankOfGot_X2_hutFor sX2_hutFor (rm := rmX2_hutFor) rfl (recTr (show 0 < 2 by decide)) (c_X2_hutFor (show 0 < 2 by decide) (by omega) (by omega)) ?_
  refine aw_cV2 C dX3_rankOfGot_13 gX3_rankOfGot_X0_rankOf sX0_rankOf (rm := rmX0_rankOf) rfl recLand (c_X0_rankOf (by omega) (by omega) (by omega) (by have := (H.ls hk).2; rw [(H.ls hk).1]; omega)) ?_
  exact aw_iend C dX3_rankOfGot_16 rfl rfl

set_option maxHeartbeats 4000000 in
set_option maxRecDepth 100000 in
theorem c_X3_keepersWithAnotherHut {σ : CS} {n : Nat} {h : Nat → Nat} {L : Nat → List Nat} (H : HInv σ n h L) : aM l D (cTys cI cZ cR cJ) 49 a yX3_keepersWithAnotherHut wsX3_keepersWithAnotherHut rmX3_keepersWithAnotherHut [.ref (a 44)] (cv cI cR a (σ)) (some (.int (nI (fb_ct (anoB σ) n)))) (cv cI cR a (σ)) := by
  obtain ⟨hn, s0, sg, sd, sz, sm⟩ := H.sz
  refine aM_of sX3_keepersWithAnotherHut (lv0 := [some (.ref (a 44)), none, none]) (j := 2) rfl rfl ?_
  intro pM eM sM mM argsM belowM methM cM AM C
  refine aw_iconst C dX3_keepersWithAnotherHut_0 (x := nI 0) (by decide) ?_
  refine aw_istore_n C dX3_keepersWithAnotherHut_1 St1 rfl ?_
  refine aw_iconst C dX3_keepersWithAnotherHut_2 (x := nI 0) (by decide) ?_
  refine aw_istore_n C dX3_keepersWithAnotherHut_3 St2 rfl ?_
  have hl_4 : ∀ (j i : Nat) (hj : i + j = n), aW pM l eM rmX3_keepersWithAnotherHut sM mM argsM belowM methM cM (MQ belowM (aQ D 49 a (cv cI cR a (σ)) (some (.int (nI (fb_ct (anoB σ) n)))) AM) argsM sM 0 0 AM) D AM 0 0 49 a (cv cI cR a (σ)) 4 [some (.ref (a 44)), some (.int (nI (fb_ct (anoB σ) i))), some (.int (nI i))] [] := by
    intro j
    induction j with
    | zero =>
      intro i hj
      refine aw_iload_n C dX3_keepersWithAnotherHut_4 Lk2 ?_
      refine aw_aload_n C dX3_keepersWithAnotherHut_5 Lk0 ?_
      refine aw_gX3_land C  dX3_keepersWithAnotherHut_6 (by decide +kernel) (by decide +kernel) ?_
      refine aw_cV0 C dX3_keepersWithAnotherHut_9 gX3_keepersWithAnotherHut_X0_size sX0_size (rm := rmX0_size) rfl recLand c_X0_size ?_
      rw [s0]
      refine aw_icmp_ge C dX3_keepersWithAnotherHut_12 (tgt := 43) (by decide) (fun c_12 => ?_) (fun c_12 => absurd (nI_le (by omega) (by omega)) c_12)
      refine aw_iload_n C dX3_keepersWithAnotherHut_43 Lk1 ?_
      exact aw_iend C dX3_keepersWithAnotherHut_44 rfl (by rw [show i = n by omega])
    | succ j ih =>
      intro i hj
      have hi : i < n := by omega
      refine aw_iload_n C dX3_keepersWithAnotherHut_4 Lk2 ?_
      refine aw_aload_n C dX3_keepersWithAnotherHut_5 Lk0 ?_
      refine aw_gX3_land C  dX3_keepersWithAnotherHut_6 (by decide +kernel) (by decide +kernel) ?_
      refine aw_cV0 C dX3_keepersWithAnotherHut_9 gX3_keepersWithAnotherHut_X0_size sX0_size (rm := rmX0_size) rfl recLand c_X0_size ?_
      rw [s0]
      refine aw_icmp_ge C dX3_keepersWithAnotherHut_12 (tgt := 43) (by decide) (fun c_12 => absurd c_12 (nI_ge hi (by omega))) (fun c_12 => ?_)
      refine aw_aload_n C dX3_keepersWithAnotherHut_15 Lk0 ?_
      refine aw_gX3_trade C  dX3_keepersWithAnotherHut_16 (by decide +kernel) (by decide +kernel) ?_
      refine aw_iload_n C dX3_keepersWithAnotherHut_19 Lk2 ?_
      refine aw_cV1 C dX3_keepersWithAnotherHut_20 gX3_keepersWithAnotherHut_X2_hutFor sX2_hutFor (rm := rmX2_hutFor) rfl (recTr (show 0 < 2 by decide)) (c_X2_hutFor (show 0 < 2 by decide) (by omega) (by omega)) ?_
      refine aw_aload_n C dX3_keepersWithAnotherHut_23 Lk0 ?_
      refine aw_gX3_land C  dX3_keepersWithAnotherHut_24 (by decide +kernel) (by decide +kernel) ?_
      refine aw_iload_n C dX3_keepersWithAnotherHut_27 Lk2 ?_
      refine aw_cV1 C dX3_keepersWithAnotherHut_28 gX3_keepersWithAnotherHut_X0_hutOf sX0_hutOf (rm := rmX0_hutOf) rfl recLand (c_X0_hutOf (by omega) (by omega)) ?_
      refine aw_icmp_eq C dX3_keepersWithAnotherHut_31 (tgt := 37) (by decide) (fun c_31 => ?_) (fun c_31 => ?_)
      · skip
        refine aw_iinc C dX3_keepersWithAnotherHut_37 Lk2 (nI_1 _) St2 rfl ?_
        refine aw_goto C dX3_keepersWithAnotherHut_40 (tgt := 4) (by decide) ?_
        have hq := ih (i + 1) (by omega)
        rw [show fb_ct (anoB σ) (i + 1) = fb_ct (anoB σ) i by (rw [fb_ct_succ, show anoB σ i = false from decide_eq_false (fun q => q c_31)]; rfl)] at hq
        exact hq
      · skip
        refine aw_iinc C dX3_keepersWithAnotherHut_34 Lk1 (nI_1 _) St1 rfl ?_
        refine aw_iinc C dX3_keepersWithAnotherHut_37 Lk2 (nI_1 _) St2 rfl ?_
        refine aw_goto C dX3_keepersWithAnotherHut_40 (tgt := 4) (by decide) ?_
        have hq := ih (i + 1) (by omega)
        rw [show fb_ct (anoB σ) (i + 1) = fb_ct (anoB σ) i + 1 by (rw [fb_ct_succ, show anoB σ i = true from decide_eq_true c_31]; rfl)] at hq
        exact hq
  exact hl_4 n 0 (by omega)
set_option maxHeartbeats 4000000 in
set_option maxRecDepth 100000 in
theorem c_X3_ranksAdded {σ : CS} {n : Nat} {h : Nat → Nat} {L : Nat → List Nat} (H : HInv σ n h L) : aM l D (cTys cI cZ cR cJ) 49 a yX3_ranksAdded wsX3_ranksAdded rmX3_ranksAdded [.ref (a 44)] (cv cI cR a (σ)) (some (.int (rSum (gotR σ) n))) (cv cI cR a (σ)) := by
  obtain ⟨hn, s0, sg, sd, sz, sm⟩ := H.sz
  refine aM_of sX3_ranksAdded (lv0 := [some (.ref (a 44)), none, none]) (j := 2) rfl rfl ?_
  intro pM eM sM mM argsM belowM methM cM AM C
  refine aw_iconst C dX3_ranksAdded_0 (x := nI 0) (by decide) ?_
  refine aw_istore_n C dX3_ranksAdded_1 St1 rfl ?_
  refine aw_iconst C dX3_ranksAdded_2 (x := nI 0) (by decide) ?_
  refine aw_istore_n C dX3_ranksAdded_3 St2 rfl ?_
  have hl_4 : ∀ (j i : Nat) (hj : i + j = n), aW pM l eM rmX3_ranksAdded sM mM argsM belowM methM cM (MQ belowM (aQ D 49 a (cv cI cR a (σ)) (some (.int (rSum (gotR σ) n))) AM) argsM sM 0 0 AM) D AM 0 0 49 a (cv cI cR a (σ)) 4 [some (.ref (a 44)), some (.int (rSum (gotR σ) i)), some (.int (nI i))] [] := by
    intro j
    induction j with
    | zero =>
      intro i hj
      refine aw_iload_n C dX3_ranksAdded_4 Lk2 ?_
      refine aw_aload_n C dX3_ranksAdded_5 Lk0 ?_
      refine aw_gX3_land C  dX3_ranksAdded_6 (by decide +kernel) (by decide +kernel) ?_
      refine aw_cV0 C dX3_ranksAdded_9 gX3_ranksAdded_X0_size sX0_size (rm := rmX0_size) rfl recLand c_X0_size ?_
      rw [s0]
      refine aw_icmp_ge C dX3_ranksAdded_12 (tgt := 29) (by decide) (fun c_12 => ?_) (fun c_12 => absurd (nI_le (by omega) (by omega)) c_12)
      refine aw_iload_n C dX3_ranksAdded_29 Lk1 ?_
      exact aw_iend C dX3_ranksAdded_30 rfl (by rw [show i = n by omega])
    | succ j ih =>
      intro i hj
      have hi : i < n := by omega
      refine aw_iload_n C dX3_ranksAdded_4 Lk2 ?_
      refine aw_aload_n C dX3_ranksAdded_5 Lk0 ?_
      refine aw_gX3_land C  dX3_ranksAdded_6 (by decide +kernel) (by decide +kernel) ?_
      refine aw_cV0 C dX3_ranksAdded_9 gX3_ranksAdded_X0_size sX0_size (rm := rmX0_size) rfl recLand c_X0_size ?_
      rw [s0]
      refine aw_icmp_ge C dX3_ranksAdded_12 (tgt := 29) (by decide) (fun c_12 => absurd c_12 (nI_ge hi (by omega))) (fun c_12 => ?_)
      refine aw_iload_n C dX3_ranksAdded_15 Lk1 ?_
      refine aw_aload_n C dX3_ranksAdded_16 Lk0 ?_
      refine aw_iload_n C dX3_ranksAdded_17 Lk2 ?_
      refine aw_cV1 C dX3_ranksAdded_18 gX3_ranksAdded_X3_rankOfGot sX3_rankOfGot (rm := rmX3_rankOfGot) rfl recHut (c_X3_rankOfGot H hi) ?_
      refine aw_iadd C dX3_ranksAdded_21 ?_
      refine aw_istore_n C dX3_ranksAdded_22 St1 rfl ?_
      refine aw_iinc C dX3_ranksAdded_23 Lk2 (nI_1 _) St2 rfl ?_
      refine aw_goto C dX3_ranksAdded_26 (tgt := 4) (by decide) ?_
      exact ih (i + 1) (by omega)
  exact hl_4 n 0 (by omega)
set_option maxHeartbeats 4000000 in
set_option maxRecDepth 100000 in
theorem c_X3_told_0 {σ : CS} {n : Nat} {h : Nat → Nat} {L : Nat → List Nat} (H : HInv σ n h L) {k : Nat} (hk : k < n) : aM l D (cTys cI cZ cR cJ) 49 a yX3_told wsX3_told rmX3_told [.ref (a 44), .int (nI k), .int (nI 0)] (cv cI cR a (σ)) (some (.int (σ.2.1 0 k))) (cv cI cR a (σ)) := by
  obtain ⟨hn, s0, sg, sd, sz, sm⟩ := H.sz
  refine aM_of sX3_told (lv0 := [some (.ref (a 44)), some (.int (nI k)), some (.int (nI 0))]) (j := 0) rfl rfl ?_
  intro pM eM sM mM argsM belowM methM cM AM C
  refine aw_aload_n C dX3_told_0 Lk0 ?_
  refine aw_iload_n C dX3_told_1 Lk1 ?_
  refine aw_cV1v C dX3_told_2 gX3_told_X3_needKeeper sX3_needKeeper (rm := rmX3_needKeeper) rfl recHut (c_X3_needKeeper H hk) ?_
  refine aw_iload_n C dX3_told_5 Lk2 ?_
  refine aw_tableIn C dX3_told_6 (tgt := 44) (by decide) (by decide) (off := 38) (by decide) (by decide) ?_
  refine aw_aload_n C dX3_told_44 Lk0 ?_
  refine aw_gX3_land C  dX3_told_45 (by decide +kernel) (by decide +kernel) ?_
  refine aw_iload_n C dX3_told_48 Lk1 ?_
  refine aw_cV1 C dX3_told_49 gX3_told_X0_hutOf sX0_hutOf (rm := rmX0_hutOf) rfl recLand (c_X0_hutOf (by omega) (by omega)) ?_
  exact aw_iend C dX3_told_52 rfl rfl
set_option maxHeartbeats 4000000 in
set_option maxRecDepth 100000 in
theorem c_X3_told_1 {σ : CS} {n : Nat} {h : Nat → Nat} {L : Nat → List Nat} (H : HInv σ n h L) {k : Nat} (hk : k < n) : aM l D (cTys cI cZ cR cJ) 49 a yX3_told wsX3_told rmX3_told [.ref (a 44), .int (nI k), .int (nI 1)] (cv cI cR a (σ)) (some (.int (nI (σ.1 (kR k))))) (cv cI cR a (σ)) := by
  obtain ⟨hn, s0, sg, sd, sz, sm⟩ := H.sz
  refine aM_of sX3_told (lv0 := [some (.ref (a 44)), some (.int (nI k)), some (.int (nI 1))]) (j := 0) rfl rfl ?_
  intro pM eM sM mM argsM belowM methM cM AM C
  refine aw_aload_n C dX3_told_0 Lk0 ?_
  refine aw_iload_n C dX3_told_1 Lk1 ?_
  refine aw_cV1v C dX3_told_2 gX3_told_X3_needKeeper sX3_needKeeper (rm := rmX3_needKeeper) rfl recHut (c_X3_needKeeper H hk) ?_
  refine aw_iload_n C dX3_told_5 Lk2 ?_
  refine aw_tableIn C dX3_told_6 (tgt := 53) (by decide) (by decide) (off := 47) (by decide) (by decide) ?_
  refine aw_aload_n C dX3_told_53 Lk0 ?_
  refine aw_gX3_land C  dX3_told_54 (by decide +kernel) (by decide +kernel) ?_
  refine aw_iload_n C dX3_told_57 Lk1 ?_
  refine aw_cV1 C dX3_told_58 gX3_told_X0_likesOf sX0_likesOf (rm := rmX0_likesOf) rfl recLand (c_X0_likesOf (by omega)) ?_
  refine aw_cV0 C dX3_told_61 gX3_told_X1_size sX1_size (rm := rmX1_size) rfl (recRow (kR_lt (by omega))) (c_X1_size (kR_lt (by omega))) ?_
  exact aw_iend C dX3_told_64 rfl rfl
set_option maxHeartbeats 4000000 in
set_option maxRecDepth 100000 in
theorem c_X3_told_2 {σ : CS} {n : Nat} {h : Nat → Nat} {L : Nat → List Nat} (H : HInv σ n h L) {k : Nat} (hk : k < n) : aM l D (cTys cI cZ cR cJ) 49 a yX3_told wsX3_told rmX3_told [.ref (a 44), .int (nI k), .int (nI 2)] (cv cI cR a (σ)) (some (.int (σ.2.1 (gR 0) k))) (cv cI cR a (σ)) := by
  obtain ⟨hn, s0, sg, sd, sz, sm⟩ := H.sz
  refine aM_of sX3_told (lv0 := [some (.ref (a 44)), some (.int (nI k)), some (.int (nI 2))]) (j := 0) rfl rfl ?_
  intro pM eM sM mM argsM belowM methM cM AM C
  refine aw_aload_n C dX3_told_0 Lk0 ?_
  refine aw_iload_n C dX3_told_1 Lk1 ?_
  refine aw_cV1v C dX3_told_2 gX3_told_X3_needKeeper sX3_needKeeper (rm := rmX3_needKeeper) rfl recHut (c_X3_needKeeper H hk) ?_
  refine aw_iload_n C dX3_told_5 Lk2 ?_
  refine aw_tableIn C dX3_told_6 (tgt := 65) (by decide) (by decide) (off := 59) (by decide) (by decide) ?_
  refine aw_aload_n C dX3_told_65 Lk0 ?_
  refine aw_gX3_trade C  dX3_told_66 (by decide +kernel) (by decide +kernel) ?_
  refine aw_iload_n C dX3_told_69 Lk1 ?_
  refine aw_cV1 C dX3_told_70 gX3_told_X2_hutFor sX2_hutFor (rm := rmX2_hutFor) rfl (recTr (show 0 < 2 by decide)) (c_X2_hutFor (show 0 < 2 by decide) (by omega) (by omega)) ?_
  exact aw_iend C dX3_told_73 rfl rfl
set_option maxHeartbeats 4000000 in
set_option maxRecDepth 100000 in
theorem c_X3_told_3 {σ : CS} {n : Nat} {h : Nat → Nat} {L : Nat → List Nat} (H : HInv σ n h L) {k : Nat} (hk : k < n) : aM l D (cTys cI cZ cR cJ) 49 a yX3_told wsX3_told rmX3_told [.ref (a 44), .int (nI k), .int (nI 3)] (cv cI cR a (σ)) (some (.int (σ.2.1 (dR 0) k))) (cv cI cR a (σ)) := by
  obtain ⟨hn, s0, sg, sd, sz, sm⟩ := H.sz
  refine aM_of sX3_told (lv0 := [some (.ref (a 44)), some (.int (nI k)), some (.int (nI 3))]) (j := 0) rfl rfl ?_
  intro pM eM sM mM argsM belowM methM cM AM C
  refine aw_aload_n C dX3_told_0 Lk0 ?_
  refine aw_iload_n C dX3_told_1 Lk1 ?_
  refine aw_cV1v C dX3_told_2 gX3_told_X3_needKeeper sX3_needKeeper (rm := rmX3_needKeeper) rfl recHut (c_X3_needKeeper H hk) ?_
  refine aw_iload_n C dX3_told_5 Lk2 ?_
  refine aw_tableIn C dX3_told_6 (tgt := 74) (by decide) (by decide) (off := 68) (by decide) (by decide) ?_
  refine aw_aload_n C dX3_told_74 Lk0 ?_
  refine aw_gX3_trade C  dX3_told_75 (by decide +kernel) (by decide +kernel) ?_
  refine aw_iload_n C dX3_told_78 Lk1 ?_
  refine aw_cV1 C dX3_told_79 gX3_told_X2_roundOf sX2_roundOf (rm := rmX2_roundOf) rfl (recTr (show 0 < 2 by decide)) (c_X2_roundOf (show 0 < 2 by decide) (by omega) (by omega)) ?_
  exact aw_iend C dX3_told_82 rfl rfl
set_option maxHeartbeats 4000000 in
set_option maxRecDepth 100000 in
theorem c_X3_told_4 {σ : CS} {n : Nat} {h : Nat → Nat} {L : Nat → List Nat} (H : HInv σ n h L) {k : Nat} (hk : k < n) : aM l D (cTys cI cZ cR cJ) 49 a yX3_told wsX3_told rmX3_told [.ref (a 44), .int (nI k), .int (nI 4)] (cv cI cR a (σ)) (some (.int (σ.2.1 (zR 0) k))) (cv cI cR a (σ)) := by
  obtain ⟨hn, s0, sg, sd, sz, sm⟩ := H.sz
  refine aM_of sX3_told (lv0 := [some (.ref (a 44)), some (.int (nI k)), some (.int (nI 4))]) (j := 0) rfl rfl ?_
  intro pM eM sM mM argsM belowM methM cM AM C
  refine aw_aload_n C dX3_told_0 Lk0 ?_
  refine aw_iload_n C dX3_told_1 Lk1 ?_
  refine aw_cV1v C dX3_told_2 gX3_told_X3_needKeeper sX3_needKeeper (rm := rmX3_needKeeper) rfl recHut (c_X3_needKeeper H hk) ?_
  refine aw_iload_n C dX3_told_5 Lk2 ?_
  refine aw_tableIn C dX3_told_6 (tgt := 83) (by decide) (by decide) (off := 77) (by decide) (by decide) ?_
  refine aw_aload_n C dX3_told_83 Lk0 ?_
  refine aw_gX3_trade C  dX3_told_84 (by decide +kernel) (by decide +kernel) ?_
  refine aw_iload_n C dX3_told_87 Lk1 ?_
  refine aw_cV1 C dX3_told_88 gX3_told_X2_ringSizeOf sX2_ringSizeOf (rm := rmX2_ringSizeOf) rfl (recTr (show 0 < 2 by decide)) (c_X2_ringSizeOf (show 0 < 2 by decide) (by omega) (by omega)) ?_
  exact aw_iend C dX3_told_91 rfl rfl
set_option maxHeartbeats 4000000 in
set_option maxRecDepth 100000 in
theorem c_X3_told_5 {σ : CS} {n : Nat} {h : Nat → Nat} {L : Nat → List Nat} (H : HInv σ n h L) {k : Nat} (hk : k < n) : aM l D (cTys cI cZ cR cJ) 49 a yX3_told wsX3_told rmX3_told [.ref (a 44), .int (nI k), .int (nI 5)] (cv cI cR a (σ)) (some (.int (gotR σ k))) (cv cI cR a (σ)) := by
  obtain ⟨hn, s0, sg, sd, sz, sm⟩ := H.sz
  refine aM_of sX3_told (lv0 := [some (.ref (a 44)), some (.int (nI k)), some (.int (nI 5))]) (j := 0) rfl rfl ?_
  intro pM eM sM mM argsM belowM methM cM AM C
  refine aw_aload_n C dX3_told_0 Lk0 ?_
  refine aw_iload_n C dX3_told_1 Lk1 ?_
  refine aw_cV1v C dX3_told_2 gX3_told_X3_needKeeper sX3_needKeeper (rm := rmX3_needKeeper) rfl recHut (c_X3_needKeeper H hk) ?_
  refine aw_iload_n C dX3_told_5 Lk2 ?_
  refine aw_tableIn C dX3_told_6 (tgt := 92) (by decide) (by decide) (off := 86) (by decide) (by decide) ?_
  refine aw_aload_n C dX3_told_92 Lk0 ?_
  refine aw_iload_n C dX3_told_93 Lk1 ?_
  refine aw_cV1 C dX3_told_94 gX3_told_X3_rankOfGot sX3_rankOfGot (rm := rmX3_rankOfGot) rfl recHut (c_X3_rankOfGot H hk) ?_
  exact aw_iend C dX3_told_97 rfl rfl


set_option maxHeartbeats 4000000 in
set_option maxRecDepth 100000 in
theorem c_X3_count_0 {σ : CS} {n : Nat} {h : Nat → Nat} {L : Nat → List Nat} (H : HInv σ n h L) : aM l D (cTys cI cZ cR cJ) 49 a yX3_count wsX3_count rmX3_count [.ref (a 44), .int (nI 0)] (cv cI cR a (σ)) (some (.int (nI n))) (cv cI cR a (σ)) := by
  obtain ⟨hn, s0, sg, sd, sz, sm⟩ := H.sz
  refine aM_of sX3_count (lv0 := [some (.ref (a 44)), some (.int (nI 0))]) (j := 0) rfl rfl ?_
  intro pM eM sM mM argsM belowM methM cM AM C
  refine aw_iload_n C dX3_count_0 Lk1 ?_
  refine aw_tableIn C dX3_count_1 (tgt := 40) (by decide) (by decide) (off := 39) (by decide) (by decide) ?_
  refine aw_aload_n C dX3_count_40 Lk0 ?_
  refine aw_gX3_land C  dX3_count_41 (by decide +kernel) (by decide +kernel) ?_
  refine aw_cV0 C dX3_count_44 gX3_count_X0_size sX0_size (rm := rmX0_size) rfl recLand c_X0_size ?_
  rw [s0]
  exact aw_iend C dX3_count_47 rfl rfl
set_option maxHeartbeats 4000000 in
set_option maxRecDepth 100000 in
theorem c_X3_count_1 {σ : CS} {n : Nat} {h : Nat → Nat} {L : Nat → List Nat} (H : HInv σ n h L) : aM l D (cTys cI cZ cR cJ) 49 a yX3_count wsX3_count rmX3_count [.ref (a 44), .int (nI 1)] (cv cI cR a (σ)) (some (.int (σ.2.2 (3 * 0 + 1)))) (cv cI cR a (σ)) := by
  obtain ⟨hn, s0, sg, sd, sz, sm⟩ := H.sz
  refine aM_of sX3_count (lv0 := [some (.ref (a 44)), some (.int (nI 1))]) (j := 0) rfl rfl ?_
  intro pM eM sM mM argsM belowM methM cM AM C
  refine aw_iload_n C dX3_count_0 Lk1 ?_
  refine aw_tableIn C dX3_count_1 (tgt := 48) (by decide) (by decide) (off := 47) (by decide) (by decide) ?_
  refine aw_aload_n C dX3_count_48 Lk0 ?_
  refine aw_gX3_trade C  dX3_count_49 (by decide +kernel) (by decide +kernel) ?_
  refine aw_cV0 C dX3_count_52 gX3_count_X2_rounds sX2_rounds (rm := rmX2_rounds) rfl (recTr (show 0 < 2 by decide)) (c_X2_rounds (show 0 < 2 by decide)) ?_
  exact aw_iend C dX3_count_55 rfl rfl
set_option maxHeartbeats 4000000 in
set_option maxRecDepth 100000 in
theorem c_X3_count_2 {σ : CS} {n : Nat} {h : Nat → Nat} {L : Nat → List Nat} (H : HInv σ n h L) : aM l D (cTys cI cZ cR cJ) 49 a yX3_count wsX3_count rmX3_count [.ref (a 44), .int (nI 2)] (cv cI cR a (σ)) (some (.int (σ.2.2 (3 * 0 + 2)))) (cv cI cR a (σ)) := by
  obtain ⟨hn, s0, sg, sd, sz, sm⟩ := H.sz
  refine aM_of sX3_count (lv0 := [some (.ref (a 44)), some (.int (nI 2))]) (j := 0) rfl rfl ?_
  intro pM eM sM mM argsM belowM methM cM AM C
  refine aw_iload_n C dX3_count_0 Lk1 ?_
  refine aw_tableIn C dX3_count_1 (tgt := 56) (by decide) (by decide) (off := 55) (by decide) (by decide) ?_
  refine aw_aload_n C dX3_count_56 Lk0 ?_
  refine aw_gX3_trade C  dX3_count_57 (by decide +kernel) (by decide +kernel) ?_
  refine aw_cV0 C dX3_count_60 gX3_count_X2_ringsOfMore sX2_ringsOfMore (rm := rmX2_ringsOfMore) rfl (recTr (show 0 < 2 by decide)) (c_X2_ringsOfMore (show 0 < 2 by decide)) ?_
  exact aw_iend C dX3_count_63 rfl rfl
set_option maxHeartbeats 4000000 in
set_option maxRecDepth 100000 in
theorem c_X3_count_3 {σ : CS} {n : Nat} {h : Nat → Nat} {L : Nat → List Nat} (H : HInv σ n h L) : aM l D (cTys cI cZ cR cJ) 49 a yX3_count wsX3_count rmX3_count [.ref (a 44), .int (nI 3)] (cv cI cR a (σ)) (some (.int (nI (fb_ct (anoB σ) n)))) (cv cI cR a (σ)) := by
  obtain ⟨hn, s0, sg, sd, sz, sm⟩ := H.sz
  refine aM_of sX3_count (lv0 := [some (.ref (a 44)), some (.int (nI 3))]) (j := 0) rfl rfl ?_
  intro pM eM sM mM argsM belowM methM cM AM C
  refine aw_iload_n C dX3_count_0 Lk1 ?_
  refine aw_tableIn C dX3_count_1 (tgt := 64) (by decide) (by decide) (off := 63) (by decide) (by decide) ?_
  refine aw_aload_n C dX3_count_64 Lk0 ?_
  refine aw_cV0 C dX3_count_65 gX3_count_X3_keepersWithAnotherHut sX3_keepersWithAnotherHut (rm := rmX3_keepersWithAnotherHut) rfl recHut (c_X3_keepersWithAnotherHut H) ?_
  exact aw_iend C dX3_count_68 rfl rfl
set_option maxHeartbeats 4000000 in
set_option maxRecDepth 100000 in
theorem c_X3_count_4 {σ : CS} {n : Nat} {h : Nat → Nat} {L : Nat → List Nat} (H : HInv σ n h L) : aM l D (cTys cI cZ cR cJ) 49 a yX3_count wsX3_count rmX3_count [.ref (a 44), .int (nI 4)] (cv cI cR a (σ)) (some (.int (rSum (gotR σ) n))) (cv cI cR a (σ)) := by
  obtain ⟨hn, s0, sg, sd, sz, sm⟩ := H.sz
  refine aM_of sX3_count (lv0 := [some (.ref (a 44)), some (.int (nI 4))]) (j := 0) rfl rfl ?_
  intro pM eM sM mM argsM belowM methM cM AM C
  refine aw_iload_n C dX3_count_0 Lk1 ?_
  refine aw_tableIn C dX3_count_1 (tgt := 69) (by decide) (by decide) (off := 68) (by decide) (by decide) ?_
  refine aw_aload_n C dX3_count_69 Lk0 ?_
  refine aw_cV0 C dX3_count_70 gX3_count_X3_ranksAdded sX3_ranksAdded (rm := rmX3_ranksAdded) rfl recHut (c_X3_ranksAdded H) ?_
  exact aw_iend C dX3_count_73 rfl rfl
set_option maxHeartbeats 4000000 in
set_option maxRecDepth 100000 in
theorem c_X3_count_5 {σ : CS} {n : Nat} {h : Nat → Nat} {L : Nat → List Nat} (H : HInv σ n h L) : aM l D (cTys cI cZ cR cJ) 49 a yX3_count wsX3_count rmX3_count [.ref (a 44), .int (nI 5)] (cv cI cR a (σ)) (some (.int (rMax (σ.2.1 (zR 0)) n))) (cv cI cR a (σ)) := by
  obtain ⟨hn, s0, sg, sd, sz, sm⟩ := H.sz
  refine aM_of sX3_count (lv0 := [some (.ref (a 44)), some (.int (nI 5))]) (j := 0) rfl rfl ?_
  intro pM eM sM mM argsM belowM methM cM AM C
  refine aw_iload_n C dX3_count_0 Lk1 ?_
  refine aw_tableIn C dX3_count_1 (tgt := 74) (by decide) (by decide) (off := 73) (by decide) (by decide) ?_
  refine aw_aload_n C dX3_count_74 Lk0 ?_
  refine aw_gX3_trade C  dX3_count_75 (by decide +kernel) (by decide +kernel) ?_
  refine aw_cV0 C dX3_count_78 gX3_count_X2_greatestRing sX2_greatestRing (rm := rmX2_greatestRing) rfl (recTr (show 0 < 2 by decide)) (c_X2_greatestRing (show 0 < 2 by decide) (by omega)) ?_
  rw [sz]
  exact aw_iend C dX3_count_81 rfl rfl

set_option maxHeartbeats 4000000 in
set_option maxRecDepth 100000 in
theorem c_X3_list {σ : CS} {n : Nat} {h : Nat → Nat} {L : Nat → List Nat} (H : HInv σ n h L) {k : Nat} (hk : k < n) {i : Nat} (hi : i < (L k).length) : aM l D (cTys cI cZ cR cJ) 49 a yX3_list wsX3_list rmX3_list [.ref (a 44), .int (nI k), .int (nI i)] (cv cI cR a (σ)) (some (.int (σ.2.1 (kR k) i))) (cv cI cR a (σ)) := by
  obtain ⟨hn, s0, sg, sd, sz, sm⟩ := H.sz
  obtain ⟨hl1, hl2⟩ := H.ls hk
  have hj := kR_lt (show k < 10 by omega)
  refine aM_of sX3_list (lv0 := [some (.ref (a 44)), some (.int (nI k)), some (.int (nI i)), none]) (j := 1) rfl rfl ?_
  intro pM eM sM mM argsM belowM methM cM AM C
  refine aw_aload_n C dX3_list_0 Lk0 ?_
  refine aw_iload_n C dX3_list_1 Lk1 ?_
  refine aw_cV1v C dX3_list_2 gX3_list_X3_needKeeper sX3_needKeeper (rm := rmX3_needKeeper) rfl recHut (c_X3_needKeeper H hk) ?_
  refine aw_aload_n C dX3_list_5 Lk0 ?_
  refine aw_gX3_land C  dX3_list_6 (by decide +kernel) (by decide +kernel) ?_
  refine aw_iload_n C dX3_list_9 Lk1 ?_
  refine aw_cV1 C dX3_list_10 gX3_list_X0_likesOf sX0_likesOf (rm := rmX0_likesOf) rfl recLand (c_X0_likesOf (by omega)) ?_
  refine aw_astore_n C dX3_list_13 St3 rfl ?_
  refine aw_aload_n C dX3_list_14 Lk3 ?_
  refine aw_iload_n C dX3_list_15 Lk2 ?_
  refine aw_cS2v C dX3_list_16 gX3_list_X3_needPlace sX3_needPlace (rm := rmX3_needPlace) rfl (c_X3_needPlace hj (by omega) (by omega)) ?_
  refine aw_aload_n C dX3_list_19 Lk3 ?_
  refine aw_iload_n C dX3_list_20 Lk2 ?_
  refine aw_cV1 C dX3_list_21 gX3_list_X1_at sX1_at (rm := rmX1_at) rfl (recRow hj) (c_X1_at hj (by omega) (by omega)) ?_
  exact aw_iend C dX3_list_24 rfl rfl


set_option maxHeartbeats 4000000 in
set_option maxRecDepth 100000 in
theorem c_X3_rank {σ : CS} {n : Nat} {h : Nat → Nat} {L : Nat → List Nat} (H : HInv σ n h L) {k : Nat} (hk : k < n) {x : Nat} (hx : x < n) : aM l D (cTys cI cZ cR cJ) 49 a yX3_rank wsX3_rank rmX3_rank [.ref (a 44), .int (nI k), .int (nI x)] (cv cI cR a (σ)) (some (.int (rRank σ k (nI x)))) (cv cI cR a (σ)) := by
  obtain ⟨hn, s0, sg, sd, sz, sm⟩ := H.sz
  refine aM_of sX3_rank (lv0 := [some (.ref (a 44)), some (.int (nI k)), some (.int (nI x))]) (j := 0) rfl rfl ?_
  intro pM eM sM mM argsM belowM methM cM AM C
  refine aw_aload_n C dX3_rank_0 Lk0 ?_
  refine aw_iload_n C dX3_rank_1 Lk1 ?_
  refine aw_cV1v C dX3_rank_2 gX3_rank_X3_needKeeper sX3_needKeeper (rm := rmX3_needKeeper) rfl recHut (c_X3_needKeeper H hk) ?_
  refine aw_aload_n C dX3_rank_5 Lk0 ?_
  refine aw_iload_n C dX3_rank_6 Lk2 ?_
  refine aw_cV1v C dX3_rank_7 gX3_rank_X3_needHut sX3_needHut (rm := rmX3_needHut) rfl recHut (c_X3_needHut H hx) ?_
  refine aw_aload_n C dX3_rank_10 Lk0 ?_
  refine aw_gX3_land C  dX3_rank_11 (by decide +kernel) (by decide +kernel) ?_
  refine aw_iload_n C dX3_rank_14 Lk1 ?_
  refine aw_iload_n C dX3_rank_15 Lk2 ?_
  refine aw_cV2 C dX3_rank_16 gX3_rank_X0_rankOf sX0_rankOf (rm := rmX0_rankOf) rfl recLand (c_X0_rankOf (by omega) (by omega) (by omega) (by have := (H.ls hk).2; rw [(H.ls hk).1]; omega)) ?_
  exact aw_iend C dX3_rank_19 rfl rfl


set_option maxHeartbeats 4000000 in
set_option maxRecDepth 100000 in
theorem c_X3_points {σ : CS} {n : Nat} {h : Nat → Nat} {L : Nat → List Nat} (H : HInv σ n h L) {k : Nat} (hk : k < n) {x : Int32} (hx : nI 1 ≤ x) {th : Nat → Bool} (hth : ∀ q, q < n → thB (σ.2.1 (dR 0) q) x = th q) : aM l D (cTys cI cZ cR cJ) 49 a yX3_points wsX3_points rmX3_points [.ref (a 44), .int (nI k), .int x] (cv cI cR a (σ)) (some (.int (if th k then nI (fT (TL h n L) th k) else -1))) (cv cI cR a (σ)) := by
  obtain ⟨hn, s0, sg, sd, sz, sm⟩ := H.sz
  have Hr := H.run
  have hai := c_X2_aimIn (l := l) (D := D) (cI := cI) (cZ := cZ) (cR := cR) (cJ := cJ) (a := a) Hr (g := σ.2.1 (gR 0)) (d := σ.2.1 (dR 0)) (z := σ.2.1 (zR 0)) (m := σ.2.1 (mR 0)) (ro := σ.2.2 (3 * 0 + 1)) (rm := σ.2.2 (3 * 0 + 2)) hk hth
  rw [csT_self] at hai
  refine aM_of sX3_points (lv0 := [some (.ref (a 44)), some (.int (nI k)), some (.int x)]) (j := 0) rfl rfl ?_
  intro pM eM sM mM argsM belowM methM cM AM C
  refine aw_aload_n C dX3_points_0 Lk0 ?_
  refine aw_iload_n C dX3_points_1 Lk1 ?_
  refine aw_cV1v C dX3_points_2 gX3_points_X3_needKeeper sX3_needKeeper (rm := rmX3_needKeeper) rfl recHut (c_X3_needKeeper H hk) ?_
  refine aw_iload_n C dX3_points_5 Lk2 ?_
  refine aw_iconst C dX3_points_6 (x := nI 1) (by decide) ?_
  refine aw_icmp_ge C dX3_points_7 (tgt := 20) (by decide) (fun c_7 => ?_) (fun c_7 => absurd hx c_7)
  refine aw_aload_n C dX3_points_20 Lk0 ?_
  refine aw_gX3_trade C  dX3_points_21 (by decide +kernel) (by decide +kernel) ?_
  refine aw_iload_n C dX3_points_24 Lk1 ?_
  refine aw_iload_n C dX3_points_25 Lk2 ?_
  refine aw_cV2 C dX3_points_26 gX3_points_X2_isThereIn sX2_isThereIn (rm := rmX2_isThereIn) rfl (recTr (show 0 < 2 by decide)) (c_X2_isThereIn (show 0 < 2 by decide) (by omega) (by omega)) ?_
  rw [hth k hk]
  refine aw_if_eq C dX3_points_29 (tgt := 44) (by decide) (fun c_29 => ?_) (fun c_29 => ?_)
  · skip
    have hb : th k = false := bI_0.mp c_29
    refine aw_iconst C dX3_points_44 (x := -1) (by decide) ?_
    exact aw_iend C dX3_points_45 rfl (by rw [hb]; rfl)
  · skip
    have hb : th k = true := by cases e9 : th k <;> first | rfl | (rw [e9] at c_29; exact absurd rfl c_29)
    refine aw_aload_n C dX3_points_32 Lk0 ?_
    refine aw_gX3_trade C  dX3_points_33 (by decide +kernel) (by decide +kernel) ?_
    refine aw_iload_n C dX3_points_36 Lk1 ?_
    refine aw_iload_n C dX3_points_37 Lk2 ?_
    refine aw_cV2 C dX3_points_38 gX3_points_X2_aimIn sX2_aimIn (rm := rmX2_aimIn) rfl (recTr (show 0 < 2 by decide)) hai ?_
    refine aw_goto C dX3_points_41 (tgt := 45) (by decide) ?_
    exact aw_iend C dX3_points_45 rfl (by rw [hb]; rfl)





end HUT
