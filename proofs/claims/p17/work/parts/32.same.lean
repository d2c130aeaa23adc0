/-! the Sim's isSame: what the class tells is what the law's own rounds tell -/
def SimW (cI cJ : ClassId) (n : Nat) (a : Nat → Nat) (v : Nat → va_E) (m : Nat) (h : Nat → Nat) (L : Nat → List Nat) : Prop := 49 + (3 + m) ≤ n ∧ SimAt cI cJ (3 + m) (fun k => a (49 + k)) (fun k => v (49 + k)) m h L
theorem SimW.sv {cI cJ : ClassId} {n m q0 : Nat} {a : Nat → Nat} {v v' : Nat → va_E} {h : Nat → Nat} {L : Nat → List Nat} (S : SimW cI cJ n a v m h L) (hv : ∀ j, j ≠ q0 → v' j = v j) (hq : 49 + (3 + m) ≤ q0) : SimW cI cJ n a v' m h L := ⟨S.1, S.2.to (Nat.le_refl _) (fun _ _ => rfl) (fun k hk => hv _ (by omega))⟩
theorem SimW.gr {cI cJ : ClassId} {n n' m : Nat} {a a' : Nat → Nat} {v v' : Nat → va_E} {h : Nat → Nat} {L : Nat → List Nat} (S : SimW cI cJ n a v m h L) (ha : ∀ j, j < n → a' j = a j) (hv : ∀ j, j < n → v' j = v j) (hn : n ≤ n') : SimW cI cJ n' a' v' m h L := ⟨Nat.le_trans S.1 hn, S.2.to (Nat.le_refl _) (fun k hk => ha _ (by have := S.1; omega)) (fun k hk => hv _ (by have := S.1; omega))⟩
theorem SimW.dr {cI cJ : ClassId} {n n' m : Nat} {a : Nat → Nat} {v : Nat → va_E} {h : Nat → Nat} {L : Nat → List Nat} (S : SimW cI cJ n a v m h L) (hn : 49 + (3 + m) ≤ n') : SimW cI cJ n' a v m h L := ⟨hn, S.2⟩
theorem Cl.dr {cI cR : ClassId} {n n' : Nat} {a ac : Nat → Nat} {v : Nat → va_E} {σ : CS} (K : Cl cI cR n a v ac σ) (hn : 49 ≤ n') : Cl cI cR n' a v ac σ := ⟨hn, K.2⟩
theorem nI_nle1 {c : Nat} (h : 1 < c) (hc : c < 2 ^ 31) : ¬ nI c ≤ nI 1 := nI_ge h hc
section SAMEM
variable {n : Nat} {h : Nat → Nat} {L : Nat → List Nat}
theorem FD_max (W : WF n h L) : rMax (FD (TL h n L) (t0A n) n) n = nI (rn (TL h n L) (t0A n) n) := by
  have hb : ∀ k, k < n → FD (TL h n L) (t0A n) n k = nI (RDn h n L k) ∧ RDn h n L k ≤ 10 := fun k hk => by
    obtain ⟨r, hc⟩ := cl_all W hk
    obtain ⟨-, -, h3, -, h5, -⟩ := cl_told W hc
    rw [RDn_of W hc]
    exact ⟨h5, by omega⟩
  obtain ⟨q, h1, h2, h3, h4⟩ := rMax_nI (f := FD (TL h n L) (t0A n) n) (v := RDn h n L) n hb
  rw [h2]
  congr 1
  apply Nat.le_antisymm
  · rcases h4 with z | ⟨k, z1, z2⟩
    · omega
    · obtain ⟨r, hc⟩ := cl_all W z1
      obtain ⟨-, g2, -⟩ := cl_told W hc
      rw [z2, RDn_of W hc]; omega
  · rcases Nat.eq_zero_or_pos (rn (TL h n L) (t0A n) n) with z | z
    · omega
    · obtain ⟨k, hc⟩ := rn_some W (r := rn (TL h n L) (t0A n) n - 1) (by omega)
      obtain ⟨g1, -⟩ := cl_told W hc
      have := h3 k g1
      rw [RDn_of W hc] at this
      omega
theorem mean_eq : ∀ s, s < 101 → ∀ n, n < 11 → n ≠ 0 → Op.cmpValue (FP.dcmp (FP.ddiv (FP.i2d (nI s)) (FP.i2d (nI n))) (FP.ddiv (FP.i2d (nI s)) (FP.i2d (nI n)))) .l = 0 := by
  have h : (List.range 101).all (fun s => (List.range 11).all (fun n => n == 0 || decide (Op.cmpValue (FP.dcmp (FP.ddiv (FP.i2d (nI s)) (FP.i2d (nI n))) (FP.ddiv (FP.i2d (nI s)) (FP.i2d (nI n)))) .l = 0))) = true := by decide +kernel
  intro s hs n hn h0
  have h1 := List.all_eq_true.mp h s (List.mem_range.mpr hs)
  have h2 := List.all_eq_true.mp h1 n (List.mem_range.mpr hn)
  simp only [Bool.or_eq_true, beq_iff_eq, decide_eq_true_eq] at h2
  exact h2.resolve_left h0
theorem mean_two (W : WF n h L) (h0 : n ≠ 0) : vf_n64 (FP.ddiv (FP.i2d (rSum (FD (TL h n L) (t0A n) n) n)) (FP.i2d (nI n))) ∧ Op.cmpValue (FP.dcmp (mnP n h L) (FP.ddiv (FP.i2d (rSum (FD (TL h n L) (t0A n) n) n)) (FP.i2d (nI n)))) .l = 0 := by
  obtain ⟨s, hs, e⟩ := rSum_le (f := FD (TL h n L) (t0A n) n) (m := 10) n (fun k hk => FD_le W hk)
  have hn := W.1
  rw [mnP, if_neg h0, e]
  exact ⟨mean_ok s (by omega) n (by omega) h0, mean_eq s (by omega) n (by omega) h0⟩
/-- the least so far, of the s first of a ring -/
def ldB (f : Nat → Nat) (k c s : Nat) : Bool := decide (1 < c) && decide (∀ i, i < s + 1 → i = 0 ∨ k < itF f i k)
def bN (b : Bool) : Nat := if b then 1 else 0
theorem ldB_0 {f : Nat → Nat} {k c : Nat} : ldB f k c 0 = decide (1 < c) := by
  simp only [ldB]
  rw [decide_eq_true (p := ∀ i, i < 0 + 1 → i = 0 ∨ k < itF f i k) (fun i hi => Or.inl (by omega)), Bool.and_true]
theorem ldB_s {f : Nat → Nat} {k c s : Nat} : ldB f k c (s + 1) = (ldB f k c s && decide (k < itF f (s + 1) k)) := by
  simp only [ldB]
  rw [Bool.and_assoc]
  congr 1
  apply Bool.eq_iff_iff.mpr
  rw [Bool.and_eq_true, decide_eq_true_eq, decide_eq_true_eq, decide_eq_true_eq]
  constructor
  · intro z
    exact ⟨fun i hi => z i (by omega), (z (s + 1) (by omega)).resolve_left (by omega)⟩
  · rintro ⟨z1, z2⟩ i hi
    by_cases e : i = s + 1
    · rw [e]; exact Or.inr z2
    · exact z1 i (by omega)
theorem ldB_c {T : Nat → List Nat} {t0 : Nat → Bool} {r k s : Nat} (hc : clR T t0 r k = true) (hs : s + 1 = cyR T t0 r k) : ldB (faR T t0 r) k (cyR T t0 r k) s = ldR T t0 r k := by
  simp only [ldB, ldR, hc, Bool.true_and]
  rw [← hs]
end SAMEM
section SRKR
variable {p : Program} {l : Launch} {e : Env} {R : Room} {s : State} {m : MethodId} {args : Array Value} {below : List Frame} {meth : Method} {c : Code} {Q : State → Prop} {D : va_G} {A : Nat → Prop} {cells slots nL n pc ix bs mm k : Nat} {h : Nat → Nat} {L : Nat → List Nat} {x : Int32} {a : Nat → Nat} {v : Nat → va_E} {lv : List (Option Value)} {rest : List Value} {cc : ByteArray} {Ts : List Cond} {own : String} {ret : Option FieldType} {cI cZ cR cJ : ClassId}
theorem aw_srank (C : aC p s m args meth c D (cTys cI cZ cR cJ) A cc nL Ts own ret) (d : decode cc pc = .ok (.invokevirtual ix, 3)) (g : GoodIn Ts (wsV own ix RX4 yX4_rank wsX4_rank)) (hk : aChk rmX4_rank 3 R lv nL cells slots 0 0 rest = true) (S : SimW cI cJ n a v mm h L) (hb : a 49 = bs) (hkm : k < mm)
    (kk : aW p l e R s m args below meth c Q D A cells slots n a v (pc + 3) lv (.int (rkP h L k x) :: rest)) : aW p l e R s m args below meth c Q D A cells slots n a v pc lv (.int x :: .int (nI k) :: .ref bs :: rest) := by
  obtain ⟨hn, S⟩ := S
  obtain ⟨x2, x3, x4, x5, O⟩ := S.2.1
  have hK := c_X4_rank (l := l) (D := D) (cZ := cZ) (cR := cR) (x := x) S hkm
  rw [show a (49 + 0) = bs from hb] at hK
  exact aw_subV (As := [.int (nI k), .int x]) (n0 := 3 + mm) (a0 := fun k => a (49 + k)) (v0 := fun k => v (49 + k)) (v0' := fun k => v (49 + k)) (v1 := v) (f := fun k => 49 + k) C d g sX4_rank hk (fun k hk => by show 49 + k < n; omega) (fun _ _ => rfl) (fun i j _ _ hij => by have h9 : 49 + i = 49 + j := hij; omega) (fun _ _ => rfl) (fun _ _ => rfl) (fun _ _ _ => rfl) ⟨0, 4, _, TX4, 6, by omega, hb, O.2.2, rfl⟩ hK kk
end SRKR
section SAME
variable {l : Launch} {D : va_G} {cI cZ cR cJ : ClassId}
set_option maxHeartbeats 8000000 in
set_option maxRecDepth 100000 in
theorem c_X4_isSame {n m : Nat} {a : Nat → Nat} {v : Nat → va_E} {ac : Nat → Nat} {bs : Nat} {σ : CS} {h : Nat → Nat} {L : Nat → List Nat} (LW : LawW cI cR cJ n a v ac bs σ m h L) (hm0 : 1 ≤ m) : gM l D (cTys cI cZ cR cJ) yX4_isSame wsX4_isSame rmX4_isSame gA n a v [.ref bs, .ref (ac 44)] 50 500 (fun r n' a' v' => r = some (.int 1) ∧ n ≤ n') := by
  obtain ⟨rfl, K, hbs, S, H⟩ := LW
  obtain ⟨hm, x2, x3, x4, x5, f, g, rf, O, ⟨A1, hf⟩, ⟨R1, hg⟩, hR⟩ := S.ex (Nat.le_refl _) hbs
  have WL := H.1
  refine gM_of sX4_isSame (lv0 := [some (.ref bs), some (.ref (ac 44)), none, none, none, none, none, none, none, none, none, none, none]) (j := 11) rfl rfl ?_
  intro pM eM sM mM argsM belowM methM cM AM szM CG hA9
  have C := CG.1
  have hK := c_X4_trade (l := l) (D := D) (cZ := cZ) (cR := cR) (G := gA) (fun _ _ h => h) WL S
  rw [show a (49 + 0) = bs from hbs] at hK
  refine aw_aload_n C dX4_isSame_0 Lk0 ?_
  refine aw_iconst C dX4_isSame_1 (x := -1) (by decide) ?_
  refine aw_iconst C dX4_isSame_2 (x := -1) (by decide) ?_
  refine aw_null C dX4_isSame_3 ?_
  refine gw_blV3 (o := 49) (mN := 3 + m) (rm := rmX4_trade) (mc := 30) (ms := 300) CG gA_H dX4_isSame_4 gX4_isSame_X4_trade sX4_trade rfl (Nat.le_refl _) (fun r n' a' v' h9 => by have := h9.2.1; omega) ⟨0, 4, _, TX4, 6, by omega, hbs, O.2.2, rfl⟩ hK (fun r n1 a1 v1 hT => ?_)
  obtain ⟨rfl, rfl, ha1, hv1, O1, ⟨gv, Gt1, hgv⟩, ⟨dv, Ro1, hdv⟩, ⟨zv, Ri1, hzv⟩, ar, af, Ai1, har, hAf⟩ := hT
  have hn2 : 49 + (3 + m) + (3 + m + 1 + 1 + 1 + 1 + m - (3 + m)) = 49 + (3 + m + 1 + 1 + 1 + 1 + m) := by omega
  rw [hn2]
  have hbs2 : a (49 + 0) = bs := hbs
  have e1 : ∀ k, blF 49 (3 + m) (49 + (3 + m)) a a1 (49 + k) = a1 k := fun k => blF_end rfl
  have e2 : ∀ k, blF 49 (3 + m) (49 + (3 + m)) v v1 (49 + k) = v1 k := fun k => blF_end rfl
  have K : Cl cI cR (49 + (3 + m + 1 + 1 + 1 + 1 + m)) (blF 49 (3 + m) (49 + (3 + m)) a a1) (blF 49 (3 + m) (49 + (3 + m)) v v1) ac σ := ⟨by omega, fun k hk => (blF_out (by omega) (Or.inl hk)).trans (K.2.1 k hk), fun k hk => (blF_out (by omega) (Or.inl hk)).trans (K.2.2 k hk)⟩
  generalize blF 49 (3 + m) (49 + (3 + m)) a a1 = a2 at e1 K ⊢
  generalize blF 49 (3 + m) (49 + (3 + m)) v v1 = v2 at e2 K ⊢
  have O : Ob (49 + (3 + m + 1 + 1 + 1 + 1 + m)) a2 v2 49 bs [.ref (a 50), .ref (a 51), .ref (a1 (3 + m)), .ref (a1 (3 + m + 1)), .ref (a1 (3 + m + 1 + 1)), .ref (a1 (3 + m + 1 + 1 + 1))] := ⟨by omega, (e1 0).trans ((ha1 0 (by omega)).trans hbs2), (e2 0).trans O1.2.2⟩
  have A1 : Ar cI (49 + (3 + m + 1 + 1 + 1 + 1 + m)) a2 v2 50 (a 50) m f := A1.at (by omega) ((e1 1).trans (ha1 1 (by omega))) ((e2 1).trans (hv1 1 (by omega) (by omega)))
  have R1 : Rr cJ (49 + (3 + m + 1 + 1 + 1 + 1 + m)) a2 v2 51 (a 51) m g := R1.at (by omega) ((e1 2).trans (ha1 2 (by omega))) ((e2 2).trans (hv1 2 (by omega) (by omega)))
  have hRa : ∀ k, k < m → Ar cI (49 + (3 + m + 1 + 1 + 1 + 1 + m)) a2 v2 (49 + (3 + k)) (a (49 + (3 + k))) (L k).length (rf k) := fun k hk => (hR k hk).1.at (by omega) ((e1 _).trans (ha1 _ (by omega))) ((e2 _).trans (hv1 _ (by omega) (by omega)))
  have Gt : Ar cI (49 + (3 + m + 1 + 1 + 1 + 1 + m)) a2 v2 (49 + (3 + m)) (a1 (3 + m)) m gv := Gt1.at (by omega) (e1 _) (e2 _)
  have Ro : Ar cI (49 + (3 + m + 1 + 1 + 1 + 1 + m)) a2 v2 (49 + (3 + m + 1)) (a1 (3 + m + 1)) m dv := Ro1.at (by omega) (e1 _) (e2 _)
  have Ri : Ar cI (49 + (3 + m + 1 + 1 + 1 + 1 + m)) a2 v2 (49 + (3 + m + 1 + 1)) (a1 (3 + m + 1 + 1)) m zv := Ri1.at (by omega) (e1 _) (e2 _)
  have Ai : Rr cJ (49 + (3 + m + 1 + 1 + 1 + 1 + m)) a2 v2 (49 + (3 + m + 1 + 1 + 1)) (a1 (3 + m + 1 + 1 + 1)) m ar := Ai1.at (by omega) (e1 _) (e2 _)
  have hAi : ∀ k, k < m → Ar cI (49 + (3 + m + 1 + 1 + 1 + 1 + m)) a2 v2 (49 + (3 + m + 1 + 1 + 1 + 1 + k)) (a1 (3 + m + 1 + 1 + 1 + 1 + k)) m (af k) := fun k hk => (hAf k hk).1.at (by omega) (e1 _) (e2 _)
  have SS : SimW cI cJ (49 + (3 + m + 1 + 1 + 1 + 1 + m)) a2 v2 m h L := by
    refine ⟨by omega, hm, ⟨.ref (a1 (3 + m)), .ref (a1 (3 + m + 1)), .ref (a1 (3 + m + 1 + 1)), .ref (a1 (3 + m + 1 + 1 + 1)), ⟨by omega, rfl, ?_⟩⟩, ⟨f, ⟨by omega, rfl, A1.2.2.1, A1.2.2.2⟩, hf⟩, ⟨g, ⟨by omega, rfl, R1.2.2.1, R1.2.2.2⟩, fun k hk => by rw [hg k hk]; exact congrArg some ((hRa k hk).2.1.symm)⟩, rf, fun k hk => ⟨⟨by omega, rfl, (hRa k hk).2.2.1, (hRa k hk).2.2.2⟩, (hR k hk).2⟩⟩
    have h9 := O.2.2
    rw [← A1.2.1, ← R1.2.1] at h9
    exact h9
  have hcl : ∀ k, k < m → ∃ r, clR (TL h m L) (t0A m) r k = true := fun k hk => cl_all WL hk
  refine aw_widen (k := 30) (n9 := 300) (by omega) (by omega) ?_
  refine aw_pop C dX4_isSame_7 rfl ?_
  refine aw_aload_n C dX4_isSame_8 Lk0 ?_
  refine aw_g_has C O dX4_isSame_9 (by decide +kernel) (by decide +kernel) ?_
  refine aw_al C A1 dX4_isSame_12 ?_
  refine aw_istore_n C dX4_isSame_13 St2 rfl ?_
  refine aw_iconst C dX4_isSame_14 (x := nI 0) (by decide) ?_
  refine aw_istore_n C dX4_isSame_15 St3 rfl ?_
  refine aw_iconst C dX4_isSame_16 (x := nI 0) (by decide) ?_
  refine aw_istore C dX4_isSame_17 St4 rfl ?_
  refine aw_iconst C dX4_isSame_19 (x := nI 0) (by decide) ?_
  refine aw_istore C dX4_isSame_20 St5 rfl ?_
  refine aw_iconst C dX4_isSame_22 (x := nI 0) (by decide) ?_
  refine aw_istore C dX4_isSame_23 St6 rfl ?_
  refine aw_iconst C dX4_isSame_25 (x := nI 0) (by decide) ?_
  refine aw_istore C dX4_isSame_26 St7 rfl ?_
  refine aw_iconst C dX4_isSame_28 (x := nI 0) (by decide) ?_
  refine aw_istore C dX4_isSame_29 St8 rfl ?_
  refine aw_iconst C dX4_isSame_31 (x := nI 0) (by decide) ?_
  refine aw_istore C dX4_isSame_32 St9 rfl ?_
  have hl : ∀ (j k : Nat), k + j = m → ∀ (aa : Nat → Nat) (vv : Nat → va_E), (Ob (49 + (3 + m + 1 + 1 + 1 + 1 + m)) aa vv 49 bs [.ref (a 50), .ref (a 51), .ref (a1 (3 + m)), .ref (a1 (3 + m + 1)), .ref (a1 (3 + m + 1 + 1)), .ref (a1 (3 + m + 1 + 1 + 1))]) → (Ar cI (49 + (3 + m + 1 + 1 + 1 + 1 + m)) aa vv 50 (a 50) m f) → (Rr cJ (49 + (3 + m + 1 + 1 + 1 + 1 + m)) aa vv 51 (a 51) m g) → (∀ k, k < m → Ar cI (49 + (3 + m + 1 + 1 + 1 + 1 + m)) aa vv (49 + (3 + k)) (a (49 + (3 + k))) (L k).length (rf k)) → (Ar cI (49 + (3 + m + 1 + 1 + 1 + 1 + m)) aa vv (49 + (3 + m)) (a1 (3 + m)) m gv) → (Ar cI (49 + (3 + m + 1 + 1 + 1 + 1 + m)) aa vv (49 + (3 + m + 1)) (a1 (3 + m + 1)) m dv) → (Ar cI (49 + (3 + m + 1 + 1 + 1 + 1 + m)) aa vv (49 + (3 + m + 1 + 1)) (a1 (3 + m + 1 + 1)) m zv) → (Rr cJ (49 + (3 + m + 1 + 1 + 1 + 1 + m)) aa vv (49 + (3 + m + 1 + 1 + 1)) (a1 (3 + m + 1 + 1 + 1)) m ar) → (∀ k, k < m → Ar cI (49 + (3 + m + 1 + 1 + 1 + 1 + m)) aa vv (49 + (3 + m + 1 + 1 + 1 + 1 + k)) (a1 (3 + m + 1 + 1 + 1 + 1 + k)) m (af k)) → (Cl cI cR (49 + (3 + m + 1 + 1 + 1 + 1 + m)) aa vv ac σ) → (SimW cI cJ (49 + (3 + m + 1 + 1 + 1 + 1 + m)) aa vv m h L) → aW pM l eM rmX4_isSame sM mM argsM belowM methM cM (MQ belowM (gQ D (49 + (3 + m)) a szM (fun r n' a' v' => r = some (.int 1) ∧ 49 + (3 + m) ≤ n')) argsM sM 50 500 AM) D AM (30 + k) (300 + 6 * k) (49 + (3 + m + 1 + 1 + 1 + 1 + m)) aa vv 34 [some (.ref bs), some (.ref (ac 44)), some (.int (nI m)), some (.int (rMax (FD (TL h m L) (t0A m) m) k)), some (.int (nI (fb_ct (ldS (TL h m L) (t0A m) (rn (TL h m L) (t0A m) m)) k))), some (.int (nI (fb_ct (anP m h L) k))), some (.int (rSum (fun k => rkP h L k (gF m h L k)) k)), some (.int (rMax (FZ (TL h m L) (t0A m) m) k)), some (.int (rSum (FD (TL h m L) (t0A m) m) k)), some (.int (nI k)), none, none, none] [] := by
    intro j
    induction j with
    | zero =>
      intro k hk2 aa vv O A1 R1 hRa Gt Ro Ri Ai hAi K SS
      have hkm : k = m := by omega
      refine aw_iload C dX4_isSame_34 Lk9 ?_
      refine aw_iload_n C dX4_isSame_36 Lk2 ?_
      refine aw_icmp_ge C dX4_isSame_37 (tgt := 448) (by decide) (fun c_37 => ?_) (fun c_37 => absurd (nI_le (by omega) (by omega)) c_37)
      refine aw_bipush C dX4_isSame_448 (x := nI 6) (by decide) ?_
      refine bw_ni C (by decide +kernel) (by omega) (by show 30 + k + 1 ≤ 50; omega) (by show 300 + 6 * k + 6 ≤ 500; omega) dX4_isSame_450 (fun a5 v5 ha5 hv5 Tl => ?_)
      have O := O.gr (n' := 49 + (3 + m + 1 + 1 + 1 + 1 + m) + 1) ha5 hv5 (by omega)
      have A1 := A1.gr (n' := 49 + (3 + m + 1 + 1 + 1 + 1 + m) + 1) ha5 hv5 (by omega)
      have R1 := R1.gr (n' := 49 + (3 + m + 1 + 1 + 1 + 1 + m) + 1) ha5 hv5 (by omega)
      have hRa := fun (k : Nat) (hk : k < m) => (hRa k hk).gr (n' := 49 + (3 + m + 1 + 1 + 1 + 1 + m) + 1) ha5 hv5 (by omega)
      have Gt := Gt.gr (n' := 49 + (3 + m + 1 + 1 + 1 + 1 + m) + 1) ha5 hv5 (by omega)
      have Ro := Ro.gr (n' := 49 + (3 + m + 1 + 1 + 1 + 1 + m) + 1) ha5 hv5 (by omega)
      have Ri := Ri.gr (n' := 49 + (3 + m + 1 + 1 + 1 + 1 + m) + 1) ha5 hv5 (by omega)
      have Ai := Ai.gr (n' := 49 + (3 + m + 1 + 1 + 1 + 1 + m) + 1) ha5 hv5 (by omega)
      have hAi := fun (k : Nat) (hk : k < m) => (hAi k hk).gr (n' := 49 + (3 + m + 1 + 1 + 1 + 1 + m) + 1) ha5 hv5 (by omega)
      have K := K.gr (n' := 49 + (3 + m + 1 + 1 + 1 + 1 + m) + 1) ha5 hv5 (by omega)
      have SS := SS.gr (n' := 49 + (3 + m + 1 + 1 + 1 + 1 + m) + 1) ha5 hv5 (by omega)
      refine aw_dup C dX4_isSame_452 rfl ?_
      refine aw_iconst C dX4_isSame_453 (x := nI 0) (by decide) ?_
      refine aw_iload_n C dX4_isSame_454 Lk2 ?_
      refine bw_is C Tl (by decide) dX4_isSame_455 (fun y0 hy0 Tl => ?_)
      have O := O.sv hy0 (by omega)
      have A1 := A1.sv hy0 (by omega)
      have R1 := R1.sv hy0 (by omega)
      have hRa := fun (k : Nat) (hk : k < m) => (hRa k hk).sv hy0 (by omega)
      have Gt := Gt.sv hy0 (by omega)
      have Ro := Ro.sv hy0 (by omega)
      have Ri := Ri.sv hy0 (by omega)
      have Ai := Ai.sv hy0 (by omega)
      have hAi := fun (k : Nat) (hk : k < m) => (hAi k hk).sv hy0 (by omega)
      have K := K.sv hy0 (by omega)
      have SS := SS.sv hy0 (by omega)
      refine aw_dup C dX4_isSame_456 rfl ?_
      refine aw_iconst C dX4_isSame_457 (x := nI 1) (by decide) ?_
      refine aw_iload_n C dX4_isSame_458 Lk3 ?_
      refine bw_is C Tl (by decide) dX4_isSame_459 (fun y1 hy1 Tl => ?_)
      have O := O.sv hy1 (by omega)
      have A1 := A1.sv hy1 (by omega)
      have R1 := R1.sv hy1 (by omega)
      have hRa := fun (k : Nat) (hk : k < m) => (hRa k hk).sv hy1 (by omega)
      have Gt := Gt.sv hy1 (by omega)
      have Ro := Ro.sv hy1 (by omega)
      have Ri := Ri.sv hy1 (by omega)
      have Ai := Ai.sv hy1 (by omega)
      have hAi := fun (k : Nat) (hk : k < m) => (hAi k hk).sv hy1 (by omega)
      have K := K.sv hy1 (by omega)
      have SS := SS.sv hy1 (by omega)
      refine aw_dup C dX4_isSame_460 rfl ?_
      refine aw_iconst C dX4_isSame_461 (x := nI 2) (by decide) ?_
      refine aw_iload C dX4_isSame_462 Lk4 ?_
      refine bw_is C Tl (by decide) dX4_isSame_464 (fun y2 hy2 Tl => ?_)
      have O := O.sv hy2 (by omega)
      have A1 := A1.sv hy2 (by omega)
      have R1 := R1.sv hy2 (by omega)
      have hRa := fun (k : Nat) (hk : k < m) => (hRa k hk).sv hy2 (by omega)
      have Gt := Gt.sv hy2 (by omega)
      have Ro := Ro.sv hy2 (by omega)
      have Ri := Ri.sv hy2 (by omega)
      have Ai := Ai.sv hy2 (by omega)
      have hAi := fun (k : Nat) (hk : k < m) => (hAi k hk).sv hy2 (by omega)
      have K := K.sv hy2 (by omega)
      have SS := SS.sv hy2 (by omega)
      refine aw_dup C dX4_isSame_465 rfl ?_
      refine aw_iconst C dX4_isSame_466 (x := nI 3) (by decide) ?_
      refine aw_iload C dX4_isSame_467 Lk5 ?_
      refine bw_is C Tl (by decide) dX4_isSame_469 (fun y3 hy3 Tl => ?_)
      have O := O.sv hy3 (by omega)
      have A1 := A1.sv hy3 (by omega)
      have R1 := R1.sv hy3 (by omega)
      have hRa := fun (k : Nat) (hk : k < m) => (hRa k hk).sv hy3 (by omega)
      have Gt := Gt.sv hy3 (by omega)
      have Ro := Ro.sv hy3 (by omega)
      have Ri := Ri.sv hy3 (by omega)
      have Ai := Ai.sv hy3 (by omega)
      have hAi := fun (k : Nat) (hk : k < m) => (hAi k hk).sv hy3 (by omega)
      have K := K.sv hy3 (by omega)
      have SS := SS.sv hy3 (by omega)
      refine aw_dup C dX4_isSame_470 rfl ?_
      refine aw_iconst C dX4_isSame_471 (x := nI 4) (by decide) ?_
      refine aw_iload C dX4_isSame_472 Lk6 ?_
      refine bw_is C Tl (by decide) dX4_isSame_474 (fun y4 hy4 Tl => ?_)
      have O := O.sv hy4 (by omega)
      have A1 := A1.sv hy4 (by omega)
      have R1 := R1.sv hy4 (by omega)
      have hRa := fun (k : Nat) (hk : k < m) => (hRa k hk).sv hy4 (by omega)
      have Gt := Gt.sv hy4 (by omega)
      have Ro := Ro.sv hy4 (by omega)
      have Ri := Ri.sv hy4 (by omega)
      have Ai := Ai.sv hy4 (by omega)
      have hAi := fun (k : Nat) (hk : k < m) => (hAi k hk).sv hy4 (by omega)
      have K := K.sv hy4 (by omega)
      have SS := SS.sv hy4 (by omega)
      refine aw_dup C dX4_isSame_475 rfl ?_
      refine aw_iconst C dX4_isSame_476 (x := nI 5) (by decide) ?_
      refine aw_iload C dX4_isSame_477 Lk7 ?_
      refine bw_is C Tl (by decide) dX4_isSame_479 (fun y5 hy5 Tl => ?_)
      have O := O.sv hy5 (by omega)
      have A1 := A1.sv hy5 (by omega)
      have R1 := R1.sv hy5 (by omega)
      have hRa := fun (k : Nat) (hk : k < m) => (hRa k hk).sv hy5 (by omega)
      have Gt := Gt.sv hy5 (by omega)
      have Ro := Ro.sv hy5 (by omega)
      have Ri := Ri.sv hy5 (by omega)
      have Ai := Ai.sv hy5 (by omega)
      have hAi := fun (k : Nat) (hk : k < m) => (hAi k hk).sv hy5 (by omega)
      have K := K.sv hy5 (by omega)
      have SS := SS.sv hy5 (by omega)
      refine aw_astore C dX4_isSame_480 St9 rfl ?_
      refine aw_iconst C dX4_isSame_482 (x := nI 0) (by decide) ?_
      refine aw_istore C dX4_isSame_483 St10 rfl ?_
      generalize htfd : upd (upd (upd (upd (upd (upd (fun _ => 0) 0 _) 1 _) 2 _) 3 _) 4 _) 5 _ = tf at Tl
      have htf : ∀ w, w < 6 → tf w = cnP m h L w := fun w hw => by
        rw [← htfd, hkm]
        rcases (show w = 0 ∨ w = 1 ∨ w = 2 ∨ w = 3 ∨ w = 4 ∨ w = 5 by omega) with rfl | rfl | rfl | rfl | rfl | rfl
        · rfl
        · exact FD_max WL
        · exact congrArg nI (ldS_sum _)
        · rfl
        · rfl
        · rfl
      have hq : ∀ (j w : Nat), w + j = 6 → aW pM l eM rmX4_isSame sM mM argsM belowM methM cM (MQ belowM (gQ D (49 + (3 + m)) a szM (fun r n' a' v' => r = some (.int 1) ∧ 49 + (3 + m) ≤ n')) argsM sM 50 500 AM) D AM (30 + k + 1) (300 + 6 * k + 6) (49 + (3 + m + 1 + 1 + 1 + 1 + m) + 1) a5 y5 485 [some (.ref bs), some (.ref (ac 44)), some (.int (nI m)), some (.int (rMax (FD (TL h m L) (t0A m) m) k)), some (.int (nI (fb_ct (ldS (TL h m L) (t0A m) (rn (TL h m L) (t0A m) m)) k))), some (.int (nI (fb_ct (anP m h L) k))), some (.int (rSum (fun k => rkP h L k (gF m h L k)) k)), some (.int (rMax (FZ (TL h m L) (t0A m) m) k)), some (.int (rSum (FD (TL h m L) (t0A m) m) k)), some (.ref (a5 (49 + (3 + m + 1 + 1 + 1 + 1 + m)))), some (.int (nI w)), none, none] [] := by
        intro j
        induction j with
        | zero =>
          intro w hw
          obtain ⟨mo, me⟩ := mean_two WL (by omega)
          rw [hkm]
          refine aw_iload C dX4_isSame_485 Lk10 ?_
          refine aw_bipush C dX4_isSame_487 (x := nI 6) (by decide) ?_
          refine aw_icmp_ge C dX4_isSame_489 (tgt := 514) (by decide) (fun c_489 => ?_) (fun c_489 => absurd (nI_le (by omega) (by omega)) c_489)
          refine aw_aload_n C dX4_isSame_514 Lk1 ?_
          refine aw_clr0 C dX4_isSame_515 gX4_isSame_X3_mean sX3_mean (rm := rmX3_mean) (aChk_mk rfl (by show 30 + m + 1 + 0 ≤ 50; omega) (by show 300 + 6 * m + 6 + 0 ≤ 500; omega)) K (f_mean H) ?_
          refine aw_iload_n C dX4_isSame_518 Lk2 ?_
          refine aw_if_ne C dX4_isSame_519 (tgt := 526) (by decide) (fun c_519 => ?_) (fun c_519 => absurd (nI_ne0 hm0 (by omega)) c_519)
          refine aw_iload C dX4_isSame_526 Lk8 ?_
          refine aw_i2d C dX4_isSame_528 ?_
          refine aw_iload_n C dX4_isSame_529 Lk2 ?_
          refine aw_i2d C dX4_isSame_530 ?_
          refine aw_ddiv C dX4_isSame_531 mo ?_
          refine aw_dcmp C dX4_isSame_532 ?_
          refine aw_if_ne C dX4_isSame_533 (tgt := 540) (by decide) (fun c_533 => absurd c_533 (fun z => z me)) (fun c_533 => ?_)
          refine aw_iconst C dX4_isSame_536 (x := nI 1) (by decide) ?_
          refine aw_goto C dX4_isSame_537 (tgt := 541) (by decide) ?_
          exact gw_zret C hA9 dX4_isSame_541 rfl (by omega) (by omega) ⟨rfl, by omega⟩
        | succ j ih =>
          intro w hw
          refine aw_iload C dX4_isSame_485 Lk10 ?_
          refine aw_bipush C dX4_isSame_487 (x := nI 6) (by decide) ?_
          refine aw_icmp_ge C dX4_isSame_489 (tgt := 514) (by decide) (fun c_489 => absurd c_489 (nI_ge (by omega) (by omega))) (fun c_489 => ?_)
          refine aw_aload_n C dX4_isSame_492 Lk1 ?_
          refine aw_iload C dX4_isSame_493 Lk10 ?_
          refine aw_clr1 C dX4_isSame_495 gX4_isSame_X3_count sX3_count (rm := rmX3_count) (aChk_mk rfl (by show 30 + k + 1 + 0 ≤ 50; omega) (by show 300 + 6 * k + 6 + 0 ≤ 500; omega)) K (f_count H (show w < 6 by omega)) ?_
          refine aw_aload C dX4_isSame_498 Lk9 ?_
          refine aw_iload C dX4_isSame_500 Lk10 ?_
          refine aw_il C Tl (show w < 6 by omega) dX4_isSame_502 ?_
          rw [htf w (by omega)]
          refine aw_icmp_eq C dX4_isSame_503 (tgt := 508) (by decide) (fun c_503 => ?_) (fun c_503 => absurd rfl c_503)
          refine aw_iinc C dX4_isSame_508 Lk10 (nI_1 _) St10 rfl ?_
          refine aw_goto C dX4_isSame_511 (tgt := 485) (by decide) ?_
          exact ih (w + 1) (by omega)
      exact hq 6 0 (by omega)
    | succ j ih =>
      intro k hk2 aa vv O A1 R1 hRa Gt Ro Ri Ai hAi K SS
      have hkm : k < m := by omega
      obtain ⟨r, hc⟩ := hcl k hkm
      obtain ⟨-, g2, g3, g4, g5, g6, g7, g8, g9⟩ := cl_told WL hc
      have hth := clR_th hc
      have hdk : dv k = nI (r + 1) := (hdv k hkm).trans g5
      have hzk : zv k = nI (cyR (TL h m L) (t0A m) r k) := (hzv k hkm).trans g6
      have hGk : gv k = nI (GN h m L k) := by rw [hgv k hkm, g4, g9]
      have hrm : r < m := by
        have h9 := thR_cnt (T := TL h m L) (t0 := t0A m) (n := m) t0A_ok WL.1 r ⟨k, hth.1⟩
        have h8 : 0 < fb_ct (thR (TL h m L) (t0A m) r) m := fb_ct_pos.mpr ⟨k, hkm, hth.1⟩
        omega
      obtain ⟨wt1, wt2⟩ := wtS_of hc (rn (TL h m L) (t0A m) m) g2
      refine aw_iload C dX4_isSame_34 Lk9 ?_
      refine aw_iload_n C dX4_isSame_36 Lk2 ?_
      refine aw_icmp_ge C dX4_isSame_37 (tgt := 448) (by decide) (fun c_37 => absurd c_37 (nI_ge hkm (by omega))) (fun c_37 => ?_)
      refine aw_bipush C dX4_isSame_40 (x := nI 6) (by decide) ?_
      refine bw_ni C (by decide +kernel) (by omega) (by show 30 + k + 1 ≤ 50; omega) (by show 300 + 6 * k + 6 ≤ 500; omega) dX4_isSame_42 (fun a5 v5 ha5 hv5 Tl => ?_)
      have O := O.gr (n' := 49 + (3 + m + 1 + 1 + 1 + 1 + m) + 1) ha5 hv5 (by omega)
      have A1 := A1.gr (n' := 49 + (3 + m + 1 + 1 + 1 + 1 + m) + 1) ha5 hv5 (by omega)
      have R1 := R1.gr (n' := 49 + (3 + m + 1 + 1 + 1 + 1 + m) + 1) ha5 hv5 (by omega)
      have hRa := fun (k : Nat) (hk : k < m) => (hRa k hk).gr (n' := 49 + (3 + m + 1 + 1 + 1 + 1 + m) + 1) ha5 hv5 (by omega)
      have Gt := Gt.gr (n' := 49 + (3 + m + 1 + 1 + 1 + 1 + m) + 1) ha5 hv5 (by omega)
      have Ro := Ro.gr (n' := 49 + (3 + m + 1 + 1 + 1 + 1 + m) + 1) ha5 hv5 (by omega)
      have Ri := Ri.gr (n' := 49 + (3 + m + 1 + 1 + 1 + 1 + m) + 1) ha5 hv5 (by omega)
      have Ai := Ai.gr (n' := 49 + (3 + m + 1 + 1 + 1 + 1 + m) + 1) ha5 hv5 (by omega)
      have hAi := fun (k : Nat) (hk : k < m) => (hAi k hk).gr (n' := 49 + (3 + m + 1 + 1 + 1 + 1 + m) + 1) ha5 hv5 (by omega)
      have K := K.gr (n' := 49 + (3 + m + 1 + 1 + 1 + 1 + m) + 1) ha5 hv5 (by omega)
      have SS := SS.gr (n' := 49 + (3 + m + 1 + 1 + 1 + 1 + m) + 1) ha5 hv5 (by omega)
      refine aw_dup C dX4_isSame_44 rfl ?_
      refine aw_iconst C dX4_isSame_45 (x := nI 0) (by decide) ?_
      refine aw_aload_n C dX4_isSame_46 Lk0 ?_
      refine aw_g_has C O dX4_isSame_47 (by decide +kernel) (by decide +kernel) ?_
      refine aw_iload C dX4_isSame_50 Lk9 ?_
      refine aw_il C A1 hkm dX4_isSame_52 ?_
      rw [hf k hkm]
      refine bw_is C Tl (by decide) dX4_isSame_53 (fun y0 hy0 Tl => ?_)
      have O := O.sv hy0 (by omega)
      have A1 := A1.sv hy0 (by omega)
      have R1 := R1.sv hy0 (by omega)
      have hRa := fun (k : Nat) (hk : k < m) => (hRa k hk).sv hy0 (by omega)
      have Gt := Gt.sv hy0 (by omega)
      have Ro := Ro.sv hy0 (by omega)
      have Ri := Ri.sv hy0 (by omega)
      have Ai := Ai.sv hy0 (by omega)
      have hAi := fun (k : Nat) (hk : k < m) => (hAi k hk).sv hy0 (by omega)
      have K := K.sv hy0 (by omega)
      have SS := SS.sv hy0 (by omega)
      refine aw_dup C dX4_isSame_54 rfl ?_
      refine aw_iconst C dX4_isSame_55 (x := nI 1) (by decide) ?_
      refine aw_aload_n C dX4_isSame_56 Lk0 ?_
      refine aw_g_lists C O dX4_isSame_57 (by decide +kernel) (by decide +kernel) ?_
      refine aw_iload C dX4_isSame_60 Lk9 ?_
      refine aw_rl C R1 hkm (hg k hkm) dX4_isSame_62 ?_
      refine aw_al C (hRa k hkm) dX4_isSame_63 ?_
      refine bw_is C Tl (by decide) dX4_isSame_64 (fun y1 hy1 Tl => ?_)
      have O := O.sv hy1 (by omega)
      have A1 := A1.sv hy1 (by omega)
      have R1 := R1.sv hy1 (by omega)
      have hRa := fun (k : Nat) (hk : k < m) => (hRa k hk).sv hy1 (by omega)
      have Gt := Gt.sv hy1 (by omega)
      have Ro := Ro.sv hy1 (by omega)
      have Ri := Ri.sv hy1 (by omega)
      have Ai := Ai.sv hy1 (by omega)
      have hAi := fun (k : Nat) (hk : k < m) => (hAi k hk).sv hy1 (by omega)
      have K := K.sv hy1 (by omega)
      have SS := SS.sv hy1 (by omega)
      refine aw_dup C dX4_isSame_65 rfl ?_
      refine aw_iconst C dX4_isSame_66 (x := nI 2) (by decide) ?_
      refine aw_aload_n C dX4_isSame_67 Lk0 ?_
      refine aw_g_gets C O dX4_isSame_68 (by decide +kernel) (by decide +kernel) ?_
      refine aw_iload C dX4_isSame_71 Lk9 ?_
      refine aw_il C Gt hkm dX4_isSame_73 ?_
      rw [hgv k hkm]
      refine bw_is C Tl (by decide) dX4_isSame_74 (fun y2 hy2 Tl => ?_)
      have O := O.sv hy2 (by omega)
      have A1 := A1.sv hy2 (by omega)
      have R1 := R1.sv hy2 (by omega)
      have hRa := fun (k : Nat) (hk : k < m) => (hRa k hk).sv hy2 (by omega)
      have Gt := Gt.sv hy2 (by omega)
      have Ro := Ro.sv hy2 (by omega)
      have Ri := Ri.sv hy2 (by omega)
      have Ai := Ai.sv hy2 (by omega)
      have hAi := fun (k : Nat) (hk : k < m) => (hAi k hk).sv hy2 (by omega)
      have K := K.sv hy2 (by omega)
      have SS := SS.sv hy2 (by omega)
      refine aw_dup C dX4_isSame_75 rfl ?_
      refine aw_iconst C dX4_isSame_76 (x := nI 3) (by decide) ?_
      refine aw_aload_n C dX4_isSame_77 Lk0 ?_
      refine aw_g_rounds C O dX4_isSame_78 (by decide +kernel) (by decide +kernel) ?_
      refine aw_iload C dX4_isSame_81 Lk9 ?_
      refine aw_il C Ro hkm dX4_isSame_83 ?_
      rw [hdv k hkm]
      refine bw_is C Tl (by decide) dX4_isSame_84 (fun y3 hy3 Tl => ?_)
      have O := O.sv hy3 (by omega)
      have A1 := A1.sv hy3 (by omega)
      have R1 := R1.sv hy3 (by omega)
      have hRa := fun (k : Nat) (hk : k < m) => (hRa k hk).sv hy3 (by omega)
      have Gt := Gt.sv hy3 (by omega)
      have Ro := Ro.sv hy3 (by omega)
      have Ri := Ri.sv hy3 (by omega)
      have Ai := Ai.sv hy3 (by omega)
      have hAi := fun (k : Nat) (hk : k < m) => (hAi k hk).sv hy3 (by omega)
      have K := K.sv hy3 (by omega)
      have SS := SS.sv hy3 (by omega)
      refine aw_dup C dX4_isSame_85 rfl ?_
      refine aw_iconst C dX4_isSame_86 (x := nI 4) (by decide) ?_
      refine aw_aload_n C dX4_isSame_87 Lk0 ?_
      refine aw_g_rings C O dX4_isSame_88 (by decide +kernel) (by decide +kernel) ?_
      refine aw_iload C dX4_isSame_91 Lk9 ?_
      refine aw_il C Ri hkm dX4_isSame_93 ?_
      rw [hzv k hkm]
      refine bw_is C Tl (by decide) dX4_isSame_94 (fun y4 hy4 Tl => ?_)
      have O := O.sv hy4 (by omega)
      have A1 := A1.sv hy4 (by omega)
      have R1 := R1.sv hy4 (by omega)
      have hRa := fun (k : Nat) (hk : k < m) => (hRa k hk).sv hy4 (by omega)
      have Gt := Gt.sv hy4 (by omega)
      have Ro := Ro.sv hy4 (by omega)
      have Ri := Ri.sv hy4 (by omega)
      have Ai := Ai.sv hy4 (by omega)
      have hAi := fun (k : Nat) (hk : k < m) => (hAi k hk).sv hy4 (by omega)
      have K := K.sv hy4 (by omega)
      have SS := SS.sv hy4 (by omega)
      refine aw_dup C dX4_isSame_95 rfl ?_
      refine aw_iconst C dX4_isSame_96 (x := nI 5) (by decide) ?_
      refine aw_aload_n C dX4_isSame_97 Lk0 ?_
      refine aw_iload C dX4_isSame_98 Lk9 ?_
      refine aw_aload_n C dX4_isSame_100 Lk0 ?_
      refine aw_g_gets C O dX4_isSame_101 (by decide +kernel) (by decide +kernel) ?_
      refine aw_iload C dX4_isSame_104 Lk9 ?_
      refine aw_il C Gt hkm dX4_isSame_106 ?_
      rw [hgv k hkm]
      refine aw_srank C dX4_isSame_107 gX4_isSame_X4_rank (aChk_mk rfl (by show 30 + k + 1 + 0 ≤ 50; omega) (by show 300 + 6 * k + 6 + 0 ≤ 500; omega)) SS O.2.1 hkm ?_
      refine bw_is C Tl (by decide) dX4_isSame_110 (fun y5 hy5 Tl => ?_)
      have O := O.sv hy5 (by omega)
      have A1 := A1.sv hy5 (by omega)
      have R1 := R1.sv hy5 (by omega)
      have hRa := fun (k : Nat) (hk : k < m) => (hRa k hk).sv hy5 (by omega)
      have Gt := Gt.sv hy5 (by omega)
      have Ro := Ro.sv hy5 (by omega)
      have Ri := Ri.sv hy5 (by omega)
      have Ai := Ai.sv hy5 (by omega)
      have hAi := fun (k : Nat) (hk : k < m) => (hAi k hk).sv hy5 (by omega)
      have K := K.sv hy5 (by omega)
      have SS := SS.sv hy5 (by omega)
      refine aw_astore C dX4_isSame_111 St10 rfl ?_
      refine aw_iconst C dX4_isSame_113 (x := nI 0) (by decide) ?_
      refine aw_istore C dX4_isSame_114 St11 rfl ?_
      generalize htfd : upd (upd (upd (upd (upd (upd (fun _ => 0) 0 _) 1 _) 2 _) 3 _) 4 _) 5 _ = tf at Tl
      have htf : ∀ w, w < 6 → tf w = toP m h L k w := fun w hw => by
        rw [← htfd]
        rcases (show w = 0 ∨ w = 1 ∨ w = 2 ∨ w = 3 ∨ w = 4 ∨ w = 5 by omega) with rfl | rfl | rfl | rfl | rfl | rfl <;> rfl
      have h9 : aW pM l eM rmX4_isSame sM mM argsM belowM methM cM (MQ belowM (gQ D (49 + (3 + m)) a szM (fun r n' a' v' => r = some (.int 1) ∧ 49 + (3 + m) ≤ n')) argsM sM 50 500 AM) D AM (30 + k + 1) (300 + 6 * k + 6) (49 + (3 + m + 1 + 1 + 1 + 1 + m) + 1) a5 y5 34 [some (.ref bs), some (.ref (ac 44)), some (.int (nI m)), some (.int (rMax (FD (TL h m L) (t0A m) m) (k + 1))), some (.int (nI (fb_ct (ldS (TL h m L) (t0A m) (rn (TL h m L) (t0A m) m)) (k + 1)))), some (.int (nI (fb_ct (anP m h L) (k + 1)))), some (.int (rSum (fun k => rkP h L k (gF m h L k)) (k + 1))), some (.int (rMax (FZ (TL h m L) (t0A m) m) (k + 1))), some (.int (rSum (FD (TL h m L) (t0A m) m) (k + 1))), some (.int (nI (k + 1))), none, none, none] [] := by
        refine aW_drop (n' := 49 + (3 + m + 1 + 1 + 1 + 1 + m)) (by omega) ?_
        have O := O.dr (n' := 49 + (3 + m + 1 + 1 + 1 + 1 + m)) (by omega)
        have A1 := A1.dr (n' := 49 + (3 + m + 1 + 1 + 1 + 1 + m)) (by omega)
        have R1 := R1.dr (n' := 49 + (3 + m + 1 + 1 + 1 + 1 + m)) (by omega)
        have hRa := fun (k : Nat) (hk : k < m) => (hRa k hk).dr (n' := 49 + (3 + m + 1 + 1 + 1 + 1 + m)) (by omega)
        have Gt := Gt.dr (n' := 49 + (3 + m + 1 + 1 + 1 + 1 + m)) (by omega)
        have Ro := Ro.dr (n' := 49 + (3 + m + 1 + 1 + 1 + 1 + m)) (by omega)
        have Ri := Ri.dr (n' := 49 + (3 + m + 1 + 1 + 1 + 1 + m)) (by omega)
        have Ai := Ai.dr (n' := 49 + (3 + m + 1 + 1 + 1 + 1 + m)) (by omega)
        have hAi := fun (k : Nat) (hk : k < m) => (hAi k hk).dr (n' := 49 + (3 + m + 1 + 1 + 1 + 1 + m)) (by omega)
        have K := K.dr (n' := 49 + (3 + m + 1 + 1 + 1 + 1 + m)) (by omega)
        have SS := SS.dr (n' := 49 + (3 + m + 1 + 1 + 1 + 1 + m)) (by omega)
        exact aw_widen (by omega) (by omega) (ih (k + 1) (by omega) a5 y5 O A1 R1 hRa Gt Ro Ri Ai hAi K SS)
      have h439 : ∀ b : Bool, b = ldS (TL h m L) (t0A m) (rn (TL h m L) (t0A m) m) k → aW pM l eM rmX4_isSame sM mM argsM belowM methM cM (MQ belowM (gQ D (49 + (3 + m)) a szM (fun r n' a' v' => r = some (.int 1) ∧ 49 + (3 + m) ≤ n')) argsM sM 50 500 AM) D AM (30 + k + 1) (300 + 6 * k + 6) (49 + (3 + m + 1 + 1 + 1 + 1 + m) + 1) a5 y5 439 [some (.ref bs), some (.ref (ac 44)), some (.int (nI m)), some (.int (rMax (FD (TL h m L) (t0A m) m) (k + 1))), none, some (.int (nI (fb_ct (anP m h L) (k + 1)))), some (.int (rSum (fun k => rkP h L k (gF m h L k)) (k + 1))), some (.int (rMax (FZ (TL h m L) (t0A m) m) (k + 1))), some (.int (rSum (FD (TL h m L) (t0A m) m) (k + 1))), some (.int (nI k)), none, none, none] [.int (nI (bN b)), .int (nI (fb_ct (ldS (TL h m L) (t0A m) (rn (TL h m L) (t0A m) m)) k))] := fun b hb => by
        refine aw_iadd C dX4_isSame_439 ?_
        rw [nI_add, hb]
        refine aw_istore C dX4_isSame_440 St4 rfl ?_
        refine aw_iinc C dX4_isSame_442 Lk9 (nI_1 _) St9 rfl ?_
        refine aw_goto C dX4_isSame_445 (tgt := 34) (by decide) ?_
        exact h9
      have h427 : ∀ b : Bool, b = ldS (TL h m L) (t0A m) (rn (TL h m L) (t0A m) m) k → aW pM l eM rmX4_isSame sM mM argsM belowM methM cM (MQ belowM (gQ D (49 + (3 + m)) a szM (fun r n' a' v' => r = some (.int 1) ∧ 49 + (3 + m) ≤ n')) argsM sM 50 500 AM) D AM (30 + k + 1) (300 + 6 * k + 6) (49 + (3 + m + 1 + 1 + 1 + 1 + m) + 1) a5 y5 427 [some (.ref bs), some (.ref (ac 44)), some (.int (nI m)), some (.int (rMax (FD (TL h m L) (t0A m) m) (k + 1))), some (.int (nI (fb_ct (ldS (TL h m L) (t0A m) (rn (TL h m L) (t0A m) m)) k))), some (.int (nI (fb_ct (anP m h L) (k + 1)))), some (.int (rSum (fun k => rkP h L k (gF m h L k)) (k + 1))), some (.int (rMax (FZ (TL h m L) (t0A m) m) (k + 1))), some (.int (rSum (FD (TL h m L) (t0A m) m) (k + 1))), some (.int (nI k)), none, some (.int (nI (bN b))), none] [] := fun b hb => by
        cases b
        · skip
          refine aw_iload C dX4_isSame_427 Lk4 ?_
          refine aw_iload C dX4_isSame_429 Lk11 ?_
          refine aw_if_eq C dX4_isSame_431 (tgt := 438) (by decide) (fun c_431 => ?_) (fun c_431 => absurd (by decide) c_431)
          refine aw_iconst C dX4_isSame_438 (x := nI 0) (by decide) ?_
          exact aW_wk (h439 false hb) (Wk.k (Wk.k (Wk.k (Wk.k (Wk.d (Wk.k (Wk.k (Wk.k (Wk.k (Wk.k (Wk.d (Wk.d (Wk.d Wk.n)))))))))))))
        · skip
          refine aw_iload C dX4_isSame_427 Lk4 ?_
          refine aw_iload C dX4_isSame_429 Lk11 ?_
          refine aw_if_eq C dX4_isSame_431 (tgt := 438) (by decide) (fun c_431 => absurd c_431 (by decide)) (fun c_431 => ?_)
          refine aw_iconst C dX4_isSame_434 (x := nI 1) (by decide) ?_
          refine aw_goto C dX4_isSame_435 (tgt := 439) (by decide) ?_
          exact aW_wk (h439 true hb) (Wk.k (Wk.k (Wk.k (Wk.k (Wk.d (Wk.k (Wk.k (Wk.k (Wk.k (Wk.k (Wk.d (Wk.d (Wk.d Wk.n)))))))))))))
      have hin : ∀ s, thR (TL h m L) (t0A m) r (itF (faR (TL h m L) (t0A m) r) s k) = true := fun s => itF_th hth.1 s
      have hlt9 : ∀ s, itF (faR (TL h m L) (t0A m) r) s k < m := fun s => thR_lt t0A_ok (hin s)
      obtain ⟨cp1, cp2, cp3, cp4⟩ := cy_pos hth.2.1
      have hcyd : cy (faR (TL h m L) (t0A m) r) k = (cyR (TL h m L) (t0A m) r k) := rfl
      rw [hcyd] at cp1 cp2 cp3 cp4
      have h379 : ∀ (j s : Nat), s + 1 + j = (cyR (TL h m L) (t0A m) r k) → aW pM l eM rmX4_isSame sM mM argsM belowM methM cM (MQ belowM (gQ D (49 + (3 + m)) a szM (fun r n' a' v' => r = some (.int 1) ∧ 49 + (3 + m) ≤ n')) argsM sM 50 500 AM) D AM (30 + k + 1) (300 + 6 * k + 6) (49 + (3 + m + 1 + 1 + 1 + 1 + m) + 1) a5 y5 379 [some (.ref bs), some (.ref (ac 44)), some (.int (nI m)), some (.int (rMax (FD (TL h m L) (t0A m) m) (k + 1))), some (.int (nI (fb_ct (ldS (TL h m L) (t0A m) (rn (TL h m L) (t0A m) m)) k))), some (.int (nI (fb_ct (anP m h L) (k + 1)))), some (.int (rSum (fun k => rkP h L k (gF m h L k)) (k + 1))), some (.int (rMax (FZ (TL h m L) (t0A m) m) (k + 1))), some (.int (rSum (FD (TL h m L) (t0A m) m) (k + 1))), some (.int (nI k)), none, some (.int (nI (bN (ldB (faR (TL h m L) (t0A m) r) k (cyR (TL h m L) (t0A m) r k) s)))), some (.int (nI (itF (faR (TL h m L) (t0A m) r) (s + 1) k)))] [] := by
        intro j
        induction j with
        | zero =>
          intro s hs
          have hback : itF (faR (TL h m L) (t0A m) r) (s + 1) k = k := by rw [show s + 1 = (cyR (TL h m L) (t0A m) r k) by omega]; exact cp3
          refine aw_iload C dX4_isSame_379 Lk12 ?_
          refine aw_iload C dX4_isSame_381 Lk9 ?_
          refine aw_icmp_eq C dX4_isSame_383 (tgt := 427) (by decide) (fun c_383 => ?_) (fun c_383 => absurd (by rw [hback]) c_383)
          exact aW_wk (h427 _ (by rw [ldB_c hc (by omega), wt2])) (Wk.k (Wk.k (Wk.k (Wk.k (Wk.k (Wk.k (Wk.k (Wk.k (Wk.k (Wk.k (Wk.d (Wk.k (Wk.d Wk.n)))))))))))))
        | succ j ih3 =>
          intro s hs
          have hnb : itF (faR (TL h m L) (t0A m) r) (s + 1) k ≠ k := cp4 (s + 1) (by omega) (by omega)
          have haf := (hAf _ (hlt9 (s + 1))).2 r hrm
          have haf2 : ptP m h L (itF (faR (TL h m L) (t0A m) r) (s + 1) k) r = nI (itF (faR (TL h m L) (t0A m) r) (s + 1 + 1) k) := by
            simp only [ptP]
            rw [if_pos (hin (s + 1))]
            rfl
          have h403 : aW pM l eM rmX4_isSame sM mM argsM belowM methM cM (MQ belowM (gQ D (49 + (3 + m)) a szM (fun r n' a' v' => r = some (.int 1) ∧ 49 + (3 + m) ≤ n')) argsM sM 50 500 AM) D AM (30 + k + 1) (300 + 6 * k + 6) (49 + (3 + m + 1 + 1 + 1 + 1 + m) + 1) a5 y5 403 [some (.ref bs), some (.ref (ac 44)), some (.int (nI m)), some (.int (rMax (FD (TL h m L) (t0A m) m) (k + 1))), some (.int (nI (fb_ct (ldS (TL h m L) (t0A m) (rn (TL h m L) (t0A m) m)) k))), some (.int (nI (fb_ct (anP m h L) (k + 1)))), some (.int (rSum (fun k => rkP h L k (gF m h L k)) (k + 1))), some (.int (rMax (FZ (TL h m L) (t0A m) m) (k + 1))), some (.int (rSum (FD (TL h m L) (t0A m) m) (k + 1))), some (.int (nI k)), none, some (.int (nI (bN (ldB (faR (TL h m L) (t0A m) r) k (cyR (TL h m L) (t0A m) r k) s)))), some (.int (nI (itF (faR (TL h m L) (t0A m) r) (s + 1) k)))] [.int (nI (bN (ldB (faR (TL h m L) (t0A m) r) k (cyR (TL h m L) (t0A m) r k) (s + 1))))] := by
            refine aw_istore C dX4_isSame_403 St11 rfl ?_
            refine aw_aload_n C dX4_isSame_405 Lk0 ?_
            refine aw_g_aims C O dX4_isSame_406 (by decide +kernel) (by decide +kernel) ?_
            refine aw_iload C dX4_isSame_409 Lk12 ?_
            refine aw_rl C Ai (hlt9 (s + 1)) (har _ (hlt9 (s + 1))) dX4_isSame_411 ?_
            refine aw_aload_n C dX4_isSame_412 Lk0 ?_
            refine aw_g_rounds C O dX4_isSame_413 (by decide +kernel) (by decide +kernel) ?_
            refine aw_iload C dX4_isSame_416 Lk9 ?_
            refine aw_il C Ro hkm dX4_isSame_418 ?_
            rw [hdk]
            refine aw_iconst C dX4_isSame_419 (x := nI 1) (by decide) ?_
            refine aw_isub C dX4_isSame_420 ?_
            rw [pk_sub (by omega), Nat.add_sub_cancel]
            refine aw_il C (hAi _ (hlt9 (s + 1))) hrm dX4_isSame_421 ?_
            rw [haf, haf2]
            refine aw_istore C dX4_isSame_422 St12 rfl ?_
            refine aw_goto C dX4_isSame_424 (tgt := 379) (by decide) ?_
            exact ih3 (s + 1) (by omega)
          have hne2 : ¬ nI (itF (faR (TL h m L) (t0A m) r) (s + 1) k) = nI k := fun z => hnb (nI_inj (by have := hlt9 (s + 1); omega) (by omega) z)
          rw [ldB_s] at h403
          cases hb : ldB (faR (TL h m L) (t0A m) r) k (cyR (TL h m L) (t0A m) r k) s
          · skip
            rw [hb] at h403
            refine aw_iload C dX4_isSame_379 Lk12 ?_
            refine aw_iload C dX4_isSame_381 Lk9 ?_
            refine aw_icmp_eq C dX4_isSame_383 (tgt := 427) (by decide) (fun c_383 => absurd c_383 hne2) (fun c_383 => ?_)
            refine aw_iload C dX4_isSame_386 Lk11 ?_
            refine aw_if_eq C dX4_isSame_388 (tgt := 402) (by decide) (fun c_388 => ?_) (fun c_388 => absurd (by decide) c_388)
            refine aw_iconst C dX4_isSame_402 (x := nI 0) (by decide) ?_
            exact h403
          · skip
            rw [hb, Bool.true_and] at h403
            by_cases hl2 : k < itF (faR (TL h m L) (t0A m) r) (s + 1) k
            · skip
              rw [decide_eq_true hl2] at h403
              refine aw_iload C dX4_isSame_379 Lk12 ?_
              refine aw_iload C dX4_isSame_381 Lk9 ?_
              refine aw_icmp_eq C dX4_isSame_383 (tgt := 427) (by decide) (fun c_383 => absurd c_383 hne2) (fun c_383 => ?_)
              refine aw_iload C dX4_isSame_386 Lk11 ?_
              refine aw_if_eq C dX4_isSame_388 (tgt := 402) (by decide) (fun c_388 => absurd c_388 (by decide)) (fun c_388 => ?_)
              refine aw_iload C dX4_isSame_391 Lk9 ?_
              refine aw_iload C dX4_isSame_393 Lk12 ?_
              refine aw_icmp_ge C dX4_isSame_395 (tgt := 402) (by decide) (fun c_395 => absurd c_395 (nI_ge hl2 (by have := hlt9 (s + 1); omega))) (fun c_395 => ?_)
              refine aw_iconst C dX4_isSame_398 (x := nI 1) (by decide) ?_
              refine aw_goto C dX4_isSame_399 (tgt := 403) (by decide) ?_
              exact h403
            · skip
              rw [decide_eq_false hl2] at h403
              refine aw_iload C dX4_isSame_379 Lk12 ?_
              refine aw_iload C dX4_isSame_381 Lk9 ?_
              refine aw_icmp_eq C dX4_isSame_383 (tgt := 427) (by decide) (fun c_383 => absurd c_383 hne2) (fun c_383 => ?_)
              refine aw_iload C dX4_isSame_386 Lk11 ?_
              refine aw_if_eq C dX4_isSame_388 (tgt := 402) (by decide) (fun c_388 => absurd c_388 (by decide)) (fun c_388 => ?_)
              refine aw_iload C dX4_isSame_391 Lk9 ?_
              refine aw_iload C dX4_isSame_393 Lk12 ?_
              refine aw_icmp_ge C dX4_isSame_395 (tgt := 402) (by decide) (fun c_395 => ?_) (fun c_395 => absurd (nI_le (by omega) (by omega)) c_395)
              refine aw_iconst C dX4_isSame_402 (x := nI 0) (by decide) ?_
              exact h403
      have haf0 := (hAf k hkm).2 r hrm
      have haf02 : ptP m h L k r = nI (itF (faR (TL h m L) (t0A m) r) 1 k) := by
        simp only [ptP]
        rw [if_pos hth.1]
        rfl
      have h358 : aW pM l eM rmX4_isSame sM mM argsM belowM methM cM (MQ belowM (gQ D (49 + (3 + m)) a szM (fun r n' a' v' => r = some (.int 1) ∧ 49 + (3 + m) ≤ n')) argsM sM 50 500 AM) D AM (30 + k + 1) (300 + 6 * k + 6) (49 + (3 + m + 1 + 1 + 1 + 1 + m) + 1) a5 y5 358 [some (.ref bs), some (.ref (ac 44)), some (.int (nI m)), some (.int (rMax (FD (TL h m L) (t0A m) m) (k + 1))), some (.int (nI (fb_ct (ldS (TL h m L) (t0A m) (rn (TL h m L) (t0A m) m)) k))), some (.int (nI (fb_ct (anP m h L) (k + 1)))), some (.int (rSum (fun k => rkP h L k (gF m h L k)) (k + 1))), some (.int (rMax (FZ (TL h m L) (t0A m) m) (k + 1))), some (.int (rSum (FD (TL h m L) (t0A m) m) (k + 1))), some (.int (nI k)), none, none, none] [.int (nI (bN (ldB (faR (TL h m L) (t0A m) r) k (cyR (TL h m L) (t0A m) r k) 0)))] := by
        refine aw_istore C dX4_isSame_358 St11 rfl ?_
        refine aw_aload_n C dX4_isSame_360 Lk0 ?_
        refine aw_g_aims C O dX4_isSame_361 (by decide +kernel) (by decide +kernel) ?_
        refine aw_iload C dX4_isSame_364 Lk9 ?_
        refine aw_rl C Ai hkm (har _ hkm) dX4_isSame_366 ?_
        refine aw_aload_n C dX4_isSame_367 Lk0 ?_
        refine aw_g_rounds C O dX4_isSame_368 (by decide +kernel) (by decide +kernel) ?_
        refine aw_iload C dX4_isSame_371 Lk9 ?_
        refine aw_il C Ro hkm dX4_isSame_373 ?_
        rw [hdk]
        refine aw_iconst C dX4_isSame_374 (x := nI 1) (by decide) ?_
        refine aw_isub C dX4_isSame_375 ?_
        rw [pk_sub (by omega), Nat.add_sub_cancel]
        refine aw_il C (hAi k hkm) hrm dX4_isSame_376 ?_
        rw [haf0, haf02]
        refine aw_istore C dX4_isSame_377 St12 rfl ?_
        exact h379 ((cyR (TL h m L) (t0A m) r k) - 1) 0 (by omega)
      rw [ldB_0] at h358
      have h304 : ∀ b : Bool, b = anP m h L k → aW pM l eM rmX4_isSame sM mM argsM belowM methM cM (MQ belowM (gQ D (49 + (3 + m)) a szM (fun r n' a' v' => r = some (.int 1) ∧ 49 + (3 + m) ≤ n')) argsM sM 50 500 AM) D AM (30 + k + 1) (300 + 6 * k + 6) (49 + (3 + m + 1 + 1 + 1 + 1 + m) + 1) a5 y5 304 [some (.ref bs), some (.ref (ac 44)), some (.int (nI m)), some (.int (rMax (FD (TL h m L) (t0A m) m) (k + 1))), some (.int (nI (fb_ct (ldS (TL h m L) (t0A m) (rn (TL h m L) (t0A m) m)) k))), some (.int (nI (fb_ct (anP m h L) k))), some (.int (rSum (fun k => rkP h L k (gF m h L k)) k)), some (.int (rMax (FZ (TL h m L) (t0A m) m) k)), some (.int (rSum (FD (TL h m L) (t0A m) m) k)), some (.int (nI k)), some (.ref (a5 (49 + (3 + m + 1 + 1 + 1 + 1 + m)))), none, none] [.int (nI (bN b)), .int (nI (fb_ct (anP m h L) k))] := fun b hb => by
        by_cases hc1 : 1 < (cyR (TL h m L) (t0A m) r k)
        · skip
          rw [decide_eq_true hc1] at h358
          refine aw_iadd C dX4_isSame_304 ?_
          rw [nI_add, hb]
          refine aw_istore C dX4_isSame_305 St5 rfl ?_
          refine aw_iload C dX4_isSame_307 Lk6 ?_
          refine aw_aload C dX4_isSame_309 Lk10 ?_
          refine aw_iconst C dX4_isSame_311 (x := nI 5) (by decide) ?_
          refine aw_il C Tl (by decide) dX4_isSame_312 ?_
          rw [htf 5 (by decide)]
          refine aw_iadd C dX4_isSame_313 ?_
          refine aw_istore C dX4_isSame_314 St6 rfl ?_
          refine aw_iload C dX4_isSame_316 Lk7 ?_
          refine aw_aload_n C dX4_isSame_318 Lk0 ?_
          refine aw_g_rings C O dX4_isSame_319 (by decide +kernel) (by decide +kernel) ?_
          refine aw_iload C dX4_isSame_322 Lk9 ?_
          refine aw_il C Ri hkm dX4_isSame_324 ?_
          rw [hzv k hkm]
          refine aw_mmax C dX4_isSame_325 rfl (by decide +kernel) (by decide +kernel) (by decide +kernel) (by decide +kernel) (Nat.le_of_ble_eq_true rfl) (Nat.le_of_ble_eq_true rfl) ⟨by show 30 + k + 1 ≤ 50; omega, by show 300 + 6 * k + 6 ≤ 500; omega⟩ ?_
          refine aw_istore C dX4_isSame_328 St7 rfl ?_
          refine aw_iload C dX4_isSame_330 Lk8 ?_
          refine aw_aload_n C dX4_isSame_332 Lk0 ?_
          refine aw_g_rounds C O dX4_isSame_333 (by decide +kernel) (by decide +kernel) ?_
          refine aw_iload C dX4_isSame_336 Lk9 ?_
          refine aw_il C Ro hkm dX4_isSame_338 ?_
          rw [hdv k hkm]
          refine aw_iadd C dX4_isSame_339 ?_
          refine aw_istore C dX4_isSame_340 St8 rfl ?_
          refine aw_aload_n C dX4_isSame_342 Lk0 ?_
          refine aw_g_rings C O dX4_isSame_343 (by decide +kernel) (by decide +kernel) ?_
          refine aw_iload C dX4_isSame_346 Lk9 ?_
          refine aw_il C Ri hkm dX4_isSame_348 ?_
          rw [hzk]
          refine aw_iconst C dX4_isSame_349 (x := nI 1) (by decide) ?_
          refine aw_icmp_le C dX4_isSame_350 (tgt := 357) (by decide) (fun c_350 => absurd c_350 (nI_nle1 hc1 (by omega))) (fun c_350 => ?_)
          refine aw_iconst C dX4_isSame_353 (x := nI 1) (by decide) ?_
          refine aw_goto C dX4_isSame_354 (tgt := 358) (by decide) ?_
          exact aW_wk h358 (Wk.k (Wk.k (Wk.k (Wk.k (Wk.k (Wk.k (Wk.k (Wk.k (Wk.k (Wk.k (Wk.d (Wk.d (Wk.d Wk.n)))))))))))))
        · skip
          rw [decide_eq_false hc1] at h358
          refine aw_iadd C dX4_isSame_304 ?_
          rw [nI_add, hb]
          refine aw_istore C dX4_isSame_305 St5 rfl ?_
          refine aw_iload C dX4_isSame_307 Lk6 ?_
          refine aw_aload C dX4_isSame_309 Lk10 ?_
          refine aw_iconst C dX4_isSame_311 (x := nI 5) (by decide) ?_
          refine aw_il C Tl (by decide) dX4_isSame_312 ?_
          rw [htf 5 (by decide)]
          refine aw_iadd C dX4_isSame_313 ?_
          refine aw_istore C dX4_isSame_314 St6 rfl ?_
          refine aw_iload C dX4_isSame_316 Lk7 ?_
          refine aw_aload_n C dX4_isSame_318 Lk0 ?_
          refine aw_g_rings C O dX4_isSame_319 (by decide +kernel) (by decide +kernel) ?_
          refine aw_iload C dX4_isSame_322 Lk9 ?_
          refine aw_il C Ri hkm dX4_isSame_324 ?_
          rw [hzv k hkm]
          refine aw_mmax C dX4_isSame_325 rfl (by decide +kernel) (by decide +kernel) (by decide +kernel) (by decide +kernel) (Nat.le_of_ble_eq_true rfl) (Nat.le_of_ble_eq_true rfl) ⟨by show 30 + k + 1 ≤ 50; omega, by show 300 + 6 * k + 6 ≤ 500; omega⟩ ?_
          refine aw_istore C dX4_isSame_328 St7 rfl ?_
          refine aw_iload C dX4_isSame_330 Lk8 ?_
          refine aw_aload_n C dX4_isSame_332 Lk0 ?_
          refine aw_g_rounds C O dX4_isSame_333 (by decide +kernel) (by decide +kernel) ?_
          refine aw_iload C dX4_isSame_336 Lk9 ?_
          refine aw_il C Ro hkm dX4_isSame_338 ?_
          rw [hdv k hkm]
          refine aw_iadd C dX4_isSame_339 ?_
          refine aw_istore C dX4_isSame_340 St8 rfl ?_
          refine aw_aload_n C dX4_isSame_342 Lk0 ?_
          refine aw_g_rings C O dX4_isSame_343 (by decide +kernel) (by decide +kernel) ?_
          refine aw_iload C dX4_isSame_346 Lk9 ?_
          refine aw_il C Ri hkm dX4_isSame_348 ?_
          rw [hzk]
          refine aw_iconst C dX4_isSame_349 (x := nI 1) (by decide) ?_
          refine aw_icmp_le C dX4_isSame_350 (tgt := 357) (by decide) (fun c_350 => ?_) (fun c_350 => absurd (nI_le (by omega) (by omega)) c_350)
          refine aw_iconst C dX4_isSame_357 (x := nI 0) (by decide) ?_
          exact aW_wk h358 (Wk.k (Wk.k (Wk.k (Wk.k (Wk.k (Wk.k (Wk.k (Wk.k (Wk.k (Wk.k (Wk.d (Wk.d (Wk.d Wk.n)))))))))))))
      have h268 : aW pM l eM rmX4_isSame sM mM argsM belowM methM cM (MQ belowM (gQ D (49 + (3 + m)) a szM (fun r n' a' v' => r = some (.int 1) ∧ 49 + (3 + m) ≤ n')) argsM sM 50 500 AM) D AM (30 + k + 1) (300 + 6 * k + 6) (49 + (3 + m + 1 + 1 + 1 + 1 + m) + 1) a5 y5 268 [some (.ref bs), some (.ref (ac 44)), some (.int (nI m)), some (.int (rMax (FD (TL h m L) (t0A m) m) k)), some (.int (nI (fb_ct (ldS (TL h m L) (t0A m) (rn (TL h m L) (t0A m) m)) k))), some (.int (nI (fb_ct (anP m h L) k))), some (.int (rSum (fun k => rkP h L k (gF m h L k)) k)), some (.int (rMax (FZ (TL h m L) (t0A m) m) k)), some (.int (rSum (FD (TL h m L) (t0A m) m) k)), some (.int (nI k)), some (.ref (a5 (49 + (3 + m + 1 + 1 + 1 + 1 + m)))), none, none] [] := by
        have hgF : gF m h L k = nI (GN h m L k) := (hgv k hkm).symm.trans hGk
        cases hb : anP m h L k
        · skip
          refine aw_iload_n C dX4_isSame_268 Lk3 ?_
          refine aw_aload_n C dX4_isSame_269 Lk0 ?_
          refine aw_g_rounds C O dX4_isSame_270 (by decide +kernel) (by decide +kernel) ?_
          refine aw_iload C dX4_isSame_273 Lk9 ?_
          refine aw_il C Ro hkm dX4_isSame_275 ?_
          rw [hdv k hkm]
          refine aw_mmax C dX4_isSame_276 rfl (by decide +kernel) (by decide +kernel) (by decide +kernel) (by decide +kernel) (Nat.le_of_ble_eq_true rfl) (Nat.le_of_ble_eq_true rfl) ⟨by show 30 + k + 1 ≤ 50; omega, by show 300 + 6 * k + 6 ≤ 500; omega⟩ ?_
          refine aw_istore_n C dX4_isSame_279 St3 rfl ?_
          refine aw_iload C dX4_isSame_280 Lk5 ?_
          refine aw_aload_n C dX4_isSame_282 Lk0 ?_
          refine aw_g_gets C O dX4_isSame_283 (by decide +kernel) (by decide +kernel) ?_
          refine aw_iload C dX4_isSame_286 Lk9 ?_
          refine aw_il C Gt hkm dX4_isSame_288 ?_
          rw [hgv k hkm]
          refine aw_aload_n C dX4_isSame_289 Lk0 ?_
          refine aw_g_has C O dX4_isSame_290 (by decide +kernel) (by decide +kernel) ?_
          refine aw_iload C dX4_isSame_293 Lk9 ?_
          refine aw_il C A1 hkm dX4_isSame_295 ?_
          rw [hf k hkm]
          refine aw_icmp_eq C dX4_isSame_296 (tgt := 303) (by decide) (fun c_296 => ?_) (fun c_296 => absurd (by have h8 := of_decide_eq_false hb; exact Classical.not_not.mp h8) c_296)
          refine aw_iconst C dX4_isSame_303 (x := nI 0) (by decide) ?_
          exact aW_wk (h304 false hb.symm) (Wk.k (Wk.k (Wk.k (Wk.k (Wk.k (Wk.k (Wk.k (Wk.k (Wk.k (Wk.k (Wk.k (Wk.d (Wk.d Wk.n)))))))))))))
        · skip
          refine aw_iload_n C dX4_isSame_268 Lk3 ?_
          refine aw_aload_n C dX4_isSame_269 Lk0 ?_
          refine aw_g_rounds C O dX4_isSame_270 (by decide +kernel) (by decide +kernel) ?_
          refine aw_iload C dX4_isSame_273 Lk9 ?_
          refine aw_il C Ro hkm dX4_isSame_275 ?_
          rw [hdv k hkm]
          refine aw_mmax C dX4_isSame_276 rfl (by decide +kernel) (by decide +kernel) (by decide +kernel) (by decide +kernel) (Nat.le_of_ble_eq_true rfl) (Nat.le_of_ble_eq_true rfl) ⟨by show 30 + k + 1 ≤ 50; omega, by show 300 + 6 * k + 6 ≤ 500; omega⟩ ?_
          refine aw_istore_n C dX4_isSame_279 St3 rfl ?_
          refine aw_iload C dX4_isSame_280 Lk5 ?_
          refine aw_aload_n C dX4_isSame_282 Lk0 ?_
          refine aw_g_gets C O dX4_isSame_283 (by decide +kernel) (by decide +kernel) ?_
          refine aw_iload C dX4_isSame_286 Lk9 ?_
          refine aw_il C Gt hkm dX4_isSame_288 ?_
          rw [hgv k hkm]
          refine aw_aload_n C dX4_isSame_289 Lk0 ?_
          refine aw_g_has C O dX4_isSame_290 (by decide +kernel) (by decide +kernel) ?_
          refine aw_iload C dX4_isSame_293 Lk9 ?_
          refine aw_il C A1 hkm dX4_isSame_295 ?_
          rw [hf k hkm]
          refine aw_icmp_eq C dX4_isSame_296 (tgt := 303) (by decide) (fun c_296 => absurd c_296 (of_decide_eq_true hb)) (fun c_296 => ?_)
          refine aw_iconst C dX4_isSame_299 (x := nI 1) (by decide) ?_
          refine aw_goto C dX4_isSame_300 (tgt := 304) (by decide) ?_
          exact aW_wk (h304 true hb.symm) (Wk.k (Wk.k (Wk.k (Wk.k (Wk.k (Wk.k (Wk.k (Wk.k (Wk.k (Wk.k (Wk.k (Wk.d (Wk.d Wk.n)))))))))))))
      have h231 : ∀ (j w : Nat), w + j = m → aW pM l eM rmX4_isSame sM mM argsM belowM methM cM (MQ belowM (gQ D (49 + (3 + m)) a szM (fun r n' a' v' => r = some (.int 1) ∧ 49 + (3 + m) ≤ n')) argsM sM 50 500 AM) D AM (30 + k + 1) (300 + 6 * k + 6) (49 + (3 + m + 1 + 1 + 1 + 1 + m) + 1) a5 y5 231 [some (.ref bs), some (.ref (ac 44)), some (.int (nI m)), some (.int (rMax (FD (TL h m L) (t0A m) m) k)), some (.int (nI (fb_ct (ldS (TL h m L) (t0A m) (rn (TL h m L) (t0A m) m)) k))), some (.int (nI (fb_ct (anP m h L) k))), some (.int (rSum (fun k => rkP h L k (gF m h L k)) k)), some (.int (rMax (FZ (TL h m L) (t0A m) m) k)), some (.int (rSum (FD (TL h m L) (t0A m) m) k)), some (.int (nI k)), some (.ref (a5 (49 + (3 + m + 1 + 1 + 1 + 1 + m)))), some (.int (nI w)), none] [] := by
        intro j
        induction j with
        | zero =>
          intro w hw
          refine aw_iload C dX4_isSame_231 Lk11 ?_
          refine aw_iload_n C dX4_isSame_233 Lk2 ?_
          refine aw_icmp_ge C dX4_isSame_234 (tgt := 268) (by decide) (fun c_234 => ?_) (fun c_234 => absurd (nI_le (by omega) (by omega)) c_234)
          exact aW_wk h268 (Wk.k (Wk.k (Wk.k (Wk.k (Wk.k (Wk.k (Wk.k (Wk.k (Wk.k (Wk.k (Wk.k (Wk.d (Wk.d Wk.n)))))))))))))
        | succ j ih4 =>
          intro w hw
          refine aw_iload C dX4_isSame_231 Lk11 ?_
          refine aw_iload_n C dX4_isSame_233 Lk2 ?_
          refine aw_icmp_ge C dX4_isSame_234 (tgt := 268) (by decide) (fun c_234 => absurd c_234 (nI_ge (by omega) (by omega))) (fun c_234 => ?_)
          refine aw_aload_n C dX4_isSame_237 Lk1 ?_
          refine aw_iload C dX4_isSame_238 Lk9 ?_
          refine aw_iload C dX4_isSame_240 Lk11 ?_
          refine aw_iconst C dX4_isSame_242 (x := nI 1) (by decide) ?_
          refine aw_iadd C dX4_isSame_243 ?_
          rw [nI_add]
          refine aw_clr2 C dX4_isSame_244 gX4_isSame_X3_points sX3_points (rm := rmX3_points) (aChk_mk rfl (by show 30 + k + 1 + 0 ≤ 50; omega) (by show 300 + 6 * k + 6 + 0 ≤ 500; omega)) K (f_points H hkm (show w < 1000 by omega)) ?_
          refine aw_aload_n C dX4_isSame_247 Lk0 ?_
          refine aw_g_aims C O dX4_isSame_248 (by decide +kernel) (by decide +kernel) ?_
          refine aw_iload C dX4_isSame_251 Lk9 ?_
          refine aw_rl C Ai hkm (har _ hkm) dX4_isSame_253 ?_
          refine aw_iload C dX4_isSame_254 Lk11 ?_
          refine aw_il C (hAi k hkm) (show w < m by omega) dX4_isSame_256 ?_
          rw [(hAf k hkm).2 w (by omega)]
          refine aw_icmp_eq C dX4_isSame_257 (tgt := 262) (by decide) (fun c_257 => ?_) (fun c_257 => absurd rfl c_257)
          refine aw_iinc C dX4_isSame_262 Lk11 (nI_1 _) St11 rfl ?_
          refine aw_goto C dX4_isSame_265 (tgt := 231) (by decide) ?_
          exact ih4 (w + 1) (by omega)
      have h195 : ∀ (j w : Nat), w + j = m → aW pM l eM rmX4_isSame sM mM argsM belowM methM cM (MQ belowM (gQ D (49 + (3 + m)) a szM (fun r n' a' v' => r = some (.int 1) ∧ 49 + (3 + m) ≤ n')) argsM sM 50 500 AM) D AM (30 + k + 1) (300 + 6 * k + 6) (49 + (3 + m + 1 + 1 + 1 + 1 + m) + 1) a5 y5 195 [some (.ref bs), some (.ref (ac 44)), some (.int (nI m)), some (.int (rMax (FD (TL h m L) (t0A m) m) k)), some (.int (nI (fb_ct (ldS (TL h m L) (t0A m) (rn (TL h m L) (t0A m) m)) k))), some (.int (nI (fb_ct (anP m h L) k))), some (.int (rSum (fun k => rkP h L k (gF m h L k)) k)), some (.int (rMax (FZ (TL h m L) (t0A m) m) k)), some (.int (rSum (FD (TL h m L) (t0A m) m) k)), some (.int (nI k)), some (.ref (a5 (49 + (3 + m + 1 + 1 + 1 + 1 + m)))), some (.int (nI w)), none] [] := by
        intro j
        induction j with
        | zero =>
          intro w hw
          refine aw_iload C dX4_isSame_195 Lk11 ?_
          refine aw_iload_n C dX4_isSame_197 Lk2 ?_
          refine aw_icmp_ge C dX4_isSame_198 (tgt := 228) (by decide) (fun c_198 => ?_) (fun c_198 => absurd (nI_le (by omega) (by omega)) c_198)
          refine aw_iconst C dX4_isSame_228 (x := nI 0) (by decide) ?_
          refine aw_istore C dX4_isSame_229 St11 rfl ?_
          exact h231 m 0 (by omega)
        | succ j ih4 =>
          intro w hw
          refine aw_iload C dX4_isSame_195 Lk11 ?_
          refine aw_iload_n C dX4_isSame_197 Lk2 ?_
          refine aw_icmp_ge C dX4_isSame_198 (tgt := 228) (by decide) (fun c_198 => absurd c_198 (nI_ge (by omega) (by omega))) (fun c_198 => ?_)
          refine aw_aload_n C dX4_isSame_201 Lk1 ?_
          refine aw_iload C dX4_isSame_202 Lk9 ?_
          refine aw_iload C dX4_isSame_204 Lk11 ?_
          refine aw_clr2 C dX4_isSame_206 gX4_isSame_X3_rank sX3_rank (rm := rmX3_rank) (aChk_mk rfl (by show 30 + k + 1 + 0 ≤ 50; omega) (by show 300 + 6 * k + 6 + 0 ≤ 500; omega)) K (f_rank H hkm (show w < m by omega)) ?_
          refine aw_aload_n C dX4_isSame_209 Lk0 ?_
          refine aw_iload C dX4_isSame_210 Lk9 ?_
          refine aw_iload C dX4_isSame_212 Lk11 ?_
          refine aw_srank C dX4_isSame_214 gX4_isSame_X4_rank (aChk_mk rfl (by show 30 + k + 1 + 0 ≤ 50; omega) (by show 300 + 6 * k + 6 + 0 ≤ 500; omega)) SS O.2.1 hkm ?_
          refine aw_icmp_eq C dX4_isSame_217 (tgt := 222) (by decide) (fun c_217 => ?_) (fun c_217 => absurd rfl c_217)
          refine aw_iinc C dX4_isSame_222 Lk11 (nI_1 _) St11 rfl ?_
          refine aw_goto C dX4_isSame_225 (tgt := 195) (by decide) ?_
          exact ih4 (w + 1) (by omega)
      have h150 : ∀ (j w : Nat), w + j = (L k).length → aW pM l eM rmX4_isSame sM mM argsM belowM methM cM (MQ belowM (gQ D (49 + (3 + m)) a szM (fun r n' a' v' => r = some (.int 1) ∧ 49 + (3 + m) ≤ n')) argsM sM 50 500 AM) D AM (30 + k + 1) (300 + 6 * k + 6) (49 + (3 + m + 1 + 1 + 1 + 1 + m) + 1) a5 y5 150 [some (.ref bs), some (.ref (ac 44)), some (.int (nI m)), some (.int (rMax (FD (TL h m L) (t0A m) m) k)), some (.int (nI (fb_ct (ldS (TL h m L) (t0A m) (rn (TL h m L) (t0A m) m)) k))), some (.int (nI (fb_ct (anP m h L) k))), some (.int (rSum (fun k => rkP h L k (gF m h L k)) k)), some (.int (rMax (FZ (TL h m L) (t0A m) m) k)), some (.int (rSum (FD (TL h m L) (t0A m) m) k)), some (.int (nI k)), some (.ref (a5 (49 + (3 + m + 1 + 1 + 1 + 1 + m)))), some (.int (nI w)), none] [] := by
        intro j
        induction j with
        | zero =>
          intro w hw
          refine aw_iload C dX4_isSame_150 Lk11 ?_
          refine aw_aload_n C dX4_isSame_152 Lk0 ?_
          refine aw_g_lists C O dX4_isSame_153 (by decide +kernel) (by decide +kernel) ?_
          refine aw_iload C dX4_isSame_156 Lk9 ?_
          refine aw_rl C R1 hkm (hg k hkm) dX4_isSame_158 ?_
          refine aw_al C (hRa k hkm) dX4_isSame_159 ?_
          refine aw_icmp_ge C dX4_isSame_160 (tgt := 192) (by decide) (fun c_160 => ?_) (fun c_160 => absurd (nI_le (by omega) (by have := (hR k hkm).2.1; omega)) c_160)
          refine aw_iconst C dX4_isSame_192 (x := nI 0) (by decide) ?_
          refine aw_istore C dX4_isSame_193 St11 rfl ?_
          exact h195 m 0 (by omega)
        | succ j ih4 =>
          intro w hw
          refine aw_iload C dX4_isSame_150 Lk11 ?_
          refine aw_aload_n C dX4_isSame_152 Lk0 ?_
          refine aw_g_lists C O dX4_isSame_153 (by decide +kernel) (by decide +kernel) ?_
          refine aw_iload C dX4_isSame_156 Lk9 ?_
          refine aw_rl C R1 hkm (hg k hkm) dX4_isSame_158 ?_
          refine aw_al C (hRa k hkm) dX4_isSame_159 ?_
          refine aw_icmp_ge C dX4_isSame_160 (tgt := 192) (by decide) (fun c_160 => absurd c_160 (nI_ge (by omega) (by have := (hR k hkm).2.1; omega))) (fun c_160 => ?_)
          refine aw_aload_n C dX4_isSame_163 Lk1 ?_
          refine aw_iload C dX4_isSame_164 Lk9 ?_
          refine aw_iload C dX4_isSame_166 Lk11 ?_
          refine aw_clr2 C dX4_isSame_168 gX4_isSame_X3_list sX3_list (rm := rmX3_list) (aChk_mk rfl (by show 30 + k + 1 + 0 ≤ 50; omega) (by show 300 + 6 * k + 6 + 0 ≤ 500; omega)) K (f_list H hkm (show w < (L k).length by omega)) ?_
          refine aw_aload_n C dX4_isSame_171 Lk0 ?_
          refine aw_g_lists C O dX4_isSame_172 (by decide +kernel) (by decide +kernel) ?_
          refine aw_iload C dX4_isSame_175 Lk9 ?_
          refine aw_rl C R1 hkm (hg k hkm) dX4_isSame_177 ?_
          refine aw_iload C dX4_isSame_178 Lk11 ?_
          refine aw_il C (hRa k hkm) (show w < (L k).length by omega) dX4_isSame_180 ?_
          rw [(hR k hkm).2.2 w (by omega)]
          refine aw_icmp_eq C dX4_isSame_181 (tgt := 186) (by decide) (fun c_181 => ?_) (fun c_181 => absurd rfl c_181)
          refine aw_iinc C dX4_isSame_186 Lk11 (nI_1 _) St11 rfl ?_
          refine aw_goto C dX4_isSame_189 (tgt := 150) (by decide) ?_
          exact ih4 (w + 1) (by omega)
      have h116 : ∀ (j w : Nat), w + j = 6 → aW pM l eM rmX4_isSame sM mM argsM belowM methM cM (MQ belowM (gQ D (49 + (3 + m)) a szM (fun r n' a' v' => r = some (.int 1) ∧ 49 + (3 + m) ≤ n')) argsM sM 50 500 AM) D AM (30 + k + 1) (300 + 6 * k + 6) (49 + (3 + m + 1 + 1 + 1 + 1 + m) + 1) a5 y5 116 [some (.ref bs), some (.ref (ac 44)), some (.int (nI m)), some (.int (rMax (FD (TL h m L) (t0A m) m) k)), some (.int (nI (fb_ct (ldS (TL h m L) (t0A m) (rn (TL h m L) (t0A m) m)) k))), some (.int (nI (fb_ct (anP m h L) k))), some (.int (rSum (fun k => rkP h L k (gF m h L k)) k)), some (.int (rMax (FZ (TL h m L) (t0A m) m) k)), some (.int (rSum (FD (TL h m L) (t0A m) m) k)), some (.int (nI k)), some (.ref (a5 (49 + (3 + m + 1 + 1 + 1 + 1 + m)))), some (.int (nI w)), none] [] := by
        intro j
        induction j with
        | zero =>
          intro w hw
          refine aw_iload C dX4_isSame_116 Lk11 ?_
          refine aw_bipush C dX4_isSame_118 (x := nI 6) (by decide) ?_
          refine aw_icmp_ge C dX4_isSame_120 (tgt := 147) (by decide) (fun c_120 => ?_) (fun c_120 => absurd (nI_le (by omega) (by omega)) c_120)
          refine aw_iconst C dX4_isSame_147 (x := nI 0) (by decide) ?_
          refine aw_istore C dX4_isSame_148 St11 rfl ?_
          exact h150 (L k).length 0 (by omega)
        | succ j ih4 =>
          intro w hw
          refine aw_iload C dX4_isSame_116 Lk11 ?_
          refine aw_bipush C dX4_isSame_118 (x := nI 6) (by decide) ?_
          refine aw_icmp_ge C dX4_isSame_120 (tgt := 147) (by decide) (fun c_120 => absurd c_120 (nI_ge (by omega) (by omega))) (fun c_120 => ?_)
          refine aw_aload_n C dX4_isSame_123 Lk1 ?_
          refine aw_iload C dX4_isSame_124 Lk9 ?_
          refine aw_iload C dX4_isSame_126 Lk11 ?_
          refine aw_clr2 C dX4_isSame_128 gX4_isSame_X3_told sX3_told (rm := rmX3_told) (aChk_mk rfl (by show 30 + k + 1 + 0 ≤ 50; omega) (by show 300 + 6 * k + 6 + 0 ≤ 500; omega)) K (f_told H hkm (show w < 6 by omega)) ?_
          refine aw_aload C dX4_isSame_131 Lk10 ?_
          refine aw_iload C dX4_isSame_133 Lk11 ?_
          refine aw_il C Tl (show w < 6 by omega) dX4_isSame_135 ?_
          rw [htf w (by omega)]
          refine aw_icmp_eq C dX4_isSame_136 (tgt := 141) (by decide) (fun c_136 => ?_) (fun c_136 => absurd rfl c_136)
          refine aw_iinc C dX4_isSame_141 Lk11 (nI_1 _) St11 rfl ?_
          refine aw_goto C dX4_isSame_144 (tgt := 116) (by decide) ?_
          exact ih4 (w + 1) (by omega)
      exact h116 6 0 (by omega)
  exact hl m 0 (by omega) a2 v2 O A1 R1 hRa Gt Ro Ri Ai hAi K SS
end SAME
