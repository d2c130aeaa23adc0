/-! the law's build -/
section GAS
variable {p : Program} {l : Launch} {e : Env} {R : Room} {s : State} {m : MethodId} {args : Array Value} {below : List Frame} {meth : Method} {c : Code} {Q : State → Prop} {D : va_G} {tys : List (ClassId × FieldType)} {A : Nat → Prop} {cells slots nL n pc : Nat} {a : Nat → Nat} {v : Nat → va_E} {lv : List (Option Value)} {rest : List Value} {cc bytes : ByteArray} {Ts ws : List Cond} {own C' : String} {ret ret' : Option FieldType} {y : MethodName} {rm : Room} {maxL ix b o mN mc ms : Nat} {G : (Nat → Prop) → State → Prop} {Po : Option Value → Nat → (Nat → Nat) → (Nat → va_E) → Prop}
theorem gw_allS {As : List Value} (CG : gN G p s m args meth c D tys A cc nL Ts own ret) (hG : gH G) (d : decode cc pc = .ok (.invokestatic ix, 3)) (g : GoodIn Ts (va_wsS own ix y ws)) (sy : sY y C' bytes maxL ret' ws As.length) (hk : aChk rm maxL R lv nL cells slots mc ms rest = true) (hge : ∀ r n' a' v', Po r n' a' v' → n ≤ n') (hM : gM l D tys y ws rm G n a v As mc ms Po)
    (k : ∀ r n' a' v', Po r n' a' v' → aW p l e R s m args below meth c Q D A (cells + mc) (slots + ms) n' a' v' (pc + 3) lv (r.toList ++ rest)) : aW p l e R s m args below meth c Q D A cells slots n a v pc lv (As.reverse ++ rest) := by
  have e1 : (fun k => a (0 + k)) = a := funext fun k => by rw [Nat.zero_add]
  have e2 : (fun k => v (0 + k)) = v := funext fun k => by rw [Nat.zero_add]
  refine gw_callS (o := 0) (mN := n) CG hG d g sy hk (by omega) hge (by rw [e1, e2]; exact hM) (fun r n' a' v' hp => ?_)
  have h9 := k r n' a' v' hp
  have h8 := hge _ _ _ _ hp
  rw [blF_all, blF_all, show n + (n' - n) = n' by omega]
  exact h9
theorem gw_allS2 {x1 x2 : Value} (CG : gN G p s m args meth c D tys A cc nL Ts own ret) (hG : gH G) (d : decode cc pc = .ok (.invokestatic ix, 3)) (g : GoodIn Ts (va_wsS own ix y ws)) (sy : sY y C' bytes maxL ret' ws 2) (hk : aChk rm maxL R lv nL cells slots mc ms rest = true) (hge : ∀ r n' a' v', Po r n' a' v' → n ≤ n') (hM : gM l D tys y ws rm G n a v [x1, x2] mc ms Po)
    (k : ∀ r n' a' v', Po r n' a' v' → aW p l e R s m args below meth c Q D A (cells + mc) (slots + ms) n' a' v' (pc + 3) lv (r.toList ++ rest)) : aW p l e R s m args below meth c Q D A cells slots n a v pc lv (x2 :: x1 :: rest) := gw_allS (As := [x1, x2]) CG hG d g sy hk hge hM k
theorem gw_allS3 {x1 x2 x3 : Value} (CG : gN G p s m args meth c D tys A cc nL Ts own ret) (hG : gH G) (d : decode cc pc = .ok (.invokestatic ix, 3)) (g : GoodIn Ts (va_wsS own ix y ws)) (sy : sY y C' bytes maxL ret' ws 3) (hk : aChk rm maxL R lv nL cells slots mc ms rest = true) (hge : ∀ r n' a' v', Po r n' a' v' → n ≤ n') (hM : gM l D tys y ws rm G n a v [x1, x2, x3] mc ms Po)
    (k : ∀ r n' a' v', Po r n' a' v' → aW p l e R s m args below meth c Q D A (cells + mc) (slots + ms) n' a' v' (pc + 3) lv (r.toList ++ rest)) : aW p l e R s m args below meth c Q D A cells slots n a v pc lv (x3 :: x2 :: x1 :: rest) := gw_allS (As := [x1, x2, x3]) CG hG d g sy hk hge hM k
/-- a private constructor of a nest mate -/
theorem gw_callIN {As : List Value} {host : String} (CG : gN G p s m args meth c D tys A cc nL Ts own ret) (hG : gH G) (d : decode cc pc = .ok (.invokespecial ix, 3)) (g : GoodIn Ts ws) (sy : sY y C' bytes maxL none ws As.length) (hini : Cond.initialized C' ∈ Ts) (hlk : va_Nw (.methodLinkNest own ix y host) s) (hinst : Cond.instanceMethod y ∈ Ts) (hy1 : y.name = "<init>") (hk : aChk rm maxL R lv nL cells slots mc ms rest = true) (ho : o + mN ≤ n) (hge : ∀ r n' a' v', Po r n' a' v' → mN ≤ n') (hM : gM l D tys y ws rm G mN (fun k => a (o + k)) (fun k => v (o + k)) (.ref b :: As) mc ms Po)
    (k : ∀ r n' a' v', Po r n' a' v' → aW p l e R s m args below meth c Q D A (cells + mc) (slots + ms) (n + (n' - mN)) (blF o mN n a a') (blF o mN n v v') (pc + 3) lv (r.toList ++ rest)) : aW p l e R s m args below meth c Q D A cells slots n a v pc lv (As.reverse ++ .ref b :: rest) := by
  obtain ⟨hR, hrc, hrs, hnl, hcs, hst⟩ := aChk_spec hk
  obtain ⟨⟨ws', hw⟩, s1, s2, s3, s4, -⟩ := sy
  obtain ⟨C, hg⟩ := CG
  refine gw_runs (rest := rest) (x := (Value.ref b :: As).toArray) (mc := mc) (ms := ms) C ho hge (fun H locs ls hP hJ hS hfree hL => ?_) k
  exact va_runIN (As := As) (rest := rest) (g := F0 m pc ls (As.reverse ++ .ref b :: rest)) C.1 (hM H.size) ⟨va_cnB As.length C.1.2.2.2.2 g hw hrc hrs hlk (by rw [s1]; exact C.1.2.2.2.2 _ hini) ⟨s2, s3, s4⟩ hR, hy1, C.1.2.2.2.2 _ hinst⟩ ⟨gB_blind hG, fun U hU hW => ⟨rfl, ⟨by rw [hU], by rw [hU]; exact hP, va_K.moved hW.alike C.2.1, hJ⟩, hG.2 _ _ _ _ _ _ hS hU hW hfree hg⟩⟩ rfl rfl (hL.1.trans hnl) rfl (lv_room hst) d hcs
end GAS
section LCEL
variable {p : Program} {l : Launch} {e : Env} {R : Room} {s : State} {m : MethodId} {args : Array Value} {below : List Frame} {meth : Method} {c : Code} {Q : State → Prop} {D : va_G} {A : Nat → Prop} {cells slots nL n pc ix b9 N i : Nat} {xs : Nat → Int32} {a : Nat → Nat} {v : Nat → va_E} {lv : List (Option Value)} {rest : List Value} {cc : ByteArray} {Ts : List Cond} {own : String} {ret : Option FieldType} {cI cZ cR cJ : ClassId}
theorem gw_cell (CG : gN (gS b9 N xs) p s m args meth c D (cTys cI cZ cR cJ) A cc nL Ts own ret) (d : decode cc pc = .ok (.invokestatic ix, 3)) (g : GoodIn Ts (va_wsS own ix yL_cell wsL_cell)) (hk : aChk rmL_cell 2 R lv nL cells slots 0 0 rest = true) (hi : i < 1000) (hN : N < 2 ^ 31)
    (k : ∀ x, aW p l e R s m args below meth c Q D A cells slots n a v (pc + 3) lv (.int x :: rest)) : aW p l e R s m args below meth c Q D A cells slots n a v pc lv (.int (nI i) :: .ref b9 :: rest) := by
  refine gw_blS2 (o := 0) (mN := 0) (mc := 0) (ms := 0) CG gS_H d g sL_cell hk (Nat.zero_le _) (fun r n' a' v' _ => Nat.zero_le _) (c_L_cell hi hN) (fun r n' a' v' hp => ?_)
  obtain ⟨rfl, x, rfl⟩ := hp
  refine aW_cong (a' := a) (v' := v) (fun j hj => ?_) (fun j hj => ?_) (k x)
  · simp only [blF]; rw [if_pos (by omega), if_neg (by omega)]
  · simp only [blF]; rw [if_pos (by omega), if_neg (by omega)]
/-- below, in any world -/
theorem aw_below {x : Int32} {mm : Nat} (C : aC p s m args meth c D (cTys cI cZ cR cJ) A cc nL Ts own ret) (d : decode cc pc = .ok (.invokestatic ix, 3)) (g : GoodIn Ts (va_wsS own ix yL_below wsL_below)) (hk : aChk rmL_below 2 R lv nL cells slots 0 0 rest = true) (h0 : 0 < mm) (h1 : mm < 2 ^ 31)
    (k : ∀ j, j < mm → aW p l e R s m args below meth c Q D A cells slots n a v (pc + 3) lv (.int (nI j) :: rest)) : aW p l e R s m args below meth c Q D A cells slots n a v pc lv (.int (nI mm) :: .int x :: rest) := by
  obtain ⟨j, hj, hB⟩ := c_L_below (l := l) (D := D) (cI := cI) (cZ := cZ) (cR := cR) (cJ := cJ) (v := x) h0 h1
  exact aw_subS (As := [.int x, .int (nI mm)]) (n0 := 0) (a0 := a) (v0 := v) (v0' := v) (v1 := v) (f := fun k => k) C d g sL_below hk (fun k hk => absurd hk (by omega)) (fun k hk => absurd hk (by omega)) (fun i j hi _ _ => absurd hi (by omega)) (fun k hk => absurd hk (by omega)) (fun k hk => absurd hk (by omega)) (fun _ _ _ => rfl) (hB a v) (k j hj)
end LCEL
section BUILD
variable {l : Launch} {D : va_G} {cI cZ cR cJ : ClassId}
set_option maxHeartbeats 8000000 in
set_option maxRecDepth 100000 in
theorem c_L_build {a : Nat → Nat} {v : Nat → va_E} {ac : Nat → Nat} {σ : CS} {h0 : Nat → Nat} {L0 : Nat → List Nat} {b9 N : Nat} {xs : Nat → Int32} (K : Cl cI cR 49 a v ac σ) (H : HInv σ 0 h0 L0) (hN : N < 2 ^ 31) : gM l D (cTys cI cZ cR cJ) yL_build wsL_build rmL_build (gS b9 N xs) 49 a v [.ref (ac 44), .ref b9] 2000 20000 (fun r n' a' v' => ∃ bs σ' m' h' L', r = some (.ref bs) ∧ 1 ≤ m' ∧ LawW cI cR cJ n' a' v' ac bs σ' m' h' L') := by
  refine gM_of sL_build (lv0 := [some (.ref (ac 44)), some (.ref b9), none, none, none]) (j := 3) rfl rfl ?_
  intro pM eM sM mM argsM belowM methM cM AM szM CG hA9
  have C := CG.1
  have CA : gN gA pM sM mM argsM methM cM D (cTys cI cZ cR cJ) AM cL_build 5 wsL_build RL (some (.object "HutRingsLaw$Sim")) := ⟨CG.1, CG.2.1⟩
  refine aw_new C dL_build_0 (ci := 4) (fs := [.null, .null, .null, .null, .null, .null]) (T := TX4) (ty := tyX4) (by decide +kernel) tyX4_ok (by decide +kernel) (by decide +kernel) (by decide +kernel) rfl (by decide) (Nat.le_of_ble_eq_true rfl) (Nat.le_of_ble_eq_true rfl) (fun q1 => ?_)
  refine aw_dup C dL_build_3 rfl ?_
  have O1 : Ob 1 (fun k => aPu 49 a q1 (49 + k)) (fun k => vPu 49 v (.inr (4, [.null, .null, .null, .null, .null, .null])) (49 + k)) 0 q1 [.null, .null, .null, .null, .null, .null] := ⟨by omega, rfl, rfl⟩
  refine gw_callIN (As := []) (o := 49) (mN := 1) (rm := rmX4_init) (mc := 2) (ms := 0) CG gS_H dL_build_4 gL_build_X4_init_n56 sX4_init (by decide +kernel) CG.2.2.1 (by decide +kernel) rfl rfl (Nat.le_refl _) (fun r n' a' v' h9 => by have := h9.2.1; omega) (c_X4_init (fun _ _ h => h.1) O1) (fun r n' a' v' hp => ?_)
  obtain ⟨rfl, rfl, ha0, S2⟩ := hp
  have K2 : Cl cI cR 52 (blF 49 1 50 (aPu 49 a q1) a') (blF 49 1 50 (vPu 49 v (.inr (4, [.null, .null, .null, .null, .null, .null]))) v') ac σ := ⟨by omega, fun k hk => (blF_out (by omega) (Or.inl hk)).trans ((aPu_lt hk).trans (K.2.1 k hk)), fun k hk => (blF_out (by omega) (Or.inl hk)).trans ((vPu_lt hk).trans (K.2.2 k hk))⟩
  have LW0 : LawW cI cR cJ 52 (blF 49 1 50 (aPu 49 a q1) a') (blF 49 1 50 (vPu 49 v (.inr (4, [.null, .null, .null, .null, .null, .null]))) v') ac q1 σ 0 h0 L0 := by
    refine ⟨rfl, K2, ?_, (S2 h0 L0).is (fun k => blF_end rfl) (fun k => blF_end rfl) rfl, H⟩
    show blF 49 1 50 (aPu 49 a q1) a' (49 + 0) = q1
    rw [blF_end rfl]; exact ha0
  refine aw_widen (k := 3) (n9 := 6) (by omega) (by omega) ?_
  show aW pM l eM rmL_build sM mM argsM belowM methM cM (MQ belowM (gQ D 49 a szM (fun r n' a' v' => ∃ bs σ' m' h' L', r = some (.ref bs) ∧ 1 ≤ m' ∧ LawW cI cR cJ n' a' v' ac bs σ' m' h' L')) argsM sM 2000 20000 AM) D AM (3) (6) 52 (blF 49 1 50 (aPu 49 a q1) a') (blF 49 1 50 (vPu 49 v (.inr (4, [.null, .null, .null, .null, .null, .null]))) v') 7 [some (.ref (ac 44)), some (.ref b9), none, none, none] [.ref q1]
  refine aw_astore_n C dL_build_7 St2 rfl ?_
  refine aw_iconst C dL_build_8 (x := nI 1) (by decide) ?_
  refine aw_aload_n C dL_build_9 Lk1 ?_
  refine aw_iconst C dL_build_10 (x := nI 0) (by decide) ?_
  refine gw_cell CG dL_build_11 gL_build_L_cell rfl (by omega) hN (fun x0 => ?_)
  refine aw_bipush C dL_build_14 (x := nI 10) (by decide) ?_
  refine aw_below C dL_build_16 gL_build_L_below rfl (by omega) (by omega) (fun j0 hj0 => ?_)
  refine aw_iadd C dL_build_19 ?_
  rw [nI_add]
  refine aw_istore_n C dL_build_20 St3 rfl ?_
  refine aw_iconst C dL_build_21 (x := nI 0) (by decide) ?_
  refine aw_istore C dL_build_22 St4 rfl ?_
  have hl2 : ∀ (j i : Nat), i + j = 40 → ∀ (nn : Nat) (aa : Nat → Nat) (vv : Nat → va_E) (σ : CS) (m : Nat) (h : Nat → Nat) (L : Nat → List Nat), 1 ≤ m → LawW cI cR cJ nn aa vv ac q1 σ m h L → aW pM l eM rmL_build sM mM argsM belowM methM cM (MQ belowM (gQ D 49 a szM (fun r n' a' v' => ∃ bs σ' m' h' L', r = some (.ref bs) ∧ 1 ≤ m' ∧ LawW cI cR cJ n' a' v' ac bs σ' m' h' L')) argsM sM 2000 20000 AM) D AM (40 + 40 * i) (400 + 400 * i) nn aa vv 54 [some (.ref (ac 44)), some (.ref b9), some (.ref q1), none, some (.int (nI i))] [] := by
    intro j
    induction j with
    | zero =>
      intro i hi nn aa vv σ m h L hm LW
      refine aw_iload C dL_build_54 Lk4 ?_
      refine aw_bipush C dL_build_56 (x := nI 40) (by decide) ?_
      refine aw_icmp_ge C dL_build_58 (tgt := 101) (by decide) (fun c_58 => ?_) (fun c_58 => absurd (nI_le (by omega) (by omega)) c_58)
      refine aw_aload_n C dL_build_101 Lk2 ?_
      exact gw_aret C hA9 dL_build_102 (by omega) (by omega) ⟨q1, σ, m, h, L, rfl, hm, LW⟩
    | succ j ih =>
      intro i hi nn aa vv σ m h L hm LW
      refine aw_iload C dL_build_54 Lk4 ?_
      refine aw_bipush C dL_build_56 (x := nI 40) (by decide) ?_
      refine aw_icmp_ge C dL_build_58 (tgt := 101) (by decide) (fun c_58 => absurd c_58 (nI_ge (by omega) (by omega))) (fun c_58 => ?_)
      refine aw_aload_n C dL_build_61 Lk0 ?_
      refine aw_aload_n C dL_build_62 Lk2 ?_
      refine aw_aload_n C dL_build_63 Lk1 ?_
      refine aw_iload C dL_build_64 Lk4 ?_
      refine aw_bipush C dL_build_66 (x := nI 16) (by decide) ?_
      refine aw_irem C dL_build_68 (by decide) ?_
      rw [pk_rem (by omega) (by decide) (by decide)]
      refine gw_cell CG dL_build_69 gL_build_L_cell (aChk_mk rfl (by show 40 + 40 * i + 0 ≤ 2000; omega) (by show 400 + 400 * i + 0 ≤ 20000; omega)) (by omega) hN (fun x1 => ?_)
      refine aw_iload C dL_build_72 Lk4 ?_
      refine aw_bipush C dL_build_74 (x := nI 16) (by decide) ?_
      refine aw_idiv C dL_build_76 (by decide) ?_
      refine aw_iconst C dL_build_77 (x := nI 4) (by decide) ?_
      refine aw_imul C dL_build_78 ?_
      refine aw_ishr C dL_build_79 (fun w79 => ?_)
      refine aw_sipush C dL_build_80 (x := nI 223) (by decide) ?_
      refine aw_iload C dL_build_83 Lk4 ?_
      refine aw_imul C dL_build_85 ?_
      refine aw_iadd C dL_build_86 ?_
      refine gw_allS3 (rm := rmL_act) (mc := 40) (ms := 400) CA gA_H dL_build_87 gL_build_L_act sL_act (aChk_mk rfl (by show 40 + 40 * i + 40 ≤ 2000; omega) (by show 400 + 400 * i + 400 ≤ 20000; omega)) (fun r n' a' v' h9 => by obtain ⟨-, σ', m', h', L', h1, h2, -⟩ := h9; have h3 := LW.1; omega) (c_L_act LW) (fun r n2 a2 v2 hp => ?_)
      obtain ⟨rfl, σ2, m2, h2, L2, hm2, LW2⟩ := hp
      refine aw_if_ne C dL_build_90 (tgt := 95) (by decide) (fun c_90 => ?_) (fun c_90 => absurd (by decide) c_90)
      refine aw_iinc C dL_build_95 Lk4 (nI_1 _) St4 rfl ?_
      refine aw_goto C dL_build_98 (tgt := 54) (by decide) ?_
      exact aw_widen (by omega) (by omega) (ih (i + 1) (by omega) n2 a2 v2 σ2 m2 h2 L2 (by omega) LW2)
  have hl1 : ∀ (j i : Nat), i + j = 1 + j0 → ∀ (nn : Nat) (aa : Nat → Nat) (vv : Nat → va_E) (σ : CS) (h : Nat → Nat) (L : Nat → List Nat), LawW cI cR cJ nn aa vv ac q1 σ i h L → aW pM l eM rmL_build sM mM argsM belowM methM cM (MQ belowM (gQ D 49 a szM (fun r n' a' v' => ∃ bs σ' m' h' L', r = some (.ref bs) ∧ 1 ≤ m' ∧ LawW cI cR cJ n' a' v' ac bs σ' m' h' L')) argsM sM 2000 20000 AM) D AM (3 + 3 * i) (6 + 22 * i) nn aa vv 24 [some (.ref (ac 44)), some (.ref b9), some (.ref q1), some (.int (nI (1 + j0))), some (.int (nI i))] [] := by
    intro j
    induction j with
    | zero =>
      intro i hi nn aa vv σ h L LW
      refine aw_iload C dL_build_24 Lk4 ?_
      refine aw_iload_n C dL_build_26 Lk3 ?_
      refine aw_icmp_ge C dL_build_27 (tgt := 51) (by decide) (fun c_27 => ?_) (fun c_27 => absurd (nI_le (by omega) (by omega)) c_27)
      refine aw_iconst C dL_build_51 (x := nI 0) (by decide) ?_
      refine aw_istore C dL_build_52 St4 rfl ?_
      exact aw_widen (by omega) (by omega) (aW_wk (hl2 40 0 (by omega) nn aa vv σ i h L (by omega) LW) (Wk.k (Wk.k (Wk.k (Wk.d (Wk.k Wk.n))))))
    | succ j ih =>
      intro i hi nn aa vv σ h L LW
      obtain ⟨rfl, K, hbs, S, H⟩ := LW
      obtain ⟨hm, x2, x3, x4, x5, f, g, rf, O, -, -, -⟩ := S.ex (Nat.le_refl _) hbs
      have hK := c_X4_come (l := l) (D := D) (cZ := cZ) (cR := cR) (G := gA) (fun _ _ h => h) S (by omega)
      rw [show aa (49 + 0) = q1 from hbs] at hK
      refine aw_iload C dL_build_24 Lk4 ?_
      refine aw_iload_n C dL_build_26 Lk3 ?_
      refine aw_icmp_ge C dL_build_27 (tgt := 51) (by decide) (fun c_27 => absurd c_27 (nI_ge (by omega) (by omega))) (fun c_27 => ?_)
      refine aw_aload_n C dL_build_30 Lk2 ?_
      refine gw_blV0 (o := 49) (mN := 3 + i) (rm := rmX4_come) (mc := 3) (ms := 22) CA gA_H dL_build_31 gL_build_X4_come sX4_come (aChk_mk rfl (by show 3 + 3 * i + 3 ≤ 2000; omega) (by show 6 + 22 * i + 22 ≤ 20000; omega)) (Nat.le_refl _) (fun r n' a' v' h9 => by have := h9.2.1; omega) ⟨0, 4, _, TX4, 6, by omega, hbs, O.2.2, rfl⟩ hK (fun r n' a' v' hp => ?_)
      obtain ⟨rfl, rfl, ha0, S2⟩ := hp
      have hn2 : 49 + (3 + i) + (3 + (i + 1) - (3 + i)) = 49 + (3 + (i + 1)) := by omega
      rw [hn2]
      have K2 : Cl cI cR (49 + (3 + (i + 1))) (blF 49 (3 + i) (49 + (3 + i)) aa a') (blF 49 (3 + i) (49 + (3 + i)) vv v') ac σ := ⟨by omega, fun k hk => (blF_out (by omega) (Or.inl hk)).trans (K.2.1 k hk), fun k hk => (blF_out (by omega) (Or.inl hk)).trans (K.2.2 k hk)⟩
      obtain ⟨σ', H', hMc⟩ := f_come (l := l) (D := D) (cI := cI) (cZ := cZ) (cR := cR) (cJ := cJ) (a := ac) H (by omega)
      refine aw_aload_n C dL_build_34 Lk0 ?_
      refine aw_clm0 C dL_build_35 gL_build_X3_come sX3_come (rm := rmX3_come) (aChk_mk rfl (by show 3 + 3 * i + 3 + 0 ≤ 2000; omega) (by show 6 + 22 * i + 22 + 0 ≤ 20000; omega)) K2 hMc (fun v3 K3 hv3 => ?_)
      refine aw_iload C dL_build_38 Lk4 ?_
      refine aw_icmp_eq C dL_build_40 (tgt := 45) (by decide) (fun c_40 => ?_) (fun c_40 => absurd rfl c_40)
      refine aw_iinc C dL_build_45 Lk4 (nI_1 _) St4 rfl ?_
      refine aw_goto C dL_build_48 (tgt := 24) (by decide) ?_
      have h9 := ih (i + 1) (by omega) _ _ v3 σ' _ _ ⟨rfl, K3, (by
        show blF 49 (3 + i) (49 + (3 + i)) aa a' (49 + 0) = q1
        rw [blF_end rfl]; exact ha0), S2.is (fun k => blF_end rfl) (fun k => (hv3 _ (by omega)).trans (blF_end rfl)) rfl, H'⟩
      exact aw_widen (by omega) (by omega) h9
  exact hl1 (1 + j0) 0 (by omega) 52 _ _ σ h0 L0 LW0
end BUILD
