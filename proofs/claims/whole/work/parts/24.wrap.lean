/-! the methods of the law that catch -/
theorem lw_c {cI cZ cR cJ : ClassId} {a : Nat → Nat} {σ : CS} {τ : MS} {o : Nat → Int64} {k : Nat} (h : k < 49) : lw cI cZ cR cJ a σ τ o k = cv cI cR a σ k := if_pos h
theorem lw_m {cI cZ cR cJ : ClassId} {a : Nat → Nat} {σ : CS} {τ : MS} {o : Nat → Int64} {k : Nat} (h : k < 9) : lw cI cZ cR cJ a σ τ o (49 + k) = mv cI cZ (fun j => a (49 + j)) τ k := by
  simp only [lw]
  rw [if_neg (by omega), if_pos (by omega), Nat.add_sub_cancel_left]
theorem lw_c2 {cI cZ cR cJ : ClassId} {a : Nat → Nat} {σ σ' : CS} {τ : MS} {o : Nat → Int64} {k : Nat} (h : ¬ k < 49) : lw cI cZ cR cJ a σ' τ o k = lw cI cZ cR cJ a σ τ o k := by
  simp only [lw]
  rw [if_neg h, if_neg h]
theorem lw_m2 {cI cZ cR cJ : ClassId} {a : Nat → Nat} {σ : CS} {τ τ' : MS} {o : Nat → Int64} {k : Nat} (h : ¬ (49 ≤ k ∧ k < 58)) : lw cI cZ cR cJ a σ τ' o k = lw cI cZ cR cJ a σ τ o k := by
  simp only [lw]
  by_cases h1 : k < 49
  · rw [if_pos h1, if_pos h1]
  · rw [if_neg h1, if_neg h1, if_neg (show ¬ k < 58 by omega), if_neg (show ¬ k < 58 by omega)]
theorem lw_o {cI cZ cR cJ : ClassId} {a : Nat → Nat} {σ : CS} {τ : MS} {o : Nat → Int64} : lw cI cZ cR cJ a σ τ o 58 = .inl (cJ, 1, .inr (.inl o)) := rfl
theorem lw_so {cI cZ cR cJ : ClassId} {a : Nat → Nat} {σ : CS} {τ : MS} {o o' : Nat → Int64} : wset (lw cI cZ cR cJ a σ τ o) 58 (.inl (cJ, 1, .inr (.inl o'))) = lw cI cZ cR cJ a σ τ o' := by
  funext k
  simp only [wset, lw]
  by_cases e : k = 58
  · subst e; rfl
  · rw [if_neg e]
    by_cases h1 : k < 49
    · rw [if_pos h1, if_pos h1]
    · rw [if_neg h1, if_neg h1]
      by_cases h2 : k < 58
      · rw [if_pos h2, if_pos h2]
      · rw [if_neg h2, if_neg h2, if_neg e, if_neg e]
section WRAP
variable {p : Program} {l : Launch} {e : Env} {R : Room} {s : State} {m : MethodId} {args : Array Value} {below : List Frame} {meth : Method} {c : Code} {Q : State → Prop} {D : va_G} {A : Nat → Prop} {cells slots nL pc : Nat} {a : Nat → Nat} {lv : List (Option Value)} {st rest : List Value} {cc bytes : ByteArray} {Ts ws : List Cond} {own : String} {ret ret' : Option FieldType} {y : MethodName} {rm : Room} {maxL ix : Nat} {r : Option Value} {cI cZ cR cJ : ClassId} {σ σ' : CS} {τ τ' : MS} {o : Nat → Int64}
theorem aw_lc {As : List Value} (C : aC p s m args meth c D (cTys cI cZ cR cJ) A cc nL Ts own ret) (d : decode cc pc = .ok (.invokevirtual ix, 3)) (g : GoodIn Ts (wsV own ix RX3 y ws)) (sy : sY y RX3 bytes maxL ret' ws As.length) (hk : aChk rm maxL R lv nL cells slots 0 0 rest = true)
    (hM : aM l D (cTys cI cZ cR cJ) 49 a y ws rm (.ref (a 44) :: As) (cv cI cR a σ) r (cv cI cR a σ'))
    (k : aW p l e R s m args below meth c Q D A cells slots 59 a (lw cI cZ cR cJ a σ' τ o) (pc + 3) lv (r.toList ++ rest)) : aW p l e R s m args below meth c Q D A cells slots 59 a (lw cI cZ cR cJ a σ τ o) pc lv (As.reverse ++ .ref (a 44) :: rest) :=
  aw_subV (n0 := 49) (a0 := a) (v0 := cv cI cR a σ) (v0' := cv cI cR a σ') (f := fun k => k) C d g sy hk (fun k hk => by omega) (fun k hk => rfl) (fun i j _ _ h => h) (fun k hk => lw_c hk) (fun k hk => lw_c hk) (fun k _ hj => lw_c2 (fun h => hj k h rfl)) recHut hM k
theorem aw_lm {As : List Value} (C : aC p s m args meth c D (cTys cI cZ cR cJ) A cc nL Ts own ret) (d : decode cc pc = .ok (.invokevirtual ix, 3)) (g : GoodIn Ts (wsV own ix RX4 y ws)) (sy : sY y RX4 bytes maxL ret' ws As.length) (hk : aChk rm maxL R lv nL cells slots 0 0 rest = true)
    (hM : aM l D (cTys cI cZ cR cJ) 9 (fun j => a (49 + j)) y ws rm (.ref (a 49) :: As) (mv cI cZ (fun j => a (49 + j)) τ) r (mv cI cZ (fun j => a (49 + j)) τ'))
    (k : aW p l e R s m args below meth c Q D A cells slots 59 a (lw cI cZ cR cJ a σ τ' o) (pc + 3) lv (r.toList ++ rest)) : aW p l e R s m args below meth c Q D A cells slots 59 a (lw cI cZ cR cJ a σ τ o) pc lv (As.reverse ++ .ref (a 49) :: rest) :=
  aw_subV (n0 := 9) (a0 := fun j => a (49 + j)) (v0 := mv cI cZ (fun j => a (49 + j)) τ) (v0' := mv cI cZ (fun j => a (49 + j)) τ') (f := fun k => 49 + k) C d g sy hk (fun k hk => by omega) (fun k hk => rfl) (fun i j _ _ h => by omega) (fun k hk => lw_m hk) (fun k hk => lw_m hk) (fun k _ hj => lw_m2 (fun h => hj (k - 49) (by omega) (by omega))) recMod hM k
theorem aw_lt {As : List Value} {E : String} (C : aC p s m args meth c D (cTys cI cZ cR cJ) A cc nL Ts own ret) (hU : aU A s) (d : decode cc pc = .ok (.invokevirtual ix, 3)) (g : GoodIn Ts (wsV own ix RX3 y ws)) (sy : sY y RX3 bytes maxL ret' ws As.length) (hk : aChk rm maxL R lv nL cells slots 1 6 rest = true)
    (hM : aT l D (cTys cI cZ cR cJ) 49 a y ws rm (.ref (a 44) :: As) (cv cI cR a σ) E) (pre : List ExceptionTableEntry) (x : ExceptionTableEntry) (suf : List ExceptionTableEntry) (hsplit : c.exceptionTable.toList = pre ++ x :: suf)
    (hpass : ∀ z ∈ pre, covers z pc = false ∨ (z.catchType ≠ 0 ∧ ∃ nm : String, (Cond.classLink own z.catchType nm).before args s = true ∧ va_Nc E nm s)) (hx : covers x pc = true) (h0 : x.catchType ≠ 0) (hlink : Cond.classLink own x.catchType E ∈ Ts) (hE : E ∈ aEx)
    (k : ∀ q, aW p l e R s m args below meth c Q D A (cells + 1) (slots + 6) 59 a (lw cI cZ cR cJ a σ τ o) x.handlerPc lv [.ref q]) : aW p l e R s m args below meth c Q D A cells slots 59 a (lw cI cZ cR cJ a σ τ o) pc lv (As.reverse ++ .ref (a 44) :: rest) :=
  aw_subT (n0 := 49) (a0 := a) (v0 := cv cI cR a σ) (f := fun k => k) C hU d g sy hk (fun k hk => by omega) (fun k hk => rfl) (fun i j _ _ h => h) (fun k hk => lw_c hk) recHut hM pre x suf hsplit hpass hx h0 hlink hE k
theorem aw_lst {x : Int64} (C : aC p s m args meth c D (cTys cI cZ cR cJ) A cc nL Ts own ret) (d : decode cc pc = .ok (.lastore, 1)) (k : aW p l e R s m args below meth c Q D A cells slots 59 a (lw cI cZ cR cJ a σ τ (vp_updL o 0 x)) (pc + 1) lv st) : aW p l e R s m args below meth c Q D A cells slots 59 a (lw cI cZ cR cJ a σ τ o) pc lv (.long x :: .int (nI 0) :: .ref (a 58) :: st) := fun H locs ls hP hD hS hL =>
  va_last C.1.1 C.1.2.1 C.2.1 hP hD hS 58 3 (by rw [wv_get (by omega), lw_o]) rfl (vp_in_nI (by omega) (by omega)) d (fun H1 locs1 hP1 hD1 hS1 => by
    rw [nI_clamp (by omega), wv_set (by omega), lw_so] at hP1 hD1
    exact k H1 locs1 ls hP1 hD1 hS1 hL)
theorem aw_lld (C : aC p s m args meth c D (cTys cI cZ cR cJ) A cc nL Ts own ret) (d : decode cc pc = .ok (.laload, 1)) (k : aW p l e R s m args below meth c Q D A cells slots 59 a (lw cI cZ cR cJ a σ τ o) (pc + 1) lv (.long (o 0) :: st)) : aW p l e R s m args below meth c Q D A cells slots 59 a (lw cI cZ cR cJ a σ τ o) pc lv (.int (nI 0) :: .ref (a 58) :: st) := fun H locs ls hP hD hS hL =>
  va_lald C.1.1 C.1.2.1 C.2.1 hP 58 3 (by rw [wv_get (by omega), lw_o]) rfl (vp_in_nI (by omega) (by omega)) d (by
    rw [nI_clamp (by omega)]
    exact k H locs ls hP hD hS hL)
end WRAP
section WRAPS
variable {l : Launch} {D : va_G} {cI cZ cR cJ : ClassId} {a : Nat → Nat} {σ σ' : CS} {τ : MS} {o : Nat → Int64}
abbrev rmL_come : Room := { frames := 7, cells := 1, slots := 6, locals := 154 }
theorem sL_come : sYh yL_come RL cL_come 3 (some .int) [(0, 8, 11, 13)] wsL_come 2 := ⟨⟨_, rfl⟩, rfl, by decide, by decide, by decide +kernel, by decide +kernel⟩
set_option maxHeartbeats 4000000 in
set_option maxRecDepth 100000 in
theorem c_L_come {r : Int32} (hM : aM l D (cTys cI cZ cR cJ) 49 a yX3_come wsX3_come rmX3_come [.ref (a 44)] (cv cI cR a σ) (some (.int r)) (cv cI cR a σ')) : aK l D (cTys cI cZ cR cJ) 59 a yL_come wsL_come rmL_come [.ref (a 44), .ref (a 58)] (lw cI cZ cR cJ a σ τ o) (some (.int (nI 0))) (lw cI cZ cR cJ a σ' τ (vp_updL o 0 r.toInt64)) := by
  refine aK_of sL_come (lv0 := [some (.ref (a 44)), some (.ref (a 58)), none]) (j := 1) rfl rfl ?_
  intro pM eM sM mM argsM belowM methM cM AM CC
  obtain ⟨C, hU, htb⟩ := CC
  refine aw_aload_n C dL_come_0 Lk1 ?_
  refine aw_iconst C dL_come_1 (x := nI 0) (by decide) ?_
  refine aw_aload_n C dL_come_2 Lk0 ?_
  refine aw_lc (As := []) C dL_come_3 gL_come_X3_come sX3_come (rm := rmX3_come) rfl hM ?_
  refine aw_i2l C dL_come_6 ?_
  refine aw_lst C dL_come_7 ?_
  refine aw_goto C dL_come_8 (tgt := 14) (by decide) ?_
  refine aw_iconst C dL_come_14 (x := nI 0) (by decide) ?_
  refine aw_widen (k := 1) (n9 := 6) (by omega) (by omega) ?_
  exact aw_iend C dL_come_15 rfl rfl
set_option maxHeartbeats 4000000 in
set_option maxRecDepth 100000 in
theorem t_L_come_1 (hM : aT l D (cTys cI cZ cR cJ) 49 a yX3_come wsX3_come rtX3_come [.ref (a 44)] (cv cI cR a σ) "java/lang/IllegalStateException") : aK l D (cTys cI cZ cR cJ) 59 a yL_come wsL_come rmL_come [.ref (a 44), .ref (a 58)] (lw cI cZ cR cJ a σ τ o) (some (.int (nI 1))) (lw cI cZ cR cJ a σ τ o) := by
  refine aK_of sL_come (lv0 := [some (.ref (a 44)), some (.ref (a 58)), none]) (j := 1) rfl rfl ?_
  intro pM eM sM mM argsM belowM methM cM AM CC
  obtain ⟨C, hU, htb⟩ := CC
  refine aw_aload_n C dL_come_0 Lk1 ?_
  refine aw_iconst C dL_come_1 (x := nI 0) (by decide) ?_
  refine aw_aload_n C dL_come_2 Lk0 ?_
  refine aw_lt (As := []) C hU dL_come_3 gL_come_X3_come sX3_come (rm := rtX3_come) rfl hM [] ⟨0, 8, 11, 13⟩ [] (htb.trans rfl) (fun z hz => absurd hz List.not_mem_nil) rfl (by decide) (by decide +kernel) (by decide) (fun q9 => ?_)
  refine aw_astore_n C dL_come_11 St2 rfl ?_
  refine aw_iconst C dL_come_12 (x := nI 1) (by decide) ?_
  refine aw_widen (k := 1) (n9 := 6) (by omega) (by omega) ?_
  exact aw_iend C dL_come_13 rfl rfl
abbrev rmL_wish : Room := { frames := 8, cells := 1, slots := 6, locals := 157 }
theorem sL_wish : sYh yL_wish RL cL_wish 6 (some .int) [(0, 12, 15, 19), (0, 12, 19, 13)] wsL_wish 5 := ⟨⟨_, rfl⟩, rfl, by decide, by decide, by decide +kernel, by decide +kernel⟩
set_option maxHeartbeats 4000000 in
set_option maxRecDepth 100000 in
theorem c_L_wish {p0 p1 p2 : Int32} {r : Int32} (hM : aM l D (cTys cI cZ cR cJ) 49 a yX3_wish wsX3_wish rmX3_wish [.ref (a 44), .int p0, .int p1, .int p2] (cv cI cR a σ) (some (.int r)) (cv cI cR a σ')) : aK l D (cTys cI cZ cR cJ) 59 a yL_wish wsL_wish rmL_wish [.ref (a 44), .int p0, .int p1, .int p2, .ref (a 58)] (lw cI cZ cR cJ a σ τ o) (some (.int (nI 0))) (lw cI cZ cR cJ a σ' τ (vp_updL o 0 r.toInt64)) := by
  refine aK_of sL_wish (lv0 := [some (.ref (a 44)), some (.int p0), some (.int p1), some (.int p2), some (.ref (a 58)), none]) (j := 1) rfl rfl ?_
  intro pM eM sM mM argsM belowM methM cM AM CC
  obtain ⟨C, hU, htb⟩ := CC
  refine aw_aload C dL_wish_0 Lk4 ?_
  refine aw_iconst C dL_wish_2 (x := nI 0) (by decide) ?_
  refine aw_aload_n C dL_wish_3 Lk0 ?_
  refine aw_iload_n C dL_wish_4 Lk1 ?_
  refine aw_iload_n C dL_wish_5 Lk2 ?_
  refine aw_iload_n C dL_wish_6 Lk3 ?_
  refine aw_lc (As := [.int p0, .int p1, .int p2]) C dL_wish_7 gL_wish_X3_wish sX3_wish (rm := rmX3_wish) rfl hM ?_
  refine aw_i2l C dL_wish_10 ?_
  refine aw_lst C dL_wish_11 ?_
  refine aw_goto C dL_wish_12 (tgt := 23) (by decide) ?_
  refine aw_iconst C dL_wish_23 (x := nI 0) (by decide) ?_
  refine aw_widen (k := 1) (n9 := 6) (by omega) (by omega) ?_
  exact aw_iend C dL_wish_24 rfl rfl
set_option maxHeartbeats 4000000 in
set_option maxRecDepth 100000 in
theorem t_L_wish_1 {p0 p1 p2 : Int32} (hM : aT l D (cTys cI cZ cR cJ) 49 a yX3_wish wsX3_wish rtX3_wish [.ref (a 44), .int p0, .int p1, .int p2] (cv cI cR a σ) "java/lang/IndexOutOfBoundsException") : aK l D (cTys cI cZ cR cJ) 59 a yL_wish wsL_wish rmL_wish [.ref (a 44), .int p0, .int p1, .int p2, .ref (a 58)] (lw cI cZ cR cJ a σ τ o) (some (.int (nI 1))) (lw cI cZ cR cJ a σ τ o) := by
  refine aK_of sL_wish (lv0 := [some (.ref (a 44)), some (.int p0), some (.int p1), some (.int p2), some (.ref (a 58)), none]) (j := 1) rfl rfl ?_
  intro pM eM sM mM argsM belowM methM cM AM CC
  obtain ⟨C, hU, htb⟩ := CC
  refine aw_aload C dL_wish_0 Lk4 ?_
  refine aw_iconst C dL_wish_2 (x := nI 0) (by decide) ?_
  refine aw_aload_n C dL_wish_3 Lk0 ?_
  refine aw_iload_n C dL_wish_4 Lk1 ?_
  refine aw_iload_n C dL_wish_5 Lk2 ?_
  refine aw_iload_n C dL_wish_6 Lk3 ?_
  refine aw_lt (As := [.int p0, .int p1, .int p2]) C hU dL_wish_7 gL_wish_X3_wish sX3_wish (rm := rtX3_wish) rfl hM [] ⟨0, 12, 15, 19⟩ [⟨0, 12, 19, 13⟩] (htb.trans rfl) (fun z hz => absurd hz List.not_mem_nil) rfl (by decide) (by decide +kernel) (by decide) (fun q9 => ?_)
  refine aw_astore C dL_wish_15 St5 rfl ?_
  refine aw_iconst C dL_wish_17 (x := nI 1) (by decide) ?_
  refine aw_widen (k := 1) (n9 := 6) (by omega) (by omega) ?_
  exact aw_iend C dL_wish_18 rfl rfl
set_option maxHeartbeats 4000000 in
set_option maxRecDepth 100000 in
theorem t_L_wish_2 {p0 p1 p2 : Int32} (hM : aT l D (cTys cI cZ cR cJ) 49 a yX3_wish wsX3_wish rtX3_wish [.ref (a 44), .int p0, .int p1, .int p2] (cv cI cR a σ) "java/lang/IllegalStateException") : aK l D (cTys cI cZ cR cJ) 59 a yL_wish wsL_wish rmL_wish [.ref (a 44), .int p0, .int p1, .int p2, .ref (a 58)] (lw cI cZ cR cJ a σ τ o) (some (.int (nI 2))) (lw cI cZ cR cJ a σ τ o) := by
  refine aK_of sL_wish (lv0 := [some (.ref (a 44)), some (.int p0), some (.int p1), some (.int p2), some (.ref (a 58)), none]) (j := 1) rfl rfl ?_
  intro pM eM sM mM argsM belowM methM cM AM CC
  obtain ⟨C, hU, htb⟩ := CC
  refine aw_aload C dL_wish_0 Lk4 ?_
  refine aw_iconst C dL_wish_2 (x := nI 0) (by decide) ?_
  refine aw_aload_n C dL_wish_3 Lk0 ?_
  refine aw_iload_n C dL_wish_4 Lk1 ?_
  refine aw_iload_n C dL_wish_5 Lk2 ?_
  refine aw_iload_n C dL_wish_6 Lk3 ?_
  refine aw_lt (As := [.int p0, .int p1, .int p2]) C hU dL_wish_7 gL_wish_X3_wish sX3_wish (rm := rtX3_wish) rfl hM [⟨0, 12, 15, 19⟩] ⟨0, 12, 19, 13⟩ [] (htb.trans rfl) (fun z hz => by rw [List.mem_singleton.mp hz]; exact Or.inr ⟨by decide, _, C.1.2.2.2.2 (Cond.classLink RL 19 "java/lang/IndexOutOfBoundsException") (by decide +kernel), hU.2.1⟩) rfl (by decide) (by decide +kernel) (by decide) (fun q9 => ?_)
  refine aw_astore C dL_wish_19 St5 rfl ?_
  refine aw_iconst C dL_wish_21 (x := nI 2) (by decide) ?_
  refine aw_widen (k := 1) (n9 := 6) (by omega) (by omega) ?_
  exact aw_iend C dL_wish_22 rfl rfl
abbrev rmL_drop : Room := { frames := 8, cells := 1, slots := 6, locals := 157 }
theorem sL_drop : sYh yL_drop RL cL_drop 5 (some .int) [(0, 10, 13, 19)] wsL_drop 4 := ⟨⟨_, rfl⟩, rfl, by decide, by decide, by decide +kernel, by decide +kernel⟩
set_option maxHeartbeats 4000000 in
set_option maxRecDepth 100000 in
theorem c_L_drop {p0 p1 : Int32} {r : Int32} (hM : aM l D (cTys cI cZ cR cJ) 49 a yX3_drop wsX3_drop rmX3_drop [.ref (a 44), .int p0, .int p1] (cv cI cR a σ) (some (.int r)) (cv cI cR a σ')) : aK l D (cTys cI cZ cR cJ) 59 a yL_drop wsL_drop rmL_drop [.ref (a 44), .int p0, .int p1, .ref (a 58)] (lw cI cZ cR cJ a σ τ o) (some (.int (nI 0))) (lw cI cZ cR cJ a σ' τ (vp_updL o 0 r.toInt64)) := by
  refine aK_of sL_drop (lv0 := [some (.ref (a 44)), some (.int p0), some (.int p1), some (.ref (a 58)), none]) (j := 1) rfl rfl ?_
  intro pM eM sM mM argsM belowM methM cM AM CC
  obtain ⟨C, hU, htb⟩ := CC
  refine aw_aload_n C dL_drop_0 Lk3 ?_
  refine aw_iconst C dL_drop_1 (x := nI 0) (by decide) ?_
  refine aw_aload_n C dL_drop_2 Lk0 ?_
  refine aw_iload_n C dL_drop_3 Lk1 ?_
  refine aw_iload_n C dL_drop_4 Lk2 ?_
  refine aw_lc (As := [.int p0, .int p1]) C dL_drop_5 gL_drop_X3_drop sX3_drop (rm := rmX3_drop) rfl hM ?_
  refine aw_i2l C dL_drop_8 ?_
  refine aw_lst C dL_drop_9 ?_
  refine aw_goto C dL_drop_10 (tgt := 17) (by decide) ?_
  refine aw_iconst C dL_drop_17 (x := nI 0) (by decide) ?_
  refine aw_widen (k := 1) (n9 := 6) (by omega) (by omega) ?_
  exact aw_iend C dL_drop_18 rfl rfl
set_option maxHeartbeats 4000000 in
set_option maxRecDepth 100000 in
theorem t_L_drop_1 {p0 p1 : Int32} (hM : aT l D (cTys cI cZ cR cJ) 49 a yX3_drop wsX3_drop rtX3_drop [.ref (a 44), .int p0, .int p1] (cv cI cR a σ) "java/lang/IndexOutOfBoundsException") : aK l D (cTys cI cZ cR cJ) 59 a yL_drop wsL_drop rmL_drop [.ref (a 44), .int p0, .int p1, .ref (a 58)] (lw cI cZ cR cJ a σ τ o) (some (.int (nI 1))) (lw cI cZ cR cJ a σ τ o) := by
  refine aK_of sL_drop (lv0 := [some (.ref (a 44)), some (.int p0), some (.int p1), some (.ref (a 58)), none]) (j := 1) rfl rfl ?_
  intro pM eM sM mM argsM belowM methM cM AM CC
  obtain ⟨C, hU, htb⟩ := CC
  refine aw_aload_n C dL_drop_0 Lk3 ?_
  refine aw_iconst C dL_drop_1 (x := nI 0) (by decide) ?_
  refine aw_aload_n C dL_drop_2 Lk0 ?_
  refine aw_iload_n C dL_drop_3 Lk1 ?_
  refine aw_iload_n C dL_drop_4 Lk2 ?_
  refine aw_lt (As := [.int p0, .int p1]) C hU dL_drop_5 gL_drop_X3_drop sX3_drop (rm := rtX3_drop) rfl hM [] ⟨0, 10, 13, 19⟩ [] (htb.trans rfl) (fun z hz => absurd hz List.not_mem_nil) rfl (by decide) (by decide +kernel) (by decide) (fun q9 => ?_)
  refine aw_astore C dL_drop_13 St4 rfl ?_
  refine aw_iconst C dL_drop_15 (x := nI 1) (by decide) ?_
  refine aw_widen (k := 1) (n9 := 6) (by omega) (by omega) ?_
  exact aw_iend C dL_drop_16 rfl rfl
abbrev rmL_list : Room := { frames := 8, cells := 1, slots := 6, locals := 134 }
theorem sL_list : sYh yL_list RL cL_list 5 (some .int) [(0, 10, 13, 19)] wsL_list 4 := ⟨⟨_, rfl⟩, rfl, by decide, by decide, by decide +kernel, by decide +kernel⟩
set_option maxHeartbeats 4000000 in
set_option maxRecDepth 100000 in
theorem c_L_list {p0 p1 : Int32} {r : Int32} (hM : aM l D (cTys cI cZ cR cJ) 49 a yX3_list wsX3_list rmX3_list [.ref (a 44), .int p0, .int p1] (cv cI cR a σ) (some (.int r)) (cv cI cR a σ')) : aK l D (cTys cI cZ cR cJ) 59 a yL_list wsL_list rmL_list [.ref (a 44), .int p0, .int p1, .ref (a 58)] (lw cI cZ cR cJ a σ τ o) (some (.int (nI 0))) (lw cI cZ cR cJ a σ' τ (vp_updL o 0 r.toInt64)) := by
  refine aK_of sL_list (lv0 := [some (.ref (a 44)), some (.int p0), some (.int p1), some (.ref (a 58)), none]) (j := 1) rfl rfl ?_
  intro pM eM sM mM argsM belowM methM cM AM CC
  obtain ⟨C, hU, htb⟩ := CC
  refine aw_aload_n C dL_list_0 Lk3 ?_
  refine aw_iconst C dL_list_1 (x := nI 0) (by decide) ?_
  refine aw_aload_n C dL_list_2 Lk0 ?_
  refine aw_iload_n C dL_list_3 Lk1 ?_
  refine aw_iload_n C dL_list_4 Lk2 ?_
  refine aw_lc (As := [.int p0, .int p1]) C dL_list_5 gL_list_X3_list sX3_list (rm := rmX3_list) rfl hM ?_
  refine aw_i2l C dL_list_8 ?_
  refine aw_lst C dL_list_9 ?_
  refine aw_goto C dL_list_10 (tgt := 17) (by decide) ?_
  refine aw_iconst C dL_list_17 (x := nI 0) (by decide) ?_
  refine aw_widen (k := 1) (n9 := 6) (by omega) (by omega) ?_
  exact aw_iend C dL_list_18 rfl rfl
set_option maxHeartbeats 4000000 in
set_option maxRecDepth 100000 in
theorem t_L_list_1 {p0 p1 : Int32} (hM : aT l D (cTys cI cZ cR cJ) 49 a yX3_list wsX3_list rtX3_list [.ref (a 44), .int p0, .int p1] (cv cI cR a σ) "java/lang/IndexOutOfBoundsException") : aK l D (cTys cI cZ cR cJ) 59 a yL_list wsL_list rmL_list [.ref (a 44), .int p0, .int p1, .ref (a 58)] (lw cI cZ cR cJ a σ τ o) (some (.int (nI 1))) (lw cI cZ cR cJ a σ τ o) := by
  refine aK_of sL_list (lv0 := [some (.ref (a 44)), some (.int p0), some (.int p1), some (.ref (a 58)), none]) (j := 1) rfl rfl ?_
  intro pM eM sM mM argsM belowM methM cM AM CC
  obtain ⟨C, hU, htb⟩ := CC
  refine aw_aload_n C dL_list_0 Lk3 ?_
  refine aw_iconst C dL_list_1 (x := nI 0) (by decide) ?_
  refine aw_aload_n C dL_list_2 Lk0 ?_
  refine aw_iload_n C dL_list_3 Lk1 ?_
  refine aw_iload_n C dL_list_4 Lk2 ?_
  refine aw_lt (As := [.int p0, .int p1]) C hU dL_list_5 gL_list_X3_list sX3_list (rm := rtX3_list) rfl hM [] ⟨0, 10, 13, 19⟩ [] (htb.trans rfl) (fun z hz => absurd hz List.not_mem_nil) rfl (by decide) (by decide +kernel) (by decide) (fun q9 => ?_)
  refine aw_astore C dL_list_13 St4 rfl ?_
  refine aw_iconst C dL_list_15 (x := nI 1) (by decide) ?_
  refine aw_widen (k := 1) (n9 := 6) (by omega) (by omega) ?_
  exact aw_iend C dL_list_16 rfl rfl
abbrev rmL_told : Room := { frames := 8, cells := 1, slots := 6, locals := 133 }
theorem sL_told : sYh yL_told RL cL_told 5 (some .int) [(0, 10, 13, 19)] wsL_told 4 := ⟨⟨_, rfl⟩, rfl, by decide, by decide, by decide +kernel, by decide +kernel⟩
set_option maxHeartbeats 4000000 in
set_option maxRecDepth 100000 in
theorem c_L_told {p0 p1 : Int32} {r : Int32} (hM : aM l D (cTys cI cZ cR cJ) 49 a yX3_told wsX3_told rmX3_told [.ref (a 44), .int p0, .int p1] (cv cI cR a σ) (some (.int r)) (cv cI cR a σ')) : aK l D (cTys cI cZ cR cJ) 59 a yL_told wsL_told rmL_told [.ref (a 44), .int p0, .int p1, .ref (a 58)] (lw cI cZ cR cJ a σ τ o) (some (.int (nI 0))) (lw cI cZ cR cJ a σ' τ (vp_updL o 0 r.toInt64)) := by
  refine aK_of sL_told (lv0 := [some (.ref (a 44)), some (.int p0), some (.int p1), some (.ref (a 58)), none]) (j := 1) rfl rfl ?_
  intro pM eM sM mM argsM belowM methM cM AM CC
  obtain ⟨C, hU, htb⟩ := CC
  refine aw_aload_n C dL_told_0 Lk3 ?_
  refine aw_iconst C dL_told_1 (x := nI 0) (by decide) ?_
  refine aw_aload_n C dL_told_2 Lk0 ?_
  refine aw_iload_n C dL_told_3 Lk1 ?_
  refine aw_iload_n C dL_told_4 Lk2 ?_
  refine aw_lc (As := [.int p0, .int p1]) C dL_told_5 gL_told_X3_told sX3_told (rm := rmX3_told) rfl hM ?_
  refine aw_i2l C dL_told_8 ?_
  refine aw_lst C dL_told_9 ?_
  refine aw_goto C dL_told_10 (tgt := 17) (by decide) ?_
  refine aw_iconst C dL_told_17 (x := nI 0) (by decide) ?_
  refine aw_widen (k := 1) (n9 := 6) (by omega) (by omega) ?_
  exact aw_iend C dL_told_18 rfl rfl
set_option maxHeartbeats 4000000 in
set_option maxRecDepth 100000 in
theorem t_L_told_1 {p0 p1 : Int32} (hM : aT l D (cTys cI cZ cR cJ) 49 a yX3_told wsX3_told rtX3_told [.ref (a 44), .int p0, .int p1] (cv cI cR a σ) "java/lang/IndexOutOfBoundsException") : aK l D (cTys cI cZ cR cJ) 59 a yL_told wsL_told rmL_told [.ref (a 44), .int p0, .int p1, .ref (a 58)] (lw cI cZ cR cJ a σ τ o) (some (.int (nI 1))) (lw cI cZ cR cJ a σ τ o) := by
  refine aK_of sL_told (lv0 := [some (.ref (a 44)), some (.int p0), some (.int p1), some (.ref (a 58)), none]) (j := 1) rfl rfl ?_
  intro pM eM sM mM argsM belowM methM cM AM CC
  obtain ⟨C, hU, htb⟩ := CC
  refine aw_aload_n C dL_told_0 Lk3 ?_
  refine aw_iconst C dL_told_1 (x := nI 0) (by decide) ?_
  refine aw_aload_n C dL_told_2 Lk0 ?_
  refine aw_iload_n C dL_told_3 Lk1 ?_
  refine aw_iload_n C dL_told_4 Lk2 ?_
  refine aw_lt (As := [.int p0, .int p1]) C hU dL_told_5 gL_told_X3_told sX3_told (rm := rtX3_told) rfl hM [] ⟨0, 10, 13, 19⟩ [] (htb.trans rfl) (fun z hz => absurd hz List.not_mem_nil) rfl (by decide) (by decide +kernel) (by decide) (fun q9 => ?_)
  refine aw_astore C dL_told_13 St4 rfl ?_
  refine aw_iconst C dL_told_15 (x := nI 1) (by decide) ?_
  refine aw_widen (k := 1) (n9 := 6) (by omega) (by omega) ?_
  exact aw_iend C dL_told_16 rfl rfl
abbrev rmL_points : Room := { frames := 8, cells := 1, slots := 6, locals := 133 }
theorem sL_points : sYh yL_points RL cL_points 5 (some .int) [(0, 10, 13, 19), (0, 10, 17, 34)] wsL_points 4 := ⟨⟨_, rfl⟩, rfl, by decide, by decide, by decide +kernel, by decide +kernel⟩
set_option maxHeartbeats 4000000 in
set_option maxRecDepth 100000 in
theorem c_L_points {p0 p1 : Int32} {r : Int32} (hM : aM l D (cTys cI cZ cR cJ) 49 a yX3_points wsX3_points rmX3_points [.ref (a 44), .int p0, .int p1] (cv cI cR a σ) (some (.int r)) (cv cI cR a σ')) : aK l D (cTys cI cZ cR cJ) 59 a yL_points wsL_points rmL_points [.ref (a 44), .int p0, .int p1, .ref (a 58)] (lw cI cZ cR cJ a σ τ o) (some (.int (nI 0))) (lw cI cZ cR cJ a σ' τ (vp_updL o 0 r.toInt64)) := by
  refine aK_of sL_points (lv0 := [some (.ref (a 44)), some (.int p0), some (.int p1), some (.ref (a 58)), none]) (j := 1) rfl rfl ?_
  intro pM eM sM mM argsM belowM methM cM AM CC
  obtain ⟨C, hU, htb⟩ := CC
  refine aw_aload_n C dL_points_0 Lk3 ?_
  refine aw_iconst C dL_points_1 (x := nI 0) (by decide) ?_
  refine aw_aload_n C dL_points_2 Lk0 ?_
  refine aw_iload_n C dL_points_3 Lk1 ?_
  refine aw_iload_n C dL_points_4 Lk2 ?_
  refine aw_lc (As := [.int p0, .int p1]) C dL_points_5 gL_points_X3_points sX3_points (rm := rmX3_points) rfl hM ?_
  refine aw_i2l C dL_points_8 ?_
  refine aw_lst C dL_points_9 ?_
  refine aw_goto C dL_points_10 (tgt := 21) (by decide) ?_
  refine aw_iconst C dL_points_21 (x := nI 0) (by decide) ?_
  refine aw_widen (k := 1) (n9 := 6) (by omega) (by omega) ?_
  exact aw_iend C dL_points_22 rfl rfl
set_option maxHeartbeats 4000000 in
set_option maxRecDepth 100000 in
theorem t_L_points_1 {p0 p1 : Int32} (hM : aT l D (cTys cI cZ cR cJ) 49 a yX3_points wsX3_points rtX3_points [.ref (a 44), .int p0, .int p1] (cv cI cR a σ) "java/lang/IndexOutOfBoundsException") : aK l D (cTys cI cZ cR cJ) 59 a yL_points wsL_points rmL_points [.ref (a 44), .int p0, .int p1, .ref (a 58)] (lw cI cZ cR cJ a σ τ o) (some (.int (nI 1))) (lw cI cZ cR cJ a σ τ o) := by
  refine aK_of sL_points (lv0 := [some (.ref (a 44)), some (.int p0), some (.int p1), some (.ref (a 58)), none]) (j := 1) rfl rfl ?_
  intro pM eM sM mM argsM belowM methM cM AM CC
  obtain ⟨C, hU, htb⟩ := CC
  refine aw_aload_n C dL_points_0 Lk3 ?_
  refine aw_iconst C dL_points_1 (x := nI 0) (by decide) ?_
  refine aw_aload_n C dL_points_2 Lk0 ?_
  refine aw_iload_n C dL_points_3 Lk1 ?_
  refine aw_iload_n C dL_points_4 Lk2 ?_
  refine aw_lt (As := [.int p0, .int p1]) C hU dL_points_5 gL_points_X3_points sX3_points (rm := rtX3_points) rfl hM [] ⟨0, 10, 13, 19⟩ [⟨0, 10, 17, 34⟩] (htb.trans rfl) (fun z hz => absurd hz List.not_mem_nil) rfl (by decide) (by decide +kernel) (by decide) (fun q9 => ?_)
  refine aw_astore C dL_points_13 St4 rfl ?_
  refine aw_iconst C dL_points_15 (x := nI 1) (by decide) ?_
  refine aw_widen (k := 1) (n9 := 6) (by omega) (by omega) ?_
  exact aw_iend C dL_points_16 rfl rfl
set_option maxHeartbeats 4000000 in
set_option maxRecDepth 100000 in
theorem t_L_points_2 {p0 p1 : Int32} (hM : aT l D (cTys cI cZ cR cJ) 49 a yX3_points wsX3_points rtX3_points [.ref (a 44), .int p0, .int p1] (cv cI cR a σ) "java/lang/IllegalArgumentException") : aK l D (cTys cI cZ cR cJ) 59 a yL_points wsL_points rmL_points [.ref (a 44), .int p0, .int p1, .ref (a 58)] (lw cI cZ cR cJ a σ τ o) (some (.int (nI 2))) (lw cI cZ cR cJ a σ τ o) := by
  refine aK_of sL_points (lv0 := [some (.ref (a 44)), some (.int p0), some (.int p1), some (.ref (a 58)), none]) (j := 1) rfl rfl ?_
  intro pM eM sM mM argsM belowM methM cM AM CC
  obtain ⟨C, hU, htb⟩ := CC
  refine aw_aload_n C dL_points_0 Lk3 ?_
  refine aw_iconst C dL_points_1 (x := nI 0) (by decide) ?_
  refine aw_aload_n C dL_points_2 Lk0 ?_
  refine aw_iload_n C dL_points_3 Lk1 ?_
  refine aw_iload_n C dL_points_4 Lk2 ?_
  refine aw_lt (As := [.int p0, .int p1]) C hU dL_points_5 gL_points_X3_points sX3_points (rm := rtX3_points) rfl hM [⟨0, 10, 13, 19⟩] ⟨0, 10, 17, 34⟩ [] (htb.trans rfl) (fun z hz => by rw [List.mem_singleton.mp hz]; exact Or.inr ⟨by decide, _, C.1.2.2.2.2 (Cond.classLink RL 19 "java/lang/IndexOutOfBoundsException") (by decide +kernel), hU.2.2⟩) rfl (by decide) (by decide +kernel) (by decide) (fun q9 => ?_)
  refine aw_astore C dL_points_17 St4 rfl ?_
  refine aw_iconst C dL_points_19 (x := nI 2) (by decide) ?_
  refine aw_widen (k := 1) (n9 := 6) (by omega) (by omega) ?_
  exact aw_iend C dL_points_20 rfl rfl
abbrev rmL_rank : Room := { frames := 8, cells := 1, slots := 6, locals := 133 }
theorem sL_rank : sYh yL_rank RL cL_rank 5 (some .int) [(0, 10, 13, 19)] wsL_rank 4 := ⟨⟨_, rfl⟩, rfl, by decide, by decide, by decide +kernel, by decide +kernel⟩
set_option maxHeartbeats 4000000 in
set_option maxRecDepth 100000 in
theorem c_L_rank {p0 p1 : Int32} {r : Int32} (hM : aM l D (cTys cI cZ cR cJ) 49 a yX3_rank wsX3_rank rmX3_rank [.ref (a 44), .int p0, .int p1] (cv cI cR a σ) (some (.int r)) (cv cI cR a σ')) : aK l D (cTys cI cZ cR cJ) 59 a yL_rank wsL_rank rmL_rank [.ref (a 44), .int p0, .int p1, .ref (a 58)] (lw cI cZ cR cJ a σ τ o) (some (.int (nI 0))) (lw cI cZ cR cJ a σ' τ (vp_updL o 0 r.toInt64)) := by
  refine aK_of sL_rank (lv0 := [some (.ref (a 44)), some (.int p0), some (.int p1), some (.ref (a 58)), none]) (j := 1) rfl rfl ?_
  intro pM eM sM mM argsM belowM methM cM AM CC
  obtain ⟨C, hU, htb⟩ := CC
  refine aw_aload_n C dL_rank_0 Lk3 ?_
  refine aw_iconst C dL_rank_1 (x := nI 0) (by decide) ?_
  refine aw_aload_n C dL_rank_2 Lk0 ?_
  refine aw_iload_n C dL_rank_3 Lk1 ?_
  refine aw_iload_n C dL_rank_4 Lk2 ?_
  refine aw_lc (As := [.int p0, .int p1]) C dL_rank_5 gL_rank_X3_rank sX3_rank (rm := rmX3_rank) rfl hM ?_
  refine aw_i2l C dL_rank_8 ?_
  refine aw_lst C dL_rank_9 ?_
  refine aw_goto C dL_rank_10 (tgt := 17) (by decide) ?_
  refine aw_iconst C dL_rank_17 (x := nI 0) (by decide) ?_
  refine aw_widen (k := 1) (n9 := 6) (by omega) (by omega) ?_
  exact aw_iend C dL_rank_18 rfl rfl
set_option maxHeartbeats 4000000 in
set_option maxRecDepth 100000 in
theorem t_L_rank_1 {p0 p1 : Int32} (hM : aT l D (cTys cI cZ cR cJ) 49 a yX3_rank wsX3_rank rtX3_rank [.ref (a 44), .int p0, .int p1] (cv cI cR a σ) "java/lang/IndexOutOfBoundsException") : aK l D (cTys cI cZ cR cJ) 59 a yL_rank wsL_rank rmL_rank [.ref (a 44), .int p0, .int p1, .ref (a 58)] (lw cI cZ cR cJ a σ τ o) (some (.int (nI 1))) (lw cI cZ cR cJ a σ τ o) := by
  refine aK_of sL_rank (lv0 := [some (.ref (a 44)), some (.int p0), some (.int p1), some (.ref (a 58)), none]) (j := 1) rfl rfl ?_
  intro pM eM sM mM argsM belowM methM cM AM CC
  obtain ⟨C, hU, htb⟩ := CC
  refine aw_aload_n C dL_rank_0 Lk3 ?_
  refine aw_iconst C dL_rank_1 (x := nI 0) (by decide) ?_
  refine aw_aload_n C dL_rank_2 Lk0 ?_
  refine aw_iload_n C dL_rank_3 Lk1 ?_
  refine aw_iload_n C dL_rank_4 Lk2 ?_
  refine aw_lt (As := [.int p0, .int p1]) C hU dL_rank_5 gL_rank_X3_rank sX3_rank (rm := rtX3_rank) rfl hM [] ⟨0, 10, 13, 19⟩ [] (htb.trans rfl) (fun z hz => absurd hz List.not_mem_nil) rfl (by decide) (by decide +kernel) (by decide) (fun q9 => ?_)
  refine aw_astore C dL_rank_13 St4 rfl ?_
  refine aw_iconst C dL_rank_15 (x := nI 1) (by decide) ?_
  refine aw_widen (k := 1) (n9 := 6) (by omega) (by omega) ?_
  exact aw_iend C dL_rank_16 rfl rfl
abbrev rmL_count : Room := { frames := 7, cells := 1, slots := 6, locals := 129 }
theorem sL_count : sYh yL_count RL cL_count 4 (some .int) [(0, 9, 12, 19)] wsL_count 3 := ⟨⟨_, rfl⟩, rfl, by decide, by decide, by decide +kernel, by decide +kernel⟩
set_option maxHeartbeats 4000000 in
set_option maxRecDepth 100000 in
theorem c_L_count {p0 : Int32} {r : Int32} (hM : aM l D (cTys cI cZ cR cJ) 49 a yX3_count wsX3_count rmX3_count [.ref (a 44), .int p0] (cv cI cR a σ) (some (.int r)) (cv cI cR a σ')) : aK l D (cTys cI cZ cR cJ) 59 a yL_count wsL_count rmL_count [.ref (a 44), .int p0, .ref (a 58)] (lw cI cZ cR cJ a σ τ o) (some (.int (nI 0))) (lw cI cZ cR cJ a σ' τ (vp_updL o 0 r.toInt64)) := by
  refine aK_of sL_count (lv0 := [some (.ref (a 44)), some (.int p0), some (.ref (a 58)), none]) (j := 1) rfl rfl ?_
  intro pM eM sM mM argsM belowM methM cM AM CC
  obtain ⟨C, hU, htb⟩ := CC
  refine aw_aload_n C dL_count_0 Lk2 ?_
  refine aw_iconst C dL_count_1 (x := nI 0) (by decide) ?_
  refine aw_aload_n C dL_count_2 Lk0 ?_
  refine aw_iload_n C dL_count_3 Lk1 ?_
  refine aw_lc (As := [.int p0]) C dL_count_4 gL_count_X3_count sX3_count (rm := rmX3_count) rfl hM ?_
  refine aw_i2l C dL_count_7 ?_
  refine aw_lst C dL_count_8 ?_
  refine aw_goto C dL_count_9 (tgt := 15) (by decide) ?_
  refine aw_iconst C dL_count_15 (x := nI 0) (by decide) ?_
  refine aw_widen (k := 1) (n9 := 6) (by omega) (by omega) ?_
  exact aw_iend C dL_count_16 rfl rfl
set_option maxHeartbeats 4000000 in
set_option maxRecDepth 100000 in
theorem t_L_count_1 {p0 : Int32} (hM : aT l D (cTys cI cZ cR cJ) 49 a yX3_count wsX3_count rtX3_count [.ref (a 44), .int p0] (cv cI cR a σ) "java/lang/IndexOutOfBoundsException") : aK l D (cTys cI cZ cR cJ) 59 a yL_count wsL_count rmL_count [.ref (a 44), .int p0, .ref (a 58)] (lw cI cZ cR cJ a σ τ o) (some (.int (nI 1))) (lw cI cZ cR cJ a σ τ o) := by
  refine aK_of sL_count (lv0 := [some (.ref (a 44)), some (.int p0), some (.ref (a 58)), none]) (j := 1) rfl rfl ?_
  intro pM eM sM mM argsM belowM methM cM AM CC
  obtain ⟨C, hU, htb⟩ := CC
  refine aw_aload_n C dL_count_0 Lk2 ?_
  refine aw_iconst C dL_count_1 (x := nI 0) (by decide) ?_
  refine aw_aload_n C dL_count_2 Lk0 ?_
  refine aw_iload_n C dL_count_3 Lk1 ?_
  refine aw_lt (As := [.int p0]) C hU dL_count_4 gL_count_X3_count sX3_count (rm := rtX3_count) rfl hM [] ⟨0, 9, 12, 19⟩ [] (htb.trans rfl) (fun z hz => absurd hz List.not_mem_nil) rfl (by decide) (by decide +kernel) (by decide) (fun q9 => ?_)
  refine aw_astore_n C dL_count_12 St3 rfl ?_
  refine aw_iconst C dL_count_13 (x := nI 1) (by decide) ?_
  refine aw_widen (k := 1) (n9 := 6) (by omega) (by omega) ?_
  exact aw_iend C dL_count_14 rfl rfl
abbrev rmL_swaps : Room := { frames := 8, cells := 1, slots := 6, locals := 133 }
theorem sL_swaps : sYh yL_swaps RL cL_swaps 5 (some .int) [(0, 17, 20, 19)] wsL_swaps 4 := ⟨⟨_, rfl⟩, rfl, by decide, by decide, by decide +kernel, by decide +kernel⟩
set_option maxHeartbeats 4000000 in
set_option maxRecDepth 100000 in
theorem c_L_swaps {p0 p1 : Int32} {rb : Bool} (hM : aM l D (cTys cI cZ cR cJ) 49 a yX3_swaps wsX3_swaps rmX3_swaps [.ref (a 44), .int p0, .int p1] (cv cI cR a σ) (some (.int (bI rb))) (cv cI cR a σ')) : aK l D (cTys cI cZ cR cJ) 59 a yL_swaps wsL_swaps rmL_swaps [.ref (a 44), .int p0, .int p1, .ref (a 58)] (lw cI cZ cR cJ a σ τ o) (some (.int (nI 0))) (lw cI cZ cR cJ a σ' τ (vp_updL o 0 (if rb then 1 else 0))) := by
  refine aK_of sL_swaps (lv0 := [some (.ref (a 44)), some (.int p0), some (.int p1), some (.ref (a 58)), none]) (j := 1) rfl rfl ?_
  intro pM eM sM mM argsM belowM methM cM AM CC
  obtain ⟨C, hU, htb⟩ := CC
  refine aw_aload_n C dL_swaps_0 Lk3 ?_
  refine aw_iconst C dL_swaps_1 (x := nI 0) (by decide) ?_
  refine aw_aload_n C dL_swaps_2 Lk0 ?_
  refine aw_iload_n C dL_swaps_3 Lk1 ?_
  refine aw_iload_n C dL_swaps_4 Lk2 ?_
  refine aw_lc (As := [.int p0, .int p1]) C dL_swaps_5 gL_swaps_X3_swaps sX3_swaps (rm := rmX3_swaps) rfl hM ?_
  cases rb with
  | false =>
    refine aw_if_eq C dL_swaps_8 (tgt := 15) (by decide) (fun c9 => ?_) (fun c9 => absurd (by decide) c9)
    refine aw_lconst C dL_swaps_15 (x := 0) (by decide) ?_
    refine aw_lst C dL_swaps_16 ?_
    refine aw_goto C dL_swaps_17 (tgt := 24) (by decide) ?_
    refine aw_iconst C dL_swaps_24 (x := nI 0) (by decide) ?_
    refine aw_widen (k := 1) (n9 := 6) (by omega) (by omega) ?_
    exact aw_iend C dL_swaps_25 rfl rfl
  | true =>
    refine aw_if_eq C dL_swaps_8 (tgt := 15) (by decide) (fun c9 => absurd c9 (by decide)) (fun c9 => ?_)
    refine aw_lconst C dL_swaps_11 (x := 1) (by decide) ?_
    refine aw_goto C dL_swaps_12 (tgt := 16) (by decide) ?_
    refine aw_lst C dL_swaps_16 ?_
    refine aw_goto C dL_swaps_17 (tgt := 24) (by decide) ?_
    refine aw_iconst C dL_swaps_24 (x := nI 0) (by decide) ?_
    refine aw_widen (k := 1) (n9 := 6) (by omega) (by omega) ?_
    exact aw_iend C dL_swaps_25 rfl rfl
set_option maxHeartbeats 4000000 in
set_option maxRecDepth 100000 in
theorem t_L_swaps_1 {p0 p1 : Int32} (hM : aT l D (cTys cI cZ cR cJ) 49 a yX3_swaps wsX3_swaps rtX3_swaps [.ref (a 44), .int p0, .int p1] (cv cI cR a σ) "java/lang/IndexOutOfBoundsException") : aK l D (cTys cI cZ cR cJ) 59 a yL_swaps wsL_swaps rmL_swaps [.ref (a 44), .int p0, .int p1, .ref (a 58)] (lw cI cZ cR cJ a σ τ o) (some (.int (nI 1))) (lw cI cZ cR cJ a σ τ o) := by
  refine aK_of sL_swaps (lv0 := [some (.ref (a 44)), some (.int p0), some (.int p1), some (.ref (a 58)), none]) (j := 1) rfl rfl ?_
  intro pM eM sM mM argsM belowM methM cM AM CC
  obtain ⟨C, hU, htb⟩ := CC
  refine aw_aload_n C dL_swaps_0 Lk3 ?_
  refine aw_iconst C dL_swaps_1 (x := nI 0) (by decide) ?_
  refine aw_aload_n C dL_swaps_2 Lk0 ?_
  refine aw_iload_n C dL_swaps_3 Lk1 ?_
  refine aw_iload_n C dL_swaps_4 Lk2 ?_
  refine aw_lt (As := [.int p0, .int p1]) C hU dL_swaps_5 gL_swaps_X3_swaps sX3_swaps (rm := rtX3_swaps) rfl hM [] ⟨0, 17, 20, 19⟩ [] (htb.trans rfl) (fun z hz => absurd hz List.not_mem_nil) rfl (by decide) (by decide +kernel) (by decide) (fun q9 => ?_)
  refine aw_astore C dL_swaps_20 St4 rfl ?_
  refine aw_iconst C dL_swaps_22 (x := nI 1) (by decide) ?_
  refine aw_widen (k := 1) (n9 := 6) (by omega) (by omega) ?_
  exact aw_iend C dL_swaps_23 rfl rfl
abbrev rmL_without : Room := { frames := 8, cells := 1, slots := 6, locals := 156 }
theorem sL_without : sYh yL_without RL cL_without 5 (some .int) [(0, 10, 13, 19), (0, 10, 17, 34)] wsL_without 4 := ⟨⟨_, rfl⟩, rfl, by decide, by decide, by decide +kernel, by decide +kernel⟩
set_option maxHeartbeats 4000000 in
set_option maxRecDepth 100000 in
theorem c_L_without {p0 p1 : Int32} {r : Int32} (hM : aM l D (cTys cI cZ cR cJ) 49 a yX3_without wsX3_without rmX3_without [.ref (a 44), .int p0, .int p1] (cv cI cR a σ) (some (.int r)) (cv cI cR a σ')) : aK l D (cTys cI cZ cR cJ) 59 a yL_without wsL_without rmL_without [.ref (a 44), .int p0, .int p1, .ref (a 58)] (lw cI cZ cR cJ a σ τ o) (some (.int (nI 0))) (lw cI cZ cR cJ a σ' τ (vp_updL o 0 r.toInt64)) := by
  refine aK_of sL_without (lv0 := [some (.ref (a 44)), some (.int p0), some (.int p1), some (.ref (a 58)), none]) (j := 1) rfl rfl ?_
  intro pM eM sM mM argsM belowM methM cM AM CC
  obtain ⟨C, hU, htb⟩ := CC
  refine aw_aload_n C dL_without_0 Lk3 ?_
  refine aw_iconst C dL_without_1 (x := nI 0) (by decide) ?_
  refine aw_aload_n C dL_without_2 Lk0 ?_
  refine aw_iload_n C dL_without_3 Lk1 ?_
  refine aw_iload_n C dL_without_4 Lk2 ?_
  refine aw_lc (As := [.int p0, .int p1]) C dL_without_5 gL_without_X3_without sX3_without (rm := rmX3_without) rfl hM ?_
  refine aw_i2l C dL_without_8 ?_
  refine aw_lst C dL_without_9 ?_
  refine aw_goto C dL_without_10 (tgt := 21) (by decide) ?_
  refine aw_iconst C dL_without_21 (x := nI 0) (by decide) ?_
  refine aw_widen (k := 1) (n9 := 6) (by omega) (by omega) ?_
  exact aw_iend C dL_without_22 rfl rfl
set_option maxHeartbeats 4000000 in
set_option maxRecDepth 100000 in
theorem t_L_without_1 {p0 p1 : Int32} (hM : aT l D (cTys cI cZ cR cJ) 49 a yX3_without wsX3_without rtX3_without [.ref (a 44), .int p0, .int p1] (cv cI cR a σ) "java/lang/IndexOutOfBoundsException") : aK l D (cTys cI cZ cR cJ) 59 a yL_without wsL_without rmL_without [.ref (a 44), .int p0, .int p1, .ref (a 58)] (lw cI cZ cR cJ a σ τ o) (some (.int (nI 1))) (lw cI cZ cR cJ a σ τ o) := by
  refine aK_of sL_without (lv0 := [some (.ref (a 44)), some (.int p0), some (.int p1), some (.ref (a 58)), none]) (j := 1) rfl rfl ?_
  intro pM eM sM mM argsM belowM methM cM AM CC
  obtain ⟨C, hU, htb⟩ := CC
  refine aw_aload_n C dL_without_0 Lk3 ?_
  refine aw_iconst C dL_without_1 (x := nI 0) (by decide) ?_
  refine aw_aload_n C dL_without_2 Lk0 ?_
  refine aw_iload_n C dL_without_3 Lk1 ?_
  refine aw_iload_n C dL_without_4 Lk2 ?_
  refine aw_lt (As := [.int p0, .int p1]) C hU dL_without_5 gL_without_X3_without sX3_without (rm := rtX3_without) rfl hM [] ⟨0, 10, 13, 19⟩ [⟨0, 10, 17, 34⟩] (htb.trans rfl) (fun z hz => absurd hz List.not_mem_nil) rfl (by decide) (by decide +kernel) (by decide) (fun q9 => ?_)
  refine aw_astore C dL_without_13 St4 rfl ?_
  refine aw_iconst C dL_without_15 (x := nI 1) (by decide) ?_
  refine aw_widen (k := 1) (n9 := 6) (by omega) (by omega) ?_
  exact aw_iend C dL_without_16 rfl rfl
set_option maxHeartbeats 4000000 in
set_option maxRecDepth 100000 in
theorem t_L_without_2 {p0 p1 : Int32} (hM : aT l D (cTys cI cZ cR cJ) 49 a yX3_without wsX3_without rtX3_without [.ref (a 44), .int p0, .int p1] (cv cI cR a σ) "java/lang/IllegalArgumentException") : aK l D (cTys cI cZ cR cJ) 59 a yL_without wsL_without rmL_without [.ref (a 44), .int p0, .int p1, .ref (a 58)] (lw cI cZ cR cJ a σ τ o) (some (.int (nI 2))) (lw cI cZ cR cJ a σ τ o) := by
  refine aK_of sL_without (lv0 := [some (.ref (a 44)), some (.int p0), some (.int p1), some (.ref (a 58)), none]) (j := 1) rfl rfl ?_
  intro pM eM sM mM argsM belowM methM cM AM CC
  obtain ⟨C, hU, htb⟩ := CC
  refine aw_aload_n C dL_without_0 Lk3 ?_
  refine aw_iconst C dL_without_1 (x := nI 0) (by decide) ?_
  refine aw_aload_n C dL_without_2 Lk0 ?_
  refine aw_iload_n C dL_without_3 Lk1 ?_
  refine aw_iload_n C dL_without_4 Lk2 ?_
  refine aw_lt (As := [.int p0, .int p1]) C hU dL_without_5 gL_without_X3_without sX3_without (rm := rtX3_without) rfl hM [⟨0, 10, 13, 19⟩] ⟨0, 10, 17, 34⟩ [] (htb.trans rfl) (fun z hz => by rw [List.mem_singleton.mp hz]; exact Or.inr ⟨by decide, _, C.1.2.2.2.2 (Cond.classLink RL 19 "java/lang/IndexOutOfBoundsException") (by decide +kernel), hU.2.2⟩) rfl (by decide) (by decide +kernel) (by decide) (fun q9 => ?_)
  refine aw_astore C dL_without_17 St4 rfl ?_
  refine aw_iconst C dL_without_19 (x := nI 2) (by decide) ?_
  refine aw_widen (k := 1) (n9 := 6) (by omega) (by omega) ?_
  exact aw_iend C dL_without_20 rfl rfl
abbrev rmL_feign : Room := { frames := 8, cells := 1, slots := 6, locals := 157 }
theorem sL_feign : sYh yL_feign RL cL_feign 5 (some .int) [(0, 10, 13, 19)] wsL_feign 4 := ⟨⟨_, rfl⟩, rfl, by decide, by decide, by decide +kernel, by decide +kernel⟩
set_option maxHeartbeats 4000000 in
set_option maxRecDepth 100000 in
theorem c_L_feign {p0 p1 : Int32} {r : Int32} (hM : aM l D (cTys cI cZ cR cJ) 49 a yX3_feign wsX3_feign rmX3_feign [.ref (a 44), .int p0, .int p1] (cv cI cR a σ) (some (.int r)) (cv cI cR a σ')) : aK l D (cTys cI cZ cR cJ) 59 a yL_feign wsL_feign rmL_feign [.ref (a 44), .int p0, .int p1, .ref (a 58)] (lw cI cZ cR cJ a σ τ o) (some (.int (nI 0))) (lw cI cZ cR cJ a σ' τ (vp_updL o 0 r.toInt64)) := by
  refine aK_of sL_feign (lv0 := [some (.ref (a 44)), some (.int p0), some (.int p1), some (.ref (a 58)), none]) (j := 1) rfl rfl ?_
  intro pM eM sM mM argsM belowM methM cM AM CC
  obtain ⟨C, hU, htb⟩ := CC
  refine aw_aload_n C dL_feign_0 Lk3 ?_
  refine aw_iconst C dL_feign_1 (x := nI 0) (by decide) ?_
  refine aw_aload_n C dL_feign_2 Lk0 ?_
  refine aw_iload_n C dL_feign_3 Lk1 ?_
  refine aw_iload_n C dL_feign_4 Lk2 ?_
  refine aw_lc (As := [.int p0, .int p1]) C dL_feign_5 gL_feign_X3_feign sX3_feign (rm := rmX3_feign) rfl hM ?_
  refine aw_i2l C dL_feign_8 ?_
  refine aw_lst C dL_feign_9 ?_
  refine aw_goto C dL_feign_10 (tgt := 17) (by decide) ?_
  refine aw_iconst C dL_feign_17 (x := nI 0) (by decide) ?_
  refine aw_widen (k := 1) (n9 := 6) (by omega) (by omega) ?_
  exact aw_iend C dL_feign_18 rfl rfl
set_option maxHeartbeats 4000000 in
set_option maxRecDepth 100000 in
theorem t_L_feign_1 {p0 p1 : Int32} (hM : aT l D (cTys cI cZ cR cJ) 49 a yX3_feign wsX3_feign rtX3_feign [.ref (a 44), .int p0, .int p1] (cv cI cR a σ) "java/lang/IndexOutOfBoundsException") : aK l D (cTys cI cZ cR cJ) 59 a yL_feign wsL_feign rmL_feign [.ref (a 44), .int p0, .int p1, .ref (a 58)] (lw cI cZ cR cJ a σ τ o) (some (.int (nI 1))) (lw cI cZ cR cJ a σ τ o) := by
  refine aK_of sL_feign (lv0 := [some (.ref (a 44)), some (.int p0), some (.int p1), some (.ref (a 58)), none]) (j := 1) rfl rfl ?_
  intro pM eM sM mM argsM belowM methM cM AM CC
  obtain ⟨C, hU, htb⟩ := CC
  refine aw_aload_n C dL_feign_0 Lk3 ?_
  refine aw_iconst C dL_feign_1 (x := nI 0) (by decide) ?_
  refine aw_aload_n C dL_feign_2 Lk0 ?_
  refine aw_iload_n C dL_feign_3 Lk1 ?_
  refine aw_iload_n C dL_feign_4 Lk2 ?_
  refine aw_lt (As := [.int p0, .int p1]) C hU dL_feign_5 gL_feign_X3_feign sX3_feign (rm := rtX3_feign) rfl hM [] ⟨0, 10, 13, 19⟩ [] (htb.trans rfl) (fun z hz => absurd hz List.not_mem_nil) rfl (by decide) (by decide +kernel) (by decide) (fun q9 => ?_)
  refine aw_astore C dL_feign_13 St4 rfl ?_
  refine aw_iconst C dL_feign_15 (x := nI 1) (by decide) ?_
  refine aw_widen (k := 1) (n9 := 6) (by omega) (by omega) ?_
  exact aw_iend C dL_feign_16 rfl rfl
end WRAPS
