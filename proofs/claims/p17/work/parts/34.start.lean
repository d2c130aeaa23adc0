/-! the law's start -/
def pmL : List Nat := [2, 3, 7, 8, 9, 10, 11, 12, 13, 14, 15, 16, 17, 18, 19, 20, 21, 22, 23, 24, 25, 26, 5, 6, 28, 29, 30, 31, 32, 33, 34, 35, 36, 37, 39, 40, 41, 42, 43, 44, 45, 46, 47, 48, 0, 1, 4, 27, 38]
def pmF (k : Nat) : Nat := pmL.getD k 0
theorem pm_lt : ∀ k, k < 49 → pmF k < 49 := by decide +kernel
theorem pm_inj : ∀ i, i < 49 → ∀ j, j < 49 → pmF i = pmF j → i = j := by decide +kernel
theorem lik_eq {z : Nat → Nat} : likF z = fun i => if i < 10 then some (z i) else none := by
  funext i
  by_cases h : i < 10
  · rw [if_pos h]
    rcases (show i = 0 ∨ i = 1 ∨ i = 2 ∨ i = 3 ∨ i = 4 ∨ i = 5 ∨ i = 6 ∨ i = 7 ∨ i = 8 ∨ i = 9 by omega) with rfl | rfl | rfl | rfl | rfl | rfl | rfl | rfl | rfl | rfl <;> rfl
  · rw [if_neg h]
    simp only [likF, va_up]
    rw [if_neg (show ¬ i = 9 by omega), if_neg (show ¬ i = 8 by omega), if_neg (show ¬ i = 7 by omega), if_neg (show ¬ i = 6 by omega), if_neg (show ¬ i = 5 by omega), if_neg (show ¬ i = 4 by omega), if_neg (show ¬ i = 3 by omega), if_neg (show ¬ i = 2 by omega), if_neg (show ¬ i = 1 by omega), if_neg (show ¬ i = 0 by omega)]
theorem lik_cell {cR : ClassId} {z z' : Nat → Nat} (h : ∀ i, i < 10 → z i = z' i) : (.inl (cR, 10, .inr (.inr (.inr (.inr (likF z))))) : va_E) = .inl (cR, 10, .inr (.inr (.inr (.inr (fun i => if i < 10 then some (z' i) else none))))) := by
  have e : likF z = fun i => if i < 10 then some (z' i) else none := by
    rw [lik_eq]
    funext i
    by_cases c : i < 10
    · rw [if_pos c, if_pos c, h i c]
    · rw [if_neg c, if_neg c]
  rw [e]
theorem st_arr {s : State} {args : Array Value} {ty : FieldType} (h : (Cond.arrayClass ty).before args s = true) (hty : ∀ C, ty ≠ .object C) : ∃ cA, ArrOfT s cA ty ∧ va_RA s cA ty := by
  obtain ⟨cA, kA, comp, h1, h2, h3⟩ := Cond.arrayClass_spec h
  refine ⟨cA, fun n z => ⟨fun k h => (by cases h), kA, h2, comp, h3⟩, ?_⟩
  cases ty with
  | object C => exact absurd rfl (hty C)
  | _ => exact h1
theorem st_arrq {s : State} {C : String} (h : va_AO C s) : ∃ cA, ArrOfT s cA (.object C) ∧ va_RA s cA (.object C) := by
  obtain ⟨comp, cA, kA, h1, h2, h3, h4, h5⟩ := Cond.arrayOver_spec h
  exact ⟨cA, fun n z => ⟨fun k h => (by cases h), kA, h3, comp, h4⟩, kA, comp, h3, h4, h1, h5⟩
theorem st_arrA {s : State} (h : aO s) : ∃ cA, ArrOfT s cA (.array .int) ∧ va_RA s cA (.array .int) := by
  obtain ⟨comp, cA, kA, h1, h2, h3, h4, h5⟩ := arrayOverA_spec h
  exact ⟨cA, fun n z => ⟨fun k h => (by cases h), kA, h3, comp, h4⟩, h5⟩
set_option maxHeartbeats 8000000 in
set_option maxRecDepth 100000 in
theorem st_E {s : State} {b : Nat} (hts : ∀ w ∈ lw_tbl, w.before #[Value.ref b] s = true) : aE s :=
  ⟨va_AO.of (hts (.arrayOver (.object RX1)) (by decide +kernel)), va_Nw.of rfl (hts (.methodLinkNest RX0 11 yX1_init "HutRings") (by decide +kernel)), va_Nw.of rfl (hts (.methodLinkNest RX2 11 yX1_init "HutRings") (by decide +kernel))⟩
set_option maxHeartbeats 8000000 in
set_option maxRecDepth 100000 in
theorem st_O {s : State} {b : Nat} (hts : ∀ w ∈ lw_tbl, w.before #[Value.ref b] s = true) : aO s := hts (.arrayOver (.array .int)) (by decide +kernel)
set_option maxHeartbeats 8000000 in
set_option maxRecDepth 100000 in
theorem st_N {s : State} {b : Nat} (hts : ∀ w ∈ lw_tbl, w.before #[Value.ref b] s = true) : va_Nw (.methodLinkNest RL 56 yX4_init "HutRingsLaw") s := va_Nw.of rfl (hts (.methodLinkNest RL 56 yX4_init "HutRingsLaw") (by decide +kernel))
set_option maxHeartbeats 8000000 in
set_option maxRecDepth 100000 in
theorem st_K {s : State} {b : Nat} (hts : ∀ w ∈ wsL_law, w.before #[Value.ref b] s = true) (hE : aE s) (hO : aO s) (htb : ∀ w ∈ lw_tbl, w.before #[Value.ref b] s = true) : ∃ (D : va_G) (cI cZ cR cJ : ClassId), va_K D vwCl (cTys cI cZ cR cJ) s := by
  obtain ⟨c0, i0, h0⟩ := u_known (C := RX0) (T := TX0) (N := 3) (n := 3) hts inlX0 (htb (.instantiable RX0 3) (by decide +kernel))
  obtain ⟨c1, i1, h1⟩ := u_known (C := RX1) (T := TX1) (N := 2) (n := 2) hts inlX1 (htb (.instantiable RX1 2) (by decide +kernel))
  obtain ⟨c2, i2, h2⟩ := u_known (C := RX2) (T := TX2) (N := 9) (n := 9) hts inlX2 (htb (.instantiable RX2 9) (by decide +kernel))
  obtain ⟨c3, i3, h3⟩ := u_known (C := RX3) (T := TX3) (N := 3) (n := 3) hts inlX3 (htb (.instantiable RX3 3) (by decide +kernel))
  obtain ⟨c4, i4, h4⟩ := u_known (C := RX4) (T := TX4) (N := 6) (n := 6) hts inlX4 (htb (.instantiable RX4 6) (by decide +kernel))
  obtain ⟨cI, a1, a2⟩ := st_arr (ty := .int) (htb (.arrayClass .int) (by decide +kernel)) (fun C h => by cases h)
  obtain ⟨cZ, b1, b2⟩ := st_arr (ty := .boolean) (htb (.arrayClass .boolean) (by decide +kernel)) (fun C h => by cases h)
  obtain ⟨cJ, d1, d2⟩ := st_arrA hO
  obtain ⟨cR, e1, e2⟩ := st_arrq hE.1
  refine ⟨(fun k => if k = 0 then c0 else if k = 1 then c1 else if k = 2 then c2 else if k = 3 then c3 else c4, fun k => if k = 0 then i0 else if k = 1 then i1 else if k = 2 then i2 else if k = 3 then i3 else i4), cI, cZ, cR, cJ, ?_, ?_⟩
  · intro k q hq
    match k, hq with
    | 0, hq => cases hq; exact h0
    | 1, hq => cases hq; exact h1
    | 2, hq => cases hq; exact h2
    | 3, hq => cases hq; exact h3
    | 4, hq => cases hq; exact h4
    | k + 5, hq => simp [vwCl] at hq
  · intro k q hq
    match k, hq with
    | 0, hq => cases hq; exact ⟨a1, a2⟩
    | 1, hq => cases hq; exact ⟨b1, b2⟩
    | 2, hq => cases hq; exact ⟨e1, e2⟩
    | 3, hq => cases hq; exact ⟨d1, d2⟩
    | k + 4, hq => simp [cTys] at hq
set_option maxHeartbeats 8000000 in
set_option maxRecDepth 100000 in
theorem whole_start {p : Program} {e : Env} {s : State} {m : MethodId} {below : List Frame} {meth : Method} {c : Code} (l : Launch) (hflags : l.flags = flags0) {b L : Nat} {xs : Nat → Int32} (hL : L ≤ 260) (C0 : lw_At p s m meth c b L xs) : W p l e room_1 s m #[Value.ref b] below meth c s.heap [] 0 0 (lw_Z below #[Value.ref b] s) (entryFrame m ([Value.ref b] : List Value).toArray 21) := by
  obtain ⟨hx, hb, hr, hml, hown, htb, hX, hbl, hlocks, hgv⟩ := id C0
  have hts : ∀ w ∈ wsL_law, w.before #[Value.ref b] s = true := fun w h => htb w (wsL_law_in w h)
  have hE := st_E htb
  have hO := st_O htb
  obtain ⟨D, cI, cZ, cR, cJ, hK⟩ := st_K hts hE hO htb
  have C : aC p s m #[Value.ref b] meth c D (cTys cI cZ cR cJ) (fun q => s.heap.size ≤ q) cL_law 21 wsL_law RL (some .boolean) := ⟨⟨hx, hb, hml, hown, hts⟩, hK, hlocks, hr, fun q h => h⟩
  have CG : gN (gS b L xs) p s m #[Value.ref b] meth c D (cTys cI cZ cR cJ) (fun q => s.heap.size ≤ q) cL_law 21 wsL_law RL (some .boolean) := ⟨C, hO, st_N htb, hX, hbl, Nat.not_le.mpr hbl⟩
  have hN : L < 2 ^ 31 := by omega
  rw [lg_entry_eq]
  suffices K : aW p l e room_1 s m #[Value.ref b] below meth c (lw_Z below #[Value.ref b] s) D (fun q => s.heap.size ≤ q) 0 0 0 (fun _ => 0) (fun _ => celV cI) 0 [some (.ref b), none, none, none, none, none, none, none, none, none, none, none, none, none, none, none, none, none, none, none, none] [] from
    K s.heap [] _ (fun k q h => by simp [wv] at h) ⟨fun i j p q h => by simp [wv] at h, fun k q h => by simp [wv] at h⟩ va_S.rf (aE_L (vs := [Value.ref b]) (k := 20) rfl rfl)
  have hend : ∀ (cells slots n : Nat) (a : Nat → Nat) (v : Nat → va_E) (lv : List (Option Value)), cells ≤ 600130 → slots ≤ 7301080 → aW p l e room_1 s m #[Value.ref b] below meth c (lw_Z below #[Value.ref b] s) D (fun q => s.heap.size ≤ q) cells slots n a v 683 lv [.int 1] := by
    intro cells slots n a v lv h1 h2
    exact fun H locs ls hP hD hS hL => va_forget (fun q hq => hS.2.2 q hq) (W.widen h1 h2 (lw_ret (d0 := s.drawn) (Drawn.sameBut.refl s.drawn lw_cs) hx hb hr hlocks dL_law_683))
  have go : ∀ (ac : Nat → Nat) (v : Nat → va_E), Cl cI cR 49 ac v ac cs0 → aW p l e room_1 s m #[Value.ref b] below meth c (lw_Z below #[Value.ref b] s) D (fun q => s.heap.size ≤ q) 100 1000 49 ac v 7 [some (.ref b), none, none, none, none, none, none, none, none, none, none, none, none, none, none, none, none, none, none, none, none] [.ref (ac 44)] := by
    intro ac v K
    refine aw_astore_n C dL_law_7 St1 rfl ?_
    refine aw_aload_n C dL_law_8 Lk1 ?_
    refine aw_aload_n C dL_law_9 Lk0 ?_
    refine gw_allS2 (rm := rmL_build) (mc := 2000) (ms := 20000) CG gS_H dL_law_10 gL_law_L_build sL_build (aChk_mk rfl (Nat.le_of_ble_eq_true rfl) (Nat.le_of_ble_eq_true rfl)) (fun r n' a' v' h9 => by obtain ⟨bs, σ', m', h', L', -, -, h2, -⟩ := h9; omega) (c_L_build K (HInv_0 (h := fun _ => 0) (L := fun _ => [])) hN) (fun r n2 a2 v2 hp => ?_)
    obtain ⟨bs, σ2, m2, h2, L2, rfl, hm2, LW2⟩ := hp
    refine aw_astore_n C dL_law_13 St2 rfl ?_
    refine aw_aload_n C dL_law_14 Lk2 ?_
    refine aw_ifnonnull C dL_law_15 (tgt := 20) (by decide) ?_
    refine aw_iconst C dL_law_20 (x := nI 0) (by decide) ?_
    refine aw_istore_n C dL_law_21 St3 rfl ?_
    exact aw_widen (by omega) (by omega) (law_loop CG hN hend 12 0 (by omega) n2 a2 v2 σ2 m2 h2 L2 hm2 LW2)
  refine aw_new C dL_law_0 (ci := 3) (fs := [.null, .null, .null]) (T := TX3) (ty := tyX3) inlX3 tyX3_ok (by decide +kernel) (by decide +kernel) (by decide +kernel) rfl (by decide) (Nat.le_of_ble_eq_true rfl) (Nat.le_of_ble_eq_true rfl) (fun q1 => ?_)
  refine aw_dup C dL_law_3 rfl ?_
  refine aw_callI (As := []) (i := 0) (x0 := .inr (3, [.null, .null, .null])) C hE dL_law_4 gL_law_X3_init sX3_init (rm := rnX3_init) (by decide +kernel) (by decide +kernel) (by decide +kernel) rfl rfl (by decide) rfl rfl c_X3_init (fun f1 hf1 => ?_)
  refine aw_widen (k := 100) (n9 := 1000) (by omega) (by omega) ?_
  refine aW_perm (n' := 49) (f := pmF) (v' := cv cI cR (fun k => aAp 1 (aPu 0 (fun _ => 0) q1) f1 (pmF k)) cs0) pm_lt (fun k hk => rfl) (fun i j hi hj => pm_inj i hi j hj) (fun k hk => ?_) (go (fun k => aAp 1 (aPu 0 (fun _ => 0) q1) f1 (pmF k)) _ ⟨Nat.le_refl _, fun _ _ => rfl, fun _ _ => rfl⟩)
  · rcases (show k = 0 ∨ k = 1 ∨ k = 2 ∨ k = 3 ∨ k = 4 ∨ k = 5 ∨ k = 6 ∨ k = 7 ∨ k = 8 ∨ k = 9 ∨ k = 10 ∨ k = 11 ∨ k = 12 ∨ k = 13 ∨ k = 14 ∨ k = 15 ∨ k = 16 ∨ k = 17 ∨ k = 18 ∨ k = 19 ∨ k = 20 ∨ k = 21 ∨ k = 22 ∨ k = 23 ∨ k = 24 ∨ k = 25 ∨ k = 26 ∨ k = 27 ∨ k = 28 ∨ k = 29 ∨ k = 30 ∨ k = 31 ∨ k = 32 ∨ k = 33 ∨ k = 34 ∨ k = 35 ∨ k = 36 ∨ k = 37 ∨ k = 38 ∨ k = 39 ∨ k = 40 ∨ k = 41 ∨ k = 42 ∨ k = 43 ∨ k = 44 ∨ k = 45 ∨ k = 46 ∨ k = 47 ∨ k = 48 by omega) with rfl | rfl | rfl | rfl | rfl | rfl | rfl | rfl | rfl | rfl | rfl | rfl | rfl | rfl | rfl | rfl | rfl | rfl | rfl | rfl | rfl | rfl | rfl | rfl | rfl | rfl | rfl | rfl | rfl | rfl | rfl | rfl | rfl | rfl | rfl | rfl | rfl | rfl | rfl | rfl | rfl | rfl | rfl | rfl | rfl | rfl | rfl | rfl | rfl
    · rfl
    · rfl
    · rfl
    · rfl
    · rfl
    · rfl
    · rfl
    · rfl
    · rfl
    · rfl
    · rfl
    · rfl
    · rfl
    · rfl
    · rfl
    · rfl
    · rfl
    · rfl
    · rfl
    · rfl
    · rfl
    · rfl
    · rfl
    · rfl
    · rfl
    · rfl
    · rfl
    · rfl
    · rfl
    · rfl
    · rfl
    · rfl
    · rfl
    · rfl
    · rfl
    · rfl
    · rfl
    · rfl
    · rfl
    · rfl
    · rfl
    · rfl
    · rfl
    · rfl
    · rfl
    · rfl
    · exact lik_cell (fun i hi => by
        rcases (show i = 0 ∨ i = 1 ∨ i = 2 ∨ i = 3 ∨ i = 4 ∨ i = 5 ∨ i = 6 ∨ i = 7 ∨ i = 8 ∨ i = 9 by omega) with rfl | rfl | rfl | rfl | rfl | rfl | rfl | rfl | rfl | rfl <;> rfl)
    · rfl
    · rfl
