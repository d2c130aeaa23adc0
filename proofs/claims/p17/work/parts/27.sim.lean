/-! the law's Sim: cell 0 the object, 1 has, 2 lists, then the rows of the lists -/
def SimAt (cI cJ : ClassId) (n : Nat) (a : Nat → Nat) (v : Nat → va_E) (m : Nat) (h : Nat → Nat) (L : Nat → List Nat) : Prop :=
  m ≤ 10 ∧ (∃ x2 x3 x4 x5, Ob n a v 0 (a 0) [.ref (a 1), .ref (a 2), x2, x3, x4, x5]) ∧ (∃ f, Ar cI n a v 1 (a 1) m f ∧ ∀ k, k < m → f k = nI (h k)) ∧ (∃ g, Rr cJ n a v 2 (a 2) m g ∧ ∀ k, k < m → g k = some (a (3 + k))) ∧
    ∃ rf : Nat → Nat → Int32, ∀ k, k < m → Ar cI n a v (3 + k) (a (3 + k)) (L k).length (rf k) ∧ (L k).length ≤ 10 ∧ ∀ p, p < (L k).length → rf k p = nI ((L k).getD p 0)
theorem SimAt.to {cI cJ : ClassId} {n n' : Nat} {a a' : Nat → Nat} {v v' : Nat → va_E} {m : Nat} {h : Nat → Nat} {L : Nat → List Nat} (S : SimAt cI cJ n a v m h L) (hn : 3 + m ≤ n') (ha : ∀ k, k < 3 + m → a' k = a k) (hv : ∀ k, k < 3 + m → v' k = v k) : SimAt cI cJ n' a' v' m h L := by
  obtain ⟨h1, ⟨x2, x3, x4, x5, O⟩, ⟨f, A1, hf⟩, ⟨g, R1, hg⟩, rf, hR⟩ := S
  refine ⟨h1, ⟨x2, x3, x4, x5, ?_⟩, ⟨f, ?_, hf⟩, ⟨g, ?_, fun k hk => by rw [hg k hk, ha _ (by omega)]⟩, rf, fun k hk => ⟨?_, (hR k hk).2⟩⟩
  · rw [ha 0 (by omega), ha 1 (by omega), ha 2 (by omega)]
    exact O.to (by omega) (ha 0 (by omega)) (hv 0 (by omega))
  · rw [ha 1 (by omega)]
    exact A1.to (by omega) (ha 1 (by omega)) (hv 1 (by omega))
  · rw [ha 2 (by omega)]
    exact R1.to (by omega) (ha 2 (by omega)) (hv 2 (by omega))
  · rw [ha (3 + k) (by omega)]
    exact (hR k hk).1.to (by omega) (ha (3 + k) (by omega)) (hv (3 + k) (by omega))
/-- of the land alone -/
theorem SimAt.cong {cI cJ : ClassId} {n : Nat} {a : Nat → Nat} {v : Nat → va_E} {m : Nat} {h h' : Nat → Nat} {L L' : Nat → List Nat} (S : SimAt cI cJ n a v m h L) (hh : ∀ k, k < m → h' k = h k) (hL : ∀ k, k < m → L' k = L k) : SimAt cI cJ n a v m h' L' := by
  obtain ⟨h1, O, ⟨f, A1, hf⟩, R, rf, hR⟩ := S
  exact ⟨h1, O, ⟨f, A1, fun k hk => by rw [hf k hk, hh k hk]⟩, R, rf, fun k hk => by rw [hL k hk]; exact hR k hk⟩
section SCRW
variable {p : Program} {l : Launch} {e : Env} {R : Room} {s : State} {m : MethodId} {args : Array Value} {below : List Frame} {meth : Method} {c : Code} {Q : State → Prop} {D : va_G} {tys : List (ClassId × FieldType)} {A : Nat → Prop} {cells slots nL n pc : Nat} {a : Nat → Nat} {v : Nat → va_E} {lv : List (Option Value)} {st : List Value} {cc : ByteArray} {Ts : List Cond} {own : String} {ret : Option FieldType} {b9 N i : Nat} {xs : Nat → Int32}
theorem aw_sln (C : aC p s m args meth c D tys A cc nL Ts own ret) (hX : va_X b9 N xs s s.heap) (hb : b9 < s.heap.size) (hA : ¬ A b9) (d : decode cc pc = .ok (.arraylength, 1)) (k : aW p l e R s m args below meth c Q D A cells slots n a v (pc + 1) lv (.int (nI N) :: st)) : aW p l e R s m args below meth c Q D A cells slots n a v pc lv (.ref b9 :: st) := fun H locs ls hP hD hS hL => va_slen C.1.1 C.1.2.1 hX hb hA hS d (k H locs ls hP hD hS hL)
theorem aw_sl (C : aC p s m args meth c D tys A cc nL Ts own ret) (hX : va_X b9 N xs s s.heap) (hb : b9 < s.heap.size) (hA : ¬ A b9) (hi : i < N) (hN : N < 2 ^ 31) (d : decode cc pc = .ok (.iaload, 1)) (k : aW p l e R s m args below meth c Q D A cells slots n a v (pc + 1) lv (.int (xs i) :: st)) : aW p l e R s m args below meth c Q D A cells slots n a v pc lv (.int (nI i) :: .ref b9 :: st) := fun H locs ls hP hD hS hL => va_sld C.1.1 C.1.2.1 hX hb hA hS (vp_in_nI hi (by omega)) d (by rw [nI_clamp (by omega)]; exact k H locs ls hP hD hS hL)
end SCRW
def cmF (m k : Nat) : Nat := if k = 0 then 0 else if k = 1 then 3 + m else if k = 2 then 3 + m + 1 else if k < 3 + m then k else 3 + m + 1 + 1
theorem cmF_lt (m : Nat) : ∀ k, k < 3 + (m + 1) → cmF m k < 3 + m + 1 + 1 + 1 := fun k hk => by
  simp only [cmF]
  split <;> (try split) <;> (try split) <;> (try split) <;> omega
theorem cmF_inj (m : Nat) : ∀ i j, i < 3 + (m + 1) → j < 3 + (m + 1) → cmF m i = cmF m j → i = j := fun i j hi hj h => by
  simp only [cmF] at h
  split at h <;> (try split at h) <;> (try split at h) <;> (try split at h) <;> (try split at h) <;> (try split at h) <;> (try split at h) <;> (try split at h) <;> omega
section SIM
variable {l : Launch} {D : va_G} {cI cZ cR cJ : ClassId}
set_option maxHeartbeats 4000000 in
set_option maxRecDepth 100000 in
theorem c_L_below {v : Int32} {m : Nat} (hm : 0 < m) (hm2 : m < 2 ^ 31) : ∃ j, j < m ∧ ∀ (a : Nat → Nat) (vv : Nat → va_E), aM l D (cTys cI cZ cR cJ) 0 a yL_below wsL_below rmL_below [.int v, .int (nI m)] vv (some (.int (nI j))) vv := by
  refine ⟨v.toBitVec.toNat % 2 ^ 31 % m, Nat.mod_lt _ hm, fun a vv => ?_⟩
  refine aM_of sL_below (lv0 := [some (.int v), some (.int (nI m))]) (j := 0) rfl rfl ?_
  intro pM eM sM mM argsM belowM methM cM AM C
  refine aw_iload_n C dL_below_0 Lk0 ?_
  refine aw_ldc (x := 2147483647) C dL_below_1 (by decide +kernel) ?_
  refine aw_iand C dL_below_3 ?_
  rw [pk_and v 31 (by decide)]
  refine aw_iload_n C dL_below_4 Lk1 ?_
  refine aw_irem C dL_below_5 (nI_ne0 hm hm2) ?_
  rw [pk_rem (Nat.mod_lt _ (by decide)) hm hm2]
  exact aw_iend C dL_below_6 rfl rfl
/-- the law's script of N numbers, at b9: it lies among no cells that may be written -/
def gS (b9 N : Nat) (xs : Nat → Int32) : (Nat → Prop) → State → Prop := fun A U => aO U ∧ va_Nw (.methodLinkNest RL 56 yX4_init "HutRingsLaw") U ∧ va_X b9 N xs U U.heap ∧ b9 < U.heap.size ∧ ¬ A b9
theorem gS_H {b9 N : Nat} {xs : Nat → Int32} : gH (gS b9 N xs) := ⟨fun A U U' hh hv h => ⟨aO.moved (by rw [hv]; exact Vm.Alike.refl U.vm) h.1, va_Nw.same rfl hv.symm h.2.1, by rw [hh]; exact va_X.moved (by rw [hv]; exact Vm.Alike.refl U.vm) h.2.2.1, by rw [hh]; exact h.2.2.2.1, h.2.2.2.2⟩,
  fun A B s U H locs hS hU hW hBA h => ⟨aO.moved hW.alike h.1, va_Nw.warmM hW h.2.1, va_X.moved hW.alike (by rw [hU]; exact va_X.kept h.2.2.1 (hS.2.1 b9 h.2.2.2.1 h.2.2.2.2)), by rw [hU]; exact Nat.lt_of_lt_of_le h.2.2.2.1 hS.1, fun z => h.2.2.2.2 (hBA _ z)⟩⟩
set_option maxHeartbeats 4000000 in
set_option maxRecDepth 100000 in
theorem c_L_cell {b9 N k : Nat} {xs : Nat → Int32} (hk : k < 1000) (hN : N < 2 ^ 31) {a : Nat → Nat} {vv : Nat → va_E} : gM l D (cTys cI cZ cR cJ) yL_cell wsL_cell rmL_cell (gS b9 N xs) 0 a vv [.ref b9, .int (nI k)] 0 0 (fun r n' _ _ => n' = 0 ∧ ∃ x, r = some (.int x)) := by
  refine gM_of sL_cell (lv0 := [some (.ref b9), some (.int (nI k))]) (j := 0) rfl rfl ?_
  intro pM eM sM mM argsM belowM methM cM AM szM CG hA9
  obtain ⟨C, hX⟩ := CG
  refine aw_iload_n C dL_cell_0 Lk1 ?_
  refine aw_aload_n C dL_cell_1 Lk0 ?_
  refine aw_sln C hX.2.2.1 hX.2.2.2.1 hX.2.2.2.2 dL_cell_2 ?_
  refine aw_icmp_ge C dL_cell_3 (tgt := 12) (by decide) (fun c_3 => ?_) (fun c_3 => ?_)
  · skip
    refine aw_ldc (x := 790386105) C dL_cell_12 (by decide +kernel) ?_
    refine aw_iload_n C dL_cell_14 Lk1 ?_
    refine aw_iconst C dL_cell_15 (x := nI 3) (by decide) ?_
    refine aw_iadd C dL_cell_16 ?_
    refine aw_imul C dL_cell_17 ?_
    exact gw_iret C hA9 dL_cell_18 (Nat.le_refl _) (Nat.le_refl _) ⟨rfl, _, rfl⟩
  · skip
    refine aw_aload_n C dL_cell_6 Lk0 ?_
    refine aw_iload_n C dL_cell_7 Lk1 ?_
    refine aw_sl C hX.2.2.1 hX.2.2.2.1 hX.2.2.2.2 (by have := (nI_ltI (by omega) (by omega)).mp (Int32.not_le.mp c_3); omega) (by omega) dL_cell_8 ?_
    refine aw_goto C dL_cell_9 (tgt := 18) (by decide) ?_
    exact gw_iret C hA9 dL_cell_18 (Nat.le_refl _) (Nat.le_refl _) ⟨rfl, _, rfl⟩
set_option maxHeartbeats 4000000 in
set_option maxRecDepth 100000 in
theorem c_X4_rank {n m k : Nat} {a : Nat → Nat} {v : Nat → va_E} {h : Nat → Nat} {L : Nat → List Nat} {x : Int32} (S : SimAt cI cJ n a v m h L) (hk : k < m) : aM l D (cTys cI cZ cR cJ) n a yX4_rank wsX4_rank rmX4_rank [.ref (a 0), .int (nI k), .int x] v (some (.int (rkP h L k x))) v := by
  obtain ⟨hm, ⟨x2, x3, x4, x5, O⟩, ⟨f, A1, hf⟩, ⟨g, R1, hg⟩, rf, hR⟩ := S
  obtain ⟨B1, hB1, hB2⟩ := hR k hk
  refine aM_of sX4_rank (lv0 := [some (.ref (a 0)), some (.int (nI k)), some (.int x)]) (j := 0) rfl rfl ?_
  intro pM eM sM mM argsM belowM methM cM AM C
  refine aw_aload_n C dX4_rank_0 Lk0 ?_
  refine aw_g_has C O dX4_rank_1 (by decide +kernel) (by decide +kernel) ?_
  refine aw_iload_n C dX4_rank_4 Lk1 ?_
  refine aw_il C A1 (by omega) dX4_rank_5 ?_
  rw [hf k hk]
  refine aw_iload_n C dX4_rank_6 Lk2 ?_
  refine aw_icmp_ne C dX4_rank_7 (tgt := 20) (by decide) (fun c_7 => ?_) (fun c_7 => ?_)
  · skip
    refine aw_aload_n C dX4_rank_20 Lk0 ?_
    refine aw_g_lists C O dX4_rank_21 (by decide +kernel) (by decide +kernel) ?_
    refine aw_iload_n C dX4_rank_24 Lk1 ?_
    refine aw_rl C R1 (by omega) (hg k hk) dX4_rank_25 ?_
    refine aw_iload_n C dX4_rank_26 Lk2 ?_
    refine aw_find C dX4_rank_27 gX4_rank_X4_find B1 rfl ?_
    exact aw_iend C dX4_rank_30 rfl (by rw [rkP, if_neg (fun z => c_7 z.symm), rFind_cong (g := fun p => nI ((L k).getD p 0)) _ _ (fun p _ hp => hB2 p (by omega))])
  · skip
    refine aw_aload_n C dX4_rank_10 Lk0 ?_
    refine aw_g_lists C O dX4_rank_11 (by decide +kernel) (by decide +kernel) ?_
    refine aw_iload_n C dX4_rank_14 Lk1 ?_
    refine aw_rl C R1 (by omega) (hg k hk) dX4_rank_15 ?_
    refine aw_al C B1 dX4_rank_16 ?_
    refine aw_goto C dX4_rank_17 (tgt := 30) (by decide) ?_
    exact aw_iend C dX4_rank_30 rfl (by rw [rkP, if_pos (Classical.not_not.mp c_7).symm])
set_option maxHeartbeats 4000000 in
set_option maxRecDepth 100000 in
theorem c_X4_init {G : (Nat → Prop) → State → Prop} (hGO : ∀ A s, G A s → aO s) {a : Nat → Nat} {v : Nat → va_E} {b : Nat} (O : Ob 1 a v 0 b [.null, .null, .null, .null, .null, .null]) : gM l D (cTys cI cZ cR cJ) yX4_init wsX4_init rmX4_init G 1 a v [.ref b] 2 0 (fun r n' a' v' => r = none ∧ n' = 3 ∧ a' 0 = a 0 ∧ ∀ h L, SimAt cI cJ n' a' v' 0 h L) := by
  refine gM_of sX4_init (lv0 := [some (.ref b)]) (j := 0) rfl rfl ?_
  intro pM eM sM mM argsM belowM methM cM AM szM CG hA9
  have C := CG.1
  have hO := hGO _ _ CG.2
  refine aw_aload_n C dX4_init_0 Lk0 ?_
  refine aw_obj C dX4_init_1 (by decide +kernel) (by decide +kernel) (by decide +kernel) rfl (Nat.le_of_ble_eq_true rfl) (Nat.le_of_ble_eq_true rfl) ?_
  refine aw_aload_n C dX4_init_4 Lk0 ?_
  refine aw_iconst C dX4_init_5 (x := nI 0) (by decide) ?_
  refine bw_ni C (by decide +kernel) (by omega) (by show 0 + 1 ≤ 2; omega) (Nat.le_refl _) dX4_init_6 (fun a1 v1 ha1 hv1 A1 => ?_)
  have O := O.gr (n' := 1 + 1) ha1 hv1 (by omega)
  refine bw_p_has C O dX4_init_8 (by decide +kernel) (by decide +kernel) (fun v2 hv2 O => ?_)
  have A1 := A1.sv hv2 (by omega)
  refine aw_aload_n C dX4_init_11 Lk0 ?_
  refine aw_iconst C dX4_init_12 (x := nI 0) (by decide) ?_
  refine bw_nr C hO (by decide +kernel) (by omega) (by show 0 + 1 + 1 ≤ 2; omega) (Nat.le_refl _) dX4_init_13 (fun a3 v3 ha3 hv3 R1 => ?_)
  have O := O.gr (n' := 1 + 1 + 1) ha3 hv3 (by omega)
  have A1 := A1.gr (n' := 1 + 1 + 1) ha3 hv3 (by omega)
  refine bw_p_lists C O dX4_init_16 (by decide +kernel) (by decide +kernel) (fun v4 hv4 O => ?_)
  have A1 := A1.sv hv4 (by omega)
  have R1 := R1.sv hv4 (by omega)
  refine gw_vret C hA9 dX4_init_19 (by omega) (Nat.le_refl _) ⟨rfl, rfl, ?_, fun h L => ⟨by omega, ⟨.null, .null, .null, .null, ?_⟩, ⟨fun _ => 0, ?_, fun k hk => absurd hk (by omega)⟩, ⟨fun _ => none, R1, fun k hk => absurd hk (by omega)⟩, fun _ _ => 0, fun k hk => absurd hk (by omega)⟩⟩
  · rw [ha3 0 (by omega), ha1 0 (by omega)]
  · rw [O.2.1, A1.2.1]; exact O
  · rw [A1.2.1]; exact A1
set_option maxHeartbeats 4000000 in
set_option maxRecDepth 100000 in
theorem c_X4_come {G : (Nat → Prop) → State → Prop} (hGO : ∀ A s, G A s → aO s) {m : Nat} {a : Nat → Nat} {v : Nat → va_E} {h : Nat → Nat} {L : Nat → List Nat} (S : SimAt cI cJ (3 + m) a v m h L) (hm9 : m < 10) : gM l D (cTys cI cZ cR cJ) yX4_come wsX4_come rmX4_come G (3 + m) a v [.ref (a 0)] 3 22 (fun r n' a' v' => r = none ∧ n' = 3 + (m + 1) ∧ a' 0 = a 0 ∧ SimAt cI cJ n' a' v' (m + 1) (updN h m m) (updL L m [])) := by
  obtain ⟨hm, ⟨x2, x3, x4, x5, O⟩, ⟨f, A1, hf⟩, ⟨g, R1, hg⟩, rf, hR⟩ := S
  have hRa := fun (k : Nat) (hk : k < m) => (hR k hk).1
  refine gM_of sX4_come (lv0 := [some (.ref (a 0)), none, none, none, none]) (j := 4) rfl rfl ?_
  intro pM eM sM mM argsM belowM methM cM AM szM CG hA9
  have C := CG.1
  have hO := hGO _ _ CG.2
  refine aw_aload_n C dX4_come_0 Lk0 ?_
  refine aw_g_has C O dX4_come_1 (by decide +kernel) (by decide +kernel) ?_
  refine aw_al C A1 dX4_come_4 ?_
  refine aw_istore_n C dX4_come_5 St1 rfl ?_
  refine aw_iload_n C dX4_come_6 Lk1 ?_
  refine aw_iconst C dX4_come_7 (x := nI 1) (by decide) ?_
  refine aw_iadd C dX4_come_8 ?_
  rw [nI_add]
  refine bw_ni C (by decide +kernel) (by omega) (by show 0 + 1 ≤ 3; omega) (by show 0 + (m + 1) ≤ 22; omega) dX4_come_9 (fun a1 v1 ha1 hv1 B1 => ?_)
  have O := O.gr (n' := 3 + m + 1) ha1 hv1 (by omega)
  have A1 := A1.gr (n' := 3 + m + 1) ha1 hv1 (by omega)
  have R1 := R1.gr (n' := 3 + m + 1) ha1 hv1 (by omega)
  have hRa := fun (k : Nat) (hk : k < m) => (hRa k hk).gr (n' := 3 + m + 1) ha1 hv1 (by omega)
  refine aw_astore_n C dX4_come_11 St2 rfl ?_
  refine aw_iload_n C dX4_come_12 Lk1 ?_
  refine aw_iconst C dX4_come_13 (x := nI 1) (by decide) ?_
  refine aw_iadd C dX4_come_14 ?_
  rw [nI_add]
  refine bw_nr C hO (by decide +kernel) (by omega) (by show 0 + 1 + 1 ≤ 3; omega) (by show 0 + (m + 1) + (m + 1) ≤ 22; omega) dX4_come_15 (fun a2 v2 ha2 hv2 B2 => ?_)
  have O := O.gr (n' := 3 + m + 1 + 1) ha2 hv2 (by omega)
  have A1 := A1.gr (n' := 3 + m + 1 + 1) ha2 hv2 (by omega)
  have R1 := R1.gr (n' := 3 + m + 1 + 1) ha2 hv2 (by omega)
  have hRa := fun (k : Nat) (hk : k < m) => (hRa k hk).gr (n' := 3 + m + 1 + 1) ha2 hv2 (by omega)
  have B1 := B1.gr (n' := 3 + m + 1 + 1) ha2 hv2 (by omega)
  refine aw_astore_n C dX4_come_18 St3 rfl ?_
  refine aw_iconst C dX4_come_19 (x := nI 0) (by decide) ?_
  refine aw_istore C dX4_come_20 St4 rfl ?_
  have hl_22 : ∀ (j i : Nat), i + j = m → ∀ (v' : Nat → va_E) (fb : Nat → Int32) (gb : Nat → Option Nat), (Ob (3 + m + 1 + 1) a2 v' 0 (a 0) [.ref (a 1), .ref (a 2), x2, x3, x4, x5]) → (Ar cI (3 + m + 1 + 1) a2 v' 1 (a 1) m f) → (Rr cJ (3 + m + 1 + 1) a2 v' 2 (a 2) m g) → (∀ k, k < m → Ar cI (3 + m + 1 + 1) a2 v' (3 + k) (a (3 + k)) (L k).length (rf k)) → (Ar cI (3 + m + 1 + 1) a2 v' (3 + m) (a1 (3 + m)) (m + 1) fb) → (Rr cJ (3 + m + 1 + 1) a2 v' (3 + m + 1) (a2 (3 + m + 1)) (m + 1) gb) → (∀ q, q < i → fb q = f q) → (∀ q, q < i → gb q = g q) → aW pM l eM rmX4_come sM mM argsM belowM methM cM (MQ belowM (gQ D (3 + m) a szM (fun r n' a' v' => r = none ∧ n' = 3 + (m + 1) ∧ a' 0 = a 0 ∧ SimAt cI cJ n' a' v' (m + 1) (updN h m m) (updL L m []))) argsM sM 3 22 AM) D AM (0 + 1 + 1) (0 + (m + 1) + (m + 1)) (3 + m + 1 + 1) a2 v' 22 [some (.ref (a 0)), some (.int (nI m)), some (.ref (a1 (3 + m))), some (.ref (a2 (3 + m + 1))), some (.int (nI i))] [] := by
    intro j
    induction j with
    | zero =>
      intro i hi v' fb gb O A1 R1 hRa B1 B2 hfb hgb
      refine aw_iload C dX4_come_22 Lk4 ?_
      refine aw_iload_n C dX4_come_24 Lk1 ?_
      refine aw_icmp_ge C dX4_come_25 (tgt := 56) (by decide) (fun c_25 => ?_) (fun c_25 => absurd (nI_le (by omega) (by omega)) c_25)
      refine aw_aload_n C dX4_come_56 Lk2 ?_
      refine aw_iload_n C dX4_come_57 Lk1 ?_
      refine aw_iload_n C dX4_come_58 Lk1 ?_
      refine bw_is C B1 (by omega) dX4_come_59 (fun v5 hv5 B1 => ?_)
      have O := O.sv hv5 (by omega)
      have A1 := A1.sv hv5 (by omega)
      have R1 := R1.sv hv5 (by omega)
      have hRa := fun (k : Nat) (hk : k < m) => (hRa k hk).sv hv5 (by omega)
      have B2 := B2.sv hv5 (by omega)
      refine aw_aload_n C dX4_come_60 Lk3 ?_
      refine aw_iload_n C dX4_come_61 Lk1 ?_
      refine aw_iconst C dX4_come_62 (x := nI 0) (by decide) ?_
      refine bw_ni C (by decide +kernel) (by omega) (by show 0 + 1 + 1 + 1 ≤ 3; omega) (by show 0 + (m + 1) + (m + 1) + 0 ≤ 22; omega) dX4_come_63 (fun a6 v6 ha6 hv6 B3 => ?_)
      have O := O.gr (n' := 3 + m + 1 + 1 + 1) ha6 hv6 (by omega)
      have A1 := A1.gr (n' := 3 + m + 1 + 1 + 1) ha6 hv6 (by omega)
      have R1 := R1.gr (n' := 3 + m + 1 + 1 + 1) ha6 hv6 (by omega)
      have hRa := fun (k : Nat) (hk : k < m) => (hRa k hk).gr (n' := 3 + m + 1 + 1 + 1) ha6 hv6 (by omega)
      have B1 := B1.gr (n' := 3 + m + 1 + 1 + 1) ha6 hv6 (by omega)
      have B2 := B2.gr (n' := 3 + m + 1 + 1 + 1) ha6 hv6 (by omega)
      refine bw_rs C hO B2 (by omega) B3 dX4_come_65 (fun v7 hv7 B2 => ?_)
      have O := O.sv hv7 (by omega)
      have A1 := A1.sv hv7 (by omega)
      have R1 := R1.sv hv7 (by omega)
      have hRa := fun (k : Nat) (hk : k < m) => (hRa k hk).sv hv7 (by omega)
      have B1 := B1.sv hv7 (by omega)
      have B3 := B3.sv hv7 (by omega)
      refine aw_aload_n C dX4_come_66 Lk0 ?_
      refine aw_aload_n C dX4_come_67 Lk2 ?_
      refine bw_p_has C O dX4_come_68 (by decide +kernel) (by decide +kernel) (fun v8 hv8 O => ?_)
      have A1 := A1.sv hv8 (by omega)
      have R1 := R1.sv hv8 (by omega)
      have hRa := fun (k : Nat) (hk : k < m) => (hRa k hk).sv hv8 (by omega)
      have B1 := B1.sv hv8 (by omega)
      have B2 := B2.sv hv8 (by omega)
      have B3 := B3.sv hv8 (by omega)
      refine aw_aload_n C dX4_come_71 Lk0 ?_
      refine aw_aload_n C dX4_come_72 Lk3 ?_
      refine bw_p_lists C O dX4_come_73 (by decide +kernel) (by decide +kernel) (fun v9 hv9 O => ?_)
      have A1 := A1.sv hv9 (by omega)
      have R1 := R1.sv hv9 (by omega)
      have hRa := fun (k : Nat) (hk : k < m) => (hRa k hk).sv hv9 (by omega)
      have B1 := B1.sv hv9 (by omega)
      have B2 := B2.sv hv9 (by omega)
      have B3 := B3.sv hv9 (by omega)
      refine aW_perm (n' := 3 + (m + 1)) (a' := fun k => a6 (cmF m k)) (v' := fun k => v9 (cmF m k)) (f := cmF m) (cmF_lt m) (fun _ _ => rfl) (cmF_inj m) (fun _ _ => rfl) ?_
      have e0 : cmF m 0 = 0 := rfl
      have e1 : cmF m 1 = 3 + m := rfl
      have e2 : cmF m 2 = 3 + m + 1 := rfl
      have e3 : ∀ k, k < m → cmF m (3 + k) = 3 + k := fun k hk => by simp only [cmF]; rw [if_neg (by omega), if_neg (by omega), if_neg (by omega), if_pos (by omega)]
      have e4 : cmF m (3 + m) = 3 + m + 1 + 1 := by simp only [cmF]; rw [if_neg (by omega), if_neg (by omega), if_neg (by omega), if_neg (by omega)]
      refine gw_vret C hA9 dX4_come_76 (by omega) (by omega) ⟨rfl, rfl, O.2.1, by omega, ⟨x2, x3, x4, x5, ?_⟩, ⟨upd fb m (nI m), ?_, fun k hk => ?_⟩, ⟨_, ⟨by omega, rfl, B2.2.2.1, B2.2.2.2⟩, fun k hk => ?_⟩, fun k => if k = m then fun _ => 0 else rf k, fun k hk => ?_⟩
      · refine ⟨by omega, rfl, ?_⟩
        show v9 0 = .inr (4, [.ref (a6 (3 + m)), .ref (a6 (3 + m + 1)), x2, x3, x4, x5])
        rw [B1.2.1, B2.2.1]
        exact O.2.2
      · exact ⟨by omega, rfl, B1.2.2.1, B1.2.2.2⟩
      · by_cases c : k = m
        · subst c; rw [pk_us]; simp [updN]
        · rw [pk_un c, hfb k (by omega), hf k (by omega)]; simp [updN, c]
      · show va_up gb m (some (a6 (3 + m + 1 + 1))) k = some (a6 (cmF m (3 + k)))
        by_cases c : k = m
        · subst c; rw [e4]; simp [va_up]
        · rw [e3 k (by omega), (hRa k (by omega)).2.1]
          simp only [va_up, if_neg c]
          rw [hgb k (by omega), hg k (by omega)]
      · by_cases c : k = m
        · subst c
          rw [show (updL L k [] k) = [] by simp [updL]]
          simp only [if_true]
          refine ⟨⟨by omega, rfl, ?_, by decide⟩, by simp, fun p hp => absurd hp (by simp)⟩
          show v9 (cmF k (3 + k)) = _
          rw [e4]
          exact B3.2.2.1
        · obtain ⟨-, r1, r2⟩ := hR k (by omega)
          have r0 := hRa k (by omega)
          rw [show (updL L m [] k) = L k by simp [updL, c]]
          simp only [if_neg c]
          refine ⟨⟨by omega, rfl, ?_, r0.2.2.2⟩, r1, r2⟩
          show v9 (cmF m (3 + k)) = _
          rw [e3 k (by omega)]
          exact r0.2.2.1
    | succ j ih =>
      intro i hi v' fb gb O A1 R1 hRa B1 B2 hfb hgb
      refine aw_iload C dX4_come_22 Lk4 ?_
      refine aw_iload_n C dX4_come_24 Lk1 ?_
      refine aw_icmp_ge C dX4_come_25 (tgt := 56) (by decide) (fun c_25 => absurd c_25 (nI_ge (by omega) (by omega))) (fun c_25 => ?_)
      refine aw_aload_n C dX4_come_28 Lk2 ?_
      refine aw_iload C dX4_come_29 Lk4 ?_
      refine aw_aload_n C dX4_come_31 Lk0 ?_
      refine aw_g_has C O dX4_come_32 (by decide +kernel) (by decide +kernel) ?_
      refine aw_iload C dX4_come_35 Lk4 ?_
      refine aw_il C A1 (by omega) dX4_come_37 ?_
      refine bw_is C B1 (by omega) dX4_come_38 (fun v5 hv5 B1 => ?_)
      have O := O.sv hv5 (by omega)
      have A1 := A1.sv hv5 (by omega)
      have R1 := R1.sv hv5 (by omega)
      have hRa := fun (k : Nat) (hk : k < m) => (hRa k hk).sv hv5 (by omega)
      have B2 := B2.sv hv5 (by omega)
      refine aw_aload_n C dX4_come_39 Lk3 ?_
      refine aw_iload C dX4_come_40 Lk4 ?_
      refine aw_aload_n C dX4_come_42 Lk0 ?_
      refine aw_g_lists C O dX4_come_43 (by decide +kernel) (by decide +kernel) ?_
      refine aw_iload C dX4_come_46 Lk4 ?_
      refine aw_rl C R1 (by omega) (hg i (by omega)) dX4_come_48 ?_
      refine bw_rs C hO B2 (by omega) (hRa i (by omega)) dX4_come_49 (fun v7 hv7 B2 => ?_)
      have O := O.sv hv7 (by omega)
      have A1 := A1.sv hv7 (by omega)
      have R1 := R1.sv hv7 (by omega)
      have hRa := fun (k : Nat) (hk : k < m) => (hRa k hk).sv hv7 (by omega)
      have B1 := B1.sv hv7 (by omega)
      refine aw_iinc C dX4_come_50 Lk4 (nI_1 _) St4 rfl ?_
      refine aw_goto C dX4_come_53 (tgt := 22) (by decide) ?_
      exact ih (i + 1) (by omega) v7 _ _ O A1 R1 hRa B1 B2 (fun q hq => by
              by_cases c : q = i
              · subst c; rw [pk_us]
              · rw [pk_un c]; exact hfb q (by omega)) (fun q hq => by
              by_cases c : q = i
              · subst c; rw [hg q (by omega)]; simp [va_up]
              · simp only [va_up, if_neg c]; exact hgb q (by omega))
  exact hl_22 m 0 (by omega) v2 _ _ O A1 R1 hRa B1 B2 (fun q hq => absurd hq (by omega)) (fun q hq => absurd hq (by omega))
end SIM
