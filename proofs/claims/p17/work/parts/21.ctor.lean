/-! the constructors -/
abbrev rnX1_init : Room := { frames := 1, cells := 1, slots := 10, locals := 24 }
abbrev rnX0_init : Room := { frames := 2, cells := 25, slots := 154, locals := 48 }
abbrev rnX2_init : Room := { frames := 2, cells := 10, slots := 60, locals := 48 }
abbrev rnX3_init : Room := { frames := 3, cells := 48, slots := 295, locals := 80 }
def celV (cI : ClassId) : va_E := .inl (cI, 10, .inl (fun _ => 0))
def rowV (cI : ClassId) (f : Nat → Nat) (k : Nat) : va_E := if k = 0 then .inr (1, [.ref (f 1), .int (nI 0)]) else celV cI
/-- the array of ten rows -/
def likF (z : Nat → Nat) : Nat → Option Nat := va_up (va_up (va_up (va_up (va_up (va_up (va_up (va_up (va_up (va_up (fun _ => none) 0 (some (z 0))) 1 (some (z 1))) 2 (some (z 2))) 3 (some (z 3))) 4 (some (z 4))) 5 (some (z 5))) 6 (some (z 6))) 7 (some (z 7))) 8 (some (z 8))) 9 (some (z 9))
def landV (cI cR : ClassId) (f : Nat → Nat) (k : Nat) : va_E :=
  if k = 0 then .inr (0, [.ref (f 1), .ref (f 3), .ref (f 4)]) else if k = 3 then .inl (cR, 10, .inr (.inr (.inr (.inr (likF (fun i => f (6 + 2 * i)))))))
  else if k = 1 ∨ k = 4 ∨ (6 ≤ k ∧ k % 2 = 0) then .inr (1, [.ref (f (k + 1)), .int (nI 0)]) else celV cI
def tradeV (cI : ClassId) (z : Nat) (f : Nat → Nat) (k : Nat) : va_E :=
  if k = 0 then .inr (2, [.ref z, .ref (f 1), .ref (f 3), .ref (f 5), .ref (f 7), .ref (f 9), .int (-1), .int (nI 0), .int (nI 0)]) else if k % 2 = 1 then .inr (1, [.ref (f (k + 1)), .int (nI 0)]) else celV cI
def hutV (cI cR : ClassId) (f : Nat → Nat) (k : Nat) : va_E :=
  if k = 0 then .inr (3, [.ref (f 1), .ref (f 27), .ref (f 38)]) else if k < 27 then landV cI cR (fun j => f (j + 1)) (k - 1) else if k < 38 then tradeV cI (f 1) (fun j => f (j + 27)) (k - 27) else tradeV cI (f 1) (fun j => f (j + 38)) (k - 38)
section CTRS
variable {p : Program} {l : Launch} {e : Env} {R : Room} {s : State} {m : MethodId} {args : Array Value} {below : List Frame} {meth : Method} {c : Code} {Q : State → Prop} {D : va_G} {tys : List (ClassId × FieldType)} {A : Nat → Prop} {cells slots nL n pc : Nat} {a : Nat → Nat} {v v' : Nat → va_E} {lv : List (Option Value)} {st rest : List Value} {cc bytes : ByteArray} {Ts ws : List Cond} {own C' : String} {ret : Option FieldType} {b : Nat} {cI cZ cR cJ : ClassId}
theorem aw_astqn (C : aC p s m args meth c D tys A cc nL Ts own ret) {q q2 ci t0 len z : Nat} {fs : List Value} {r : vw_C} {cA : ClassId} {f : Nat → Option Nat} {i : Nat} (d : decode cc pc = .ok (.aastore, 1)) (hq : q < n) (hb : a q = b) (hv : v q = .inl (cA, len, .inr (.inr (.inr (.inr f))))) (ht : tys[t0]? = some (cA, .object r.1)) (hq2 : q2 < n) (hb2 : a q2 = z) (hv2 : v q2 = .inr (ci, fs)) (hc : vwCl[ci]? = some r) (hi : i < len) (hl : len < 2 ^ 31)
    (k : aW p l e R s m args below meth c Q D A cells slots n a (wset v q (.inl (cA, len, .inr (.inr (.inr (.inr (va_up f i (some z)))))))) (pc + 1) lv st) : aW p l e R s m args below meth c Q D A cells slots n a v pc lv (.ref z :: .int (nI i) :: .ref b :: st) := aw_astq C d hq hb hv ht hq2 hb2 hv2 hc (vp_in_nI hi (by omega)) (by rw [nI_clamp (by omega)]; exact k)
set_option maxHeartbeats 4000000 in
set_option maxRecDepth 100000 in
theorem c_X1_init {b0 : Nat} : aN l D (cTys cI cZ cR cJ) yX1_init wsX1_init rnX1_init [] b0 (.inr (1, [.null, .int 0])) 1 10 (rowV cI) := by
  refine aN_of sX1_init rfl (lv0 := [some (.ref b0)]) (j := 0) rfl rfl ?_
  intro pM eM sM mM argsM belowM methM cM AM szM CC hsz hAe
  obtain ⟨C, hAO, hin2⟩ := CC
  refine aw_aload_n C dX1_init_0 Lk0 ?_
  refine aw_obj C dX1_init_1 (by decide +kernel) (by decide +kernel) (by decide +kernel) rfl (Nat.le_of_ble_eq_true rfl) (Nat.le_of_ble_eq_true rfl) ?_
  refine aw_aload_n C dX1_init_4 Lk0 ?_
  refine aw_bipush C dX1_init_5 (x := nI 10) (by decide) ?_
  refine aw_newa C dX1_init_7 (ty := .int) (t0 := 0) (N' := 10) (a0 := (10, .inl (fun _ => 0))) (by decide +kernel) rfl rfl (fun _ => rfl) (by decide) (by decide) (by decide) (Nat.le_of_ble_eq_true rfl) (Nat.le_of_ble_eq_true rfl) (fun q1 => ?_)
  refine aw_putF C hin2 dX1_init_9 (q := 0) (ci := 1) (j := 0) (fs := [.null, .int 0]) (T := TX1) (N := 2) (ty0 := tyX1) (by decide) rfl rfl rfl (by decide +kernel) tyX1_ok nmX1 (by decide) (by decide +kernel) rfl rfl rfl rfl rfl (Nat.le_of_ble_eq_true rfl) rfl ?_
  refine aw_aload_n C dX1_init_12 Lk0 ?_
  refine aw_iconst C dX1_init_13 (x := nI 0) (by decide) ?_
  refine aw_putN C dX1_init_14 (q := 0) (ci := 1) (j := 1) (fs := [.ref q1, .int 0]) (T := TX1) (N := 2) (ty0 := tyX1) (by decide) rfl rfl rfl (by decide +kernel) tyX1_ok nmX1 (by decide) (by decide +kernel) rfl rfl rfl rfl (Nat.le_of_ble_eq_true rfl) rfl ?_
  exact aw_nend C hsz hAe dX1_init_17 rfl rfl rfl rfl (fun k hk => by
    rcases (show k = 0 ∨ k = 1 by omega) with rfl | rfl
    · rfl
    · rfl)
set_option maxHeartbeats 4000000 in
set_option maxRecDepth 100000 in
theorem c_X0_init {b0 : Nat} : aN l D (cTys cI cZ cR cJ) yX0_init wsX0_init rnX0_init [] b0 (.inr (0, [.null, .null, .null])) 25 154 (landV cI cR) := by
  refine aN_of sX0_init rfl (lv0 := [some (.ref b0), none]) (j := 1) rfl rfl ?_
  intro pM eM sM mM argsM belowM methM cM AM szM CC hsz hAe
  obtain ⟨C, hAO, hin2⟩ := CC
  refine aw_aload_n C dX0_init_0 Lk0 ?_
  refine aw_obj C dX0_init_1 (by decide +kernel) (by decide +kernel) (by decide +kernel) rfl (Nat.le_of_ble_eq_true rfl) (Nat.le_of_ble_eq_true rfl) ?_
  refine aw_aload_n C dX0_init_4 Lk0 ?_
  refine aw_new C dX0_init_5 (ci := 1) (fs := [.null, .int 0]) (T := TX1) (ty := tyX1) (by decide +kernel) tyX1_ok (by decide +kernel) (by decide +kernel) (by decide +kernel) rfl (by decide) (Nat.le_of_ble_eq_true rfl) (Nat.le_of_ble_eq_true rfl) (fun q1 => ?_)
  refine aw_dup C dX0_init_8 rfl ?_
  refine aw_callIN (As := []) (i := 1) (x0 := .inr (1, [.null, .int 0])) C hAO dX0_init_9 gX0_init_X1_init_n11 sX1_init (rm := rnX1_init) (by decide +kernel) hAO.2.1 (by decide +kernel) rfl rfl (by decide) rfl rfl (c_X1_init) (fun f2 hf2 => ?_)
  refine aw_putF C hin2 dX0_init_12 (q := 0) (ci := 0) (j := 0) (fs := [.null, .null, .null]) (T := TX0) (N := 3) (ty0 := tyX0) (by decide) rfl rfl rfl (by decide +kernel) tyX0_ok nmX0 (by decide) (by decide +kernel) rfl rfl rfl rfl rfl (Nat.le_of_ble_eq_true rfl) rfl ?_
  refine aw_aload_n C dX0_init_15 Lk0 ?_
  refine aw_bipush C dX0_init_16 (x := nI 10) (by decide) ?_
  refine aw_newq C dX0_init_18 (Cn := RX1) (t0 := 2) (N' := 10) (by decide +kernel) hAO.1 rfl (by decide) (by decide) (by decide) (Nat.le_of_ble_eq_true rfl) (Nat.le_of_ble_eq_true rfl) (fun q3 => ?_)
  refine aw_putF C hin2 dX0_init_21 (q := 0) (ci := 0) (j := 1) (fs := [.ref q1, .null, .null]) (T := TX0) (N := 3) (ty0 := tyX0) (by decide) rfl rfl rfl (by decide +kernel) tyX0_ok nmX0 (by decide) (by decide +kernel) rfl rfl rfl rfl rfl (Nat.le_of_ble_eq_true rfl) rfl ?_
  refine aw_aload_n C dX0_init_24 Lk0 ?_
  refine aw_new C dX0_init_25 (ci := 1) (fs := [.null, .int 0]) (T := TX1) (ty := tyX1) (by decide +kernel) tyX1_ok (by decide +kernel) (by decide +kernel) (by decide +kernel) rfl (by decide) (Nat.le_of_ble_eq_true rfl) (Nat.le_of_ble_eq_true rfl) (fun q4 => ?_)
  refine aw_dup C dX0_init_28 rfl ?_
  refine aw_callIN (As := []) (i := 4) (x0 := .inr (1, [.null, .int 0])) C hAO dX0_init_29 gX0_init_X1_init_n11 sX1_init (rm := rnX1_init) (by decide +kernel) hAO.2.1 (by decide +kernel) rfl rfl (by decide) rfl rfl (c_X1_init) (fun f5 hf5 => ?_)
  refine aw_putF C hin2 dX0_init_32 (q := 0) (ci := 0) (j := 2) (fs := [.ref q1, .ref q3, .null]) (T := TX0) (N := 3) (ty0 := tyX0) (by decide) rfl rfl rfl (by decide +kernel) tyX0_ok nmX0 (by decide) (by decide +kernel) rfl rfl rfl rfl rfl (Nat.le_of_ble_eq_true rfl) rfl ?_
  refine aw_iconst C dX0_init_35 (x := nI 0) (by decide) ?_
  refine aw_istore_n C dX0_init_36 St1 rfl ?_
  refine aw_iload_n C dX0_init_37 Lk1 ?_
  refine aw_aload_n C dX0_init_38 Lk0 ?_
  refine aw_getf (q := 0) (ci := 0) (j := 1) (fs := [.ref q1, .ref q3, .ref q4]) (T := TX0) (N := 3) C dX0_init_39 (by decide) rfl rfl rfl (by decide +kernel) (by decide) (by decide +kernel) rfl rfl ?_
  refine aw_alen (q := 3) (t0 := 2) (y := nI 10) C dX0_init_42 (by decide) rfl rfl rfl rfl ?_
  refine aw_icmp_ge C dX0_init_43 (tgt := 65) (by decide) (fun c9 => absurd c9 (by decide)) (fun c9 => ?_)
  refine aw_aload_n C dX0_init_46 Lk0 ?_
  refine aw_getf (q := 0) (ci := 0) (j := 1) (fs := [.ref q1, .ref q3, .ref q4]) (T := TX0) (N := 3) C dX0_init_47 (by decide) rfl rfl rfl (by decide +kernel) (by decide) (by decide +kernel) rfl rfl ?_
  refine aw_iload_n C dX0_init_50 Lk1 ?_
  refine aw_new C dX0_init_51 (ci := 1) (fs := [.null, .int 0]) (T := TX1) (ty := tyX1) (by decide +kernel) tyX1_ok (by decide +kernel) (by decide +kernel) (by decide +kernel) rfl (by decide) (Nat.le_of_ble_eq_true rfl) (Nat.le_of_ble_eq_true rfl) (fun q6 => ?_)
  refine aw_dup C dX0_init_54 rfl ?_
  refine aw_callIN (As := []) (i := 6) (x0 := .inr (1, [.null, .int 0])) C hAO dX0_init_55 gX0_init_X1_init_n11 sX1_init (rm := rnX1_init) (by decide +kernel) hAO.2.1 (by decide +kernel) rfl rfl (by decide) rfl rfl (c_X1_init) (fun f7 hf7 => ?_)
  refine aw_astqn (q := 3) (q2 := 6) (ci := 1) (t0 := 2) (i := 0) C dX0_init_58 (by decide) rfl rfl rfl (by decide) rfl rfl rfl (by decide) (by decide) ?_
  refine aw_iinc (y := nI 1) C dX0_init_59 Lk1 (by decide) St1 rfl ?_
  refine aw_goto C dX0_init_62 (tgt := 37) (by decide) ?_
  refine aw_iload_n C dX0_init_37 Lk1 ?_
  refine aw_aload_n C dX0_init_38 Lk0 ?_
  refine aw_getf (q := 0) (ci := 0) (j := 1) (fs := [.ref q1, .ref q3, .ref q4]) (T := TX0) (N := 3) C dX0_init_39 (by decide) rfl rfl rfl (by decide +kernel) (by decide) (by decide +kernel) rfl rfl ?_
  refine aw_alen (q := 3) (t0 := 2) (y := nI 10) C dX0_init_42 (by decide) rfl rfl rfl rfl ?_
  refine aw_icmp_ge C dX0_init_43 (tgt := 65) (by decide) (fun c9 => absurd c9 (by decide)) (fun c9 => ?_)
  refine aw_aload_n C dX0_init_46 Lk0 ?_
  refine aw_getf (q := 0) (ci := 0) (j := 1) (fs := [.ref q1, .ref q3, .ref q4]) (T := TX0) (N := 3) C dX0_init_47 (by decide) rfl rfl rfl (by decide +kernel) (by decide) (by decide +kernel) rfl rfl ?_
  refine aw_iload_n C dX0_init_50 Lk1 ?_
  refine aw_new C dX0_init_51 (ci := 1) (fs := [.null, .int 0]) (T := TX1) (ty := tyX1) (by decide +kernel) tyX1_ok (by decide +kernel) (by decide +kernel) (by decide +kernel) rfl (by decide) (Nat.le_of_ble_eq_true rfl) (Nat.le_of_ble_eq_true rfl) (fun q8 => ?_)
  refine aw_dup C dX0_init_54 rfl ?_
  refine aw_callIN (As := []) (i := 8) (x0 := .inr (1, [.null, .int 0])) C hAO dX0_init_55 gX0_init_X1_init_n11 sX1_init (rm := rnX1_init) (by decide +kernel) hAO.2.1 (by decide +kernel) rfl rfl (by decide) rfl rfl (c_X1_init) (fun f9 hf9 => ?_)
  refine aw_astqn (q := 3) (q2 := 8) (ci := 1) (t0 := 2) (i := 1) C dX0_init_58 (by decide) rfl rfl rfl (by decide) rfl rfl rfl (by decide) (by decide) ?_
  refine aw_iinc (y := nI 2) C dX0_init_59 Lk1 (by decide) St1 rfl ?_
  refine aw_goto C dX0_init_62 (tgt := 37) (by decide) ?_
  refine aw_iload_n C dX0_init_37 Lk1 ?_
  refine aw_aload_n C dX0_init_38 Lk0 ?_
  refine aw_getf (q := 0) (ci := 0) (j := 1) (fs := [.ref q1, .ref q3, .ref q4]) (T := TX0) (N := 3) C dX0_init_39 (by decide) rfl rfl rfl (by decide +kernel) (by decide) (by decide +kernel) rfl rfl ?_
  refine aw_alen (q := 3) (t0 := 2) (y := nI 10) C dX0_init_42 (by decide) rfl rfl rfl rfl ?_
  refine aw_icmp_ge C dX0_init_43 (tgt := 65) (by decide) (fun c9 => absurd c9 (by decide)) (fun c9 => ?_)
  refine aw_aload_n C dX0_init_46 Lk0 ?_
  refine aw_getf (q := 0) (ci := 0) (j := 1) (fs := [.ref q1, .ref q3, .ref q4]) (T := TX0) (N := 3) C dX0_init_47 (by decide) rfl rfl rfl (by decide +kernel) (by decide) (by decide +kernel) rfl rfl ?_
  refine aw_iload_n C dX0_init_50 Lk1 ?_
  refine aw_new C dX0_init_51 (ci := 1) (fs := [.null, .int 0]) (T := TX1) (ty := tyX1) (by decide +kernel) tyX1_ok (by decide +kernel) (by decide +kernel) (by decide +kernel) rfl (by decide) (Nat.le_of_ble_eq_true rfl) (Nat.le_of_ble_eq_true rfl) (fun q10 => ?_)
  refine aw_dup C dX0_init_54 rfl ?_
  refine aw_callIN (As := []) (i := 10) (x0 := .inr (1, [.null, .int 0])) C hAO dX0_init_55 gX0_init_X1_init_n11 sX1_init (rm := rnX1_init) (by decide +kernel) hAO.2.1 (by decide +kernel) rfl rfl (by decide) rfl rfl (c_X1_init) (fun f11 hf11 => ?_)
  refine aw_astqn (q := 3) (q2 := 10) (ci := 1) (t0 := 2) (i := 2) C dX0_init_58 (by decide) rfl rfl rfl (by decide) rfl rfl rfl (by decide) (by decide) ?_
  refine aw_iinc (y := nI 3) C dX0_init_59 Lk1 (by decide) St1 rfl ?_
  refine aw_goto C dX0_init_62 (tgt := 37) (by decide) ?_
  refine aw_iload_n C dX0_init_37 Lk1 ?_
  refine aw_aload_n C dX0_init_38 Lk0 ?_
  refine aw_getf (q := 0) (ci := 0) (j := 1) (fs := [.ref q1, .ref q3, .ref q4]) (T := TX0) (N := 3) C dX0_init_39 (by decide) rfl rfl rfl (by decide +kernel) (by decide) (by decide +kernel) rfl rfl ?_
  refine aw_alen (q := 3) (t0 := 2) (y := nI 10) C dX0_init_42 (by decide) rfl rfl rfl rfl ?_
  refine aw_icmp_ge C dX0_init_43 (tgt := 65) (by decide) (fun c9 => absurd c9 (by decide)) (fun c9 => ?_)
  refine aw_aload_n C dX0_init_46 Lk0 ?_
  refine aw_getf (q := 0) (ci := 0) (j := 1) (fs := [.ref q1, .ref q3, .ref q4]) (T := TX0) (N := 3) C dX0_init_47 (by decide) rfl rfl rfl (by decide +kernel) (by decide) (by decide +kernel) rfl rfl ?_
  refine aw_iload_n C dX0_init_50 Lk1 ?_
  refine aw_new C dX0_init_51 (ci := 1) (fs := [.null, .int 0]) (T := TX1) (ty := tyX1) (by decide +kernel) tyX1_ok (by decide +kernel) (by decide +kernel) (by decide +kernel) rfl (by decide) (Nat.le_of_ble_eq_true rfl) (Nat.le_of_ble_eq_true rfl) (fun q12 => ?_)
  refine aw_dup C dX0_init_54 rfl ?_
  refine aw_callIN (As := []) (i := 12) (x0 := .inr (1, [.null, .int 0])) C hAO dX0_init_55 gX0_init_X1_init_n11 sX1_init (rm := rnX1_init) (by decide +kernel) hAO.2.1 (by decide +kernel) rfl rfl (by decide) rfl rfl (c_X1_init) (fun f13 hf13 => ?_)
  refine aw_astqn (q := 3) (q2 := 12) (ci := 1) (t0 := 2) (i := 3) C dX0_init_58 (by decide) rfl rfl rfl (by decide) rfl rfl rfl (by decide) (by decide) ?_
  refine aw_iinc (y := nI 4) C dX0_init_59 Lk1 (by decide) St1 rfl ?_
  refine aw_goto C dX0_init_62 (tgt := 37) (by decide) ?_
  refine aw_iload_n C dX0_init_37 Lk1 ?_
  refine aw_aload_n C dX0_init_38 Lk0 ?_
  refine aw_getf (q := 0) (ci := 0) (j := 1) (fs := [.ref q1, .ref q3, .ref q4]) (T := TX0) (N := 3) C dX0_init_39 (by decide) rfl rfl rfl (by decide +kernel) (by decide) (by decide +kernel) rfl rfl ?_
  refine aw_alen (q := 3) (t0 := 2) (y := nI 10) C dX0_init_42 (by decide) rfl rfl rfl rfl ?_
  refine aw_icmp_ge C dX0_init_43 (tgt := 65) (by decide) (fun c9 => absurd c9 (by decide)) (fun c9 => ?_)
  refine aw_aload_n C dX0_init_46 Lk0 ?_
  refine aw_getf (q := 0) (ci := 0) (j := 1) (fs := [.ref q1, .ref q3, .ref q4]) (T := TX0) (N := 3) C dX0_init_47 (by decide) rfl rfl rfl (by decide +kernel) (by decide) (by decide +kernel) rfl rfl ?_
  refine aw_iload_n C dX0_init_50 Lk1 ?_
  refine aw_new C dX0_init_51 (ci := 1) (fs := [.null, .int 0]) (T := TX1) (ty := tyX1) (by decide +kernel) tyX1_ok (by decide +kernel) (by decide +kernel) (by decide +kernel) rfl (by decide) (Nat.le_of_ble_eq_true rfl) (Nat.le_of_ble_eq_true rfl) (fun q14 => ?_)
  refine aw_dup C dX0_init_54 rfl ?_
  refine aw_callIN (As := []) (i := 14) (x0 := .inr (1, [.null, .int 0])) C hAO dX0_init_55 gX0_init_X1_init_n11 sX1_init (rm := rnX1_init) (by decide +kernel) hAO.2.1 (by decide +kernel) rfl rfl (by decide) rfl rfl (c_X1_init) (fun f15 hf15 => ?_)
  refine aw_astqn (q := 3) (q2 := 14) (ci := 1) (t0 := 2) (i := 4) C dX0_init_58 (by decide) rfl rfl rfl (by decide) rfl rfl rfl (by decide) (by decide) ?_
  refine aw_iinc (y := nI 5) C dX0_init_59 Lk1 (by decide) St1 rfl ?_
  refine aw_goto C dX0_init_62 (tgt := 37) (by decide) ?_
  refine aw_iload_n C dX0_init_37 Lk1 ?_
  refine aw_aload_n C dX0_init_38 Lk0 ?_
  refine aw_getf (q := 0) (ci := 0) (j := 1) (fs := [.ref q1, .ref q3, .ref q4]) (T := TX0) (N := 3) C dX0_init_39 (by decide) rfl rfl rfl (by decide +kernel) (by decide) (by decide +kernel) rfl rfl ?_
  refine aw_alen (q := 3) (t0 := 2) (y := nI 10) C dX0_init_42 (by decide) rfl rfl rfl rfl ?_
  refine aw_icmp_ge C dX0_init_43 (tgt := 65) (by decide) (fun c9 => absurd c9 (by decide)) (fun c9 => ?_)
  refine aw_aload_n C dX0_init_46 Lk0 ?_
  refine aw_getf (q := 0) (ci := 0) (j := 1) (fs := [.ref q1, .ref q3, .ref q4]) (T := TX0) (N := 3) C dX0_init_47 (by decide) rfl rfl rfl (by decide +kernel) (by decide) (by decide +kernel) rfl rfl ?_
  refine aw_iload_n C dX0_init_50 Lk1 ?_
  refine aw_new C dX0_init_51 (ci := 1) (fs := [.null, .int 0]) (T := TX1) (ty := tyX1) (by decide +kernel) tyX1_ok (by decide +kernel) (by decide +kernel) (by decide +kernel) rfl (by decide) (Nat.le_of_ble_eq_true rfl) (Nat.le_of_ble_eq_true rfl) (fun q16 => ?_)
  refine aw_dup C dX0_init_54 rfl ?_
  refine aw_callIN (As := []) (i := 16) (x0 := .inr (1, [.null, .int 0])) C hAO dX0_init_55 gX0_init_X1_init_n11 sX1_init (rm := rnX1_init) (by decide +kernel) hAO.2.1 (by decide +kernel) rfl rfl (by decide) rfl rfl (c_X1_init) (fun f17 hf17 => ?_)
  refine aw_astqn (q := 3) (q2 := 16) (ci := 1) (t0 := 2) (i := 5) C dX0_init_58 (by decide) rfl rfl rfl (by decide) rfl rfl rfl (by decide) (by decide) ?_
  refine aw_iinc (y := nI 6) C dX0_init_59 Lk1 (by decide) St1 rfl ?_
  refine aw_goto C dX0_init_62 (tgt := 37) (by decide) ?_
  refine aw_iload_n C dX0_init_37 Lk1 ?_
  refine aw_aload_n C dX0_init_38 Lk0 ?_
  refine aw_getf (q := 0) (ci := 0) (j := 1) (fs := [.ref q1, .ref q3, .ref q4]) (T := TX0) (N := 3) C dX0_init_39 (by decide) rfl rfl rfl (by decide +kernel) (by decide) (by decide +kernel) rfl rfl ?_
  refine aw_alen (q := 3) (t0 := 2) (y := nI 10) C dX0_init_42 (by decide) rfl rfl rfl rfl ?_
  refine aw_icmp_ge C dX0_init_43 (tgt := 65) (by decide) (fun c9 => absurd c9 (by decide)) (fun c9 => ?_)
  refine aw_aload_n C dX0_init_46 Lk0 ?_
  refine aw_getf (q := 0) (ci := 0) (j := 1) (fs := [.ref q1, .ref q3, .ref q4]) (T := TX0) (N := 3) C dX0_init_47 (by decide) rfl rfl rfl (by decide +kernel) (by decide) (by decide +kernel) rfl rfl ?_
  refine aw_iload_n C dX0_init_50 Lk1 ?_
  refine aw_new C dX0_init_51 (ci := 1) (fs := [.null, .int 0]) (T := TX1) (ty := tyX1) (by decide +kernel) tyX1_ok (by decide +kernel) (by decide +kernel) (by decide +kernel) rfl (by decide) (Nat.le_of_ble_eq_true rfl) (Nat.le_of_ble_eq_true rfl) (fun q18 => ?_)
  refine aw_dup C dX0_init_54 rfl ?_
  refine aw_callIN (As := []) (i := 18) (x0 := .inr (1, [.null, .int 0])) C hAO dX0_init_55 gX0_init_X1_init_n11 sX1_init (rm := rnX1_init) (by decide +kernel) hAO.2.1 (by decide +kernel) rfl rfl (by decide) rfl rfl (c_X1_init) (fun f19 hf19 => ?_)
  refine aw_astqn (q := 3) (q2 := 18) (ci := 1) (t0 := 2) (i := 6) C dX0_init_58 (by decide) rfl rfl rfl (by decide) rfl rfl rfl (by decide) (by decide) ?_
  refine aw_iinc (y := nI 7) C dX0_init_59 Lk1 (by decide) St1 rfl ?_
  refine aw_goto C dX0_init_62 (tgt := 37) (by decide) ?_
  refine aw_iload_n C dX0_init_37 Lk1 ?_
  refine aw_aload_n C dX0_init_38 Lk0 ?_
  refine aw_getf (q := 0) (ci := 0) (j := 1) (fs := [.ref q1, .ref q3, .ref q4]) (T := TX0) (N := 3) C dX0_init_39 (by decide) rfl rfl rfl (by decide +kernel) (by decide) (by decide +kernel) rfl rfl ?_
  refine aw_alen (q := 3) (t0 := 2) (y := nI 10) C dX0_init_42 (by decide) rfl rfl rfl rfl ?_
  refine aw_icmp_ge C dX0_init_43 (tgt := 65) (by decide) (fun c9 => absurd c9 (by decide)) (fun c9 => ?_)
  refine aw_aload_n C dX0_init_46 Lk0 ?_
  refine aw_getf (q := 0) (ci := 0) (j := 1) (fs := [.ref q1, .ref q3, .ref q4]) (T := TX0) (N := 3) C dX0_init_47 (by decide) rfl rfl rfl (by decide +kernel) (by decide) (by decide +kernel) rfl rfl ?_
  refine aw_iload_n C dX0_init_50 Lk1 ?_
  refine aw_new C dX0_init_51 (ci := 1) (fs := [.null, .int 0]) (T := TX1) (ty := tyX1) (by decide +kernel) tyX1_ok (by decide +kernel) (by decide +kernel) (by decide +kernel) rfl (by decide) (Nat.le_of_ble_eq_true rfl) (Nat.le_of_ble_eq_true rfl) (fun q20 => ?_)
  refine aw_dup C dX0_init_54 rfl ?_
  refine aw_callIN (As := []) (i := 20) (x0 := .inr (1, [.null, .int 0])) C hAO dX0_init_55 gX0_init_X1_init_n11 sX1_init (rm := rnX1_init) (by decide +kernel) hAO.2.1 (by decide +kernel) rfl rfl (by decide) rfl rfl (c_X1_init) (fun f21 hf21 => ?_)
  refine aw_astqn (q := 3) (q2 := 20) (ci := 1) (t0 := 2) (i := 7) C dX0_init_58 (by decide) rfl rfl rfl (by decide) rfl rfl rfl (by decide) (by decide) ?_
  refine aw_iinc (y := nI 8) C dX0_init_59 Lk1 (by decide) St1 rfl ?_
  refine aw_goto C dX0_init_62 (tgt := 37) (by decide) ?_
  refine aw_iload_n C dX0_init_37 Lk1 ?_
  refine aw_aload_n C dX0_init_38 Lk0 ?_
  refine aw_getf (q := 0) (ci := 0) (j := 1) (fs := [.ref q1, .ref q3, .ref q4]) (T := TX0) (N := 3) C dX0_init_39 (by decide) rfl rfl rfl (by decide +kernel) (by decide) (by decide +kernel) rfl rfl ?_
  refine aw_alen (q := 3) (t0 := 2) (y := nI 10) C dX0_init_42 (by decide) rfl rfl rfl rfl ?_
  refine aw_icmp_ge C dX0_init_43 (tgt := 65) (by decide) (fun c9 => absurd c9 (by decide)) (fun c9 => ?_)
  refine aw_aload_n C dX0_init_46 Lk0 ?_
  refine aw_getf (q := 0) (ci := 0) (j := 1) (fs := [.ref q1, .ref q3, .ref q4]) (T := TX0) (N := 3) C dX0_init_47 (by decide) rfl rfl rfl (by decide +kernel) (by decide) (by decide +kernel) rfl rfl ?_
  refine aw_iload_n C dX0_init_50 Lk1 ?_
  refine aw_new C dX0_init_51 (ci := 1) (fs := [.null, .int 0]) (T := TX1) (ty := tyX1) (by decide +kernel) tyX1_ok (by decide +kernel) (by decide +kernel) (by decide +kernel) rfl (by decide) (Nat.le_of_ble_eq_true rfl) (Nat.le_of_ble_eq_true rfl) (fun q22 => ?_)
  refine aw_dup C dX0_init_54 rfl ?_
  refine aw_callIN (As := []) (i := 22) (x0 := .inr (1, [.null, .int 0])) C hAO dX0_init_55 gX0_init_X1_init_n11 sX1_init (rm := rnX1_init) (by decide +kernel) hAO.2.1 (by decide +kernel) rfl rfl (by decide) rfl rfl (c_X1_init) (fun f23 hf23 => ?_)
  refine aw_astqn (q := 3) (q2 := 22) (ci := 1) (t0 := 2) (i := 8) C dX0_init_58 (by decide) rfl rfl rfl (by decide) rfl rfl rfl (by decide) (by decide) ?_
  refine aw_iinc (y := nI 9) C dX0_init_59 Lk1 (by decide) St1 rfl ?_
  refine aw_goto C dX0_init_62 (tgt := 37) (by decide) ?_
  refine aw_iload_n C dX0_init_37 Lk1 ?_
  refine aw_aload_n C dX0_init_38 Lk0 ?_
  refine aw_getf (q := 0) (ci := 0) (j := 1) (fs := [.ref q1, .ref q3, .ref q4]) (T := TX0) (N := 3) C dX0_init_39 (by decide) rfl rfl rfl (by decide +kernel) (by decide) (by decide +kernel) rfl rfl ?_
  refine aw_alen (q := 3) (t0 := 2) (y := nI 10) C dX0_init_42 (by decide) rfl rfl rfl rfl ?_
  refine aw_icmp_ge C dX0_init_43 (tgt := 65) (by decide) (fun c9 => absurd c9 (by decide)) (fun c9 => ?_)
  refine aw_aload_n C dX0_init_46 Lk0 ?_
  refine aw_getf (q := 0) (ci := 0) (j := 1) (fs := [.ref q1, .ref q3, .ref q4]) (T := TX0) (N := 3) C dX0_init_47 (by decide) rfl rfl rfl (by decide +kernel) (by decide) (by decide +kernel) rfl rfl ?_
  refine aw_iload_n C dX0_init_50 Lk1 ?_
  refine aw_new C dX0_init_51 (ci := 1) (fs := [.null, .int 0]) (T := TX1) (ty := tyX1) (by decide +kernel) tyX1_ok (by decide +kernel) (by decide +kernel) (by decide +kernel) rfl (by decide) (Nat.le_of_ble_eq_true rfl) (Nat.le_of_ble_eq_true rfl) (fun q24 => ?_)
  refine aw_dup C dX0_init_54 rfl ?_
  refine aw_callIN (As := []) (i := 24) (x0 := .inr (1, [.null, .int 0])) C hAO dX0_init_55 gX0_init_X1_init_n11 sX1_init (rm := rnX1_init) (by decide +kernel) hAO.2.1 (by decide +kernel) rfl rfl (by decide) rfl rfl (c_X1_init) (fun f25 hf25 => ?_)
  refine aw_astqn (q := 3) (q2 := 24) (ci := 1) (t0 := 2) (i := 9) C dX0_init_58 (by decide) rfl rfl rfl (by decide) rfl rfl rfl (by decide) (by decide) ?_
  refine aw_iinc (y := nI 10) C dX0_init_59 Lk1 (by decide) St1 rfl ?_
  refine aw_goto C dX0_init_62 (tgt := 37) (by decide) ?_
  refine aw_iload_n C dX0_init_37 Lk1 ?_
  refine aw_aload_n C dX0_init_38 Lk0 ?_
  refine aw_getf (q := 0) (ci := 0) (j := 1) (fs := [.ref q1, .ref q3, .ref q4]) (T := TX0) (N := 3) C dX0_init_39 (by decide) rfl rfl rfl (by decide +kernel) (by decide) (by decide +kernel) rfl rfl ?_
  refine aw_alen (q := 3) (t0 := 2) (y := nI 10) C dX0_init_42 (by decide) rfl rfl rfl rfl ?_
  refine aw_icmp_ge C dX0_init_43 (tgt := 65) (by decide) (fun c9 => ?_) (fun c9 => absurd (by decide) c9)
  exact aw_nend C hsz hAe dX0_init_65 rfl rfl rfl rfl (fun k hk => by
    rcases (show k = 0 ∨ k = 1 ∨ k = 2 ∨ k = 3 ∨ k = 4 ∨ k = 5 ∨ k = 6 ∨ k = 7 ∨ k = 8 ∨ k = 9 ∨ k = 10 ∨ k = 11 ∨ k = 12 ∨ k = 13 ∨ k = 14 ∨ k = 15 ∨ k = 16 ∨ k = 17 ∨ k = 18 ∨ k = 19 ∨ k = 20 ∨ k = 21 ∨ k = 22 ∨ k = 23 ∨ k = 24 ∨ k = 25 by omega) with rfl | rfl | rfl | rfl | rfl | rfl | rfl | rfl | rfl | rfl | rfl | rfl | rfl | rfl | rfl | rfl | rfl | rfl | rfl | rfl | rfl | rfl | rfl | rfl | rfl | rfl
    · rfl
    · rfl
    · rfl
    · rfl
    · rfl
    · rfl
    · rfl
    · rfl
    · rfl
    · rfl
    · rfl
    · rfl
    · rfl
    · rfl
    · rfl
    · rfl
    · rfl
    · rfl
    · rfl
    · rfl
    · rfl
    · rfl
    · rfl
    · rfl
    · rfl
    · rfl)
set_option maxHeartbeats 4000000 in
set_option maxRecDepth 100000 in
theorem c_X2_init {b0 z0 : Nat} : aN l D (cTys cI cZ cR cJ) yX2_init wsX2_init rnX2_init [.ref z0] b0 (.inr (2, [.null, .null, .null, .null, .null, .null, .int 0, .int 0, .int 0])) 10 60 (tradeV cI z0) := by
  refine aN_of sX2_init rfl (lv0 := [some (.ref b0), some (.ref z0)]) (j := 0) rfl rfl ?_
  intro pM eM sM mM argsM belowM methM cM AM szM CC hsz hAe
  obtain ⟨C, hAO, hin2⟩ := CC
  refine aw_aload_n C dX2_init_0 Lk0 ?_
  refine aw_obj C dX2_init_1 (by decide +kernel) (by decide +kernel) (by decide +kernel) rfl (Nat.le_of_ble_eq_true rfl) (Nat.le_of_ble_eq_true rfl) ?_
  refine aw_aload_n C dX2_init_4 Lk0 ?_
  refine aw_new C dX2_init_5 (ci := 1) (fs := [.null, .int 0]) (T := TX1) (ty := tyX1) (by decide +kernel) tyX1_ok (by decide +kernel) (by decide +kernel) (by decide +kernel) rfl (by decide) (Nat.le_of_ble_eq_true rfl) (Nat.le_of_ble_eq_true rfl) (fun q1 => ?_)
  refine aw_dup C dX2_init_8 rfl ?_
  refine aw_callIN (As := []) (i := 1) (x0 := .inr (1, [.null, .int 0])) C hAO dX2_init_9 gX2_init_X1_init_n11 sX1_init (rm := rnX1_init) (by decide +kernel) hAO.2.2 (by decide +kernel) rfl rfl (by decide) rfl rfl (c_X1_init) (fun f2 hf2 => ?_)
  refine aw_putF C hin2 dX2_init_12 (q := 0) (ci := 2) (j := 1) (fs := [.null, .null, .null, .null, .null, .null, .int 0, .int 0, .int 0]) (T := TX2) (N := 9) (ty0 := tyX2) (by decide) rfl rfl rfl (by decide +kernel) tyX2_ok nmX2 (by decide) (by decide +kernel) rfl rfl rfl rfl rfl (Nat.le_of_ble_eq_true rfl) rfl ?_
  refine aw_aload_n C dX2_init_15 Lk0 ?_
  refine aw_new C dX2_init_16 (ci := 1) (fs := [.null, .int 0]) (T := TX1) (ty := tyX1) (by decide +kernel) tyX1_ok (by decide +kernel) (by decide +kernel) (by decide +kernel) rfl (by decide) (Nat.le_of_ble_eq_true rfl) (Nat.le_of_ble_eq_true rfl) (fun q3 => ?_)
  refine aw_dup C dX2_init_19 rfl ?_
  refine aw_callIN (As := []) (i := 3) (x0 := .inr (1, [.null, .int 0])) C hAO dX2_init_20 gX2_init_X1_init_n11 sX1_init (rm := rnX1_init) (by decide +kernel) hAO.2.2 (by decide +kernel) rfl rfl (by decide) rfl rfl (c_X1_init) (fun f4 hf4 => ?_)
  refine aw_putF C hin2 dX2_init_23 (q := 0) (ci := 2) (j := 2) (fs := [.null, .ref q1, .null, .null, .null, .null, .int 0, .int 0, .int 0]) (T := TX2) (N := 9) (ty0 := tyX2) (by decide) rfl rfl rfl (by decide +kernel) tyX2_ok nmX2 (by decide) (by decide +kernel) rfl rfl rfl rfl rfl (Nat.le_of_ble_eq_true rfl) rfl ?_
  refine aw_aload_n C dX2_init_26 Lk0 ?_
  refine aw_new C dX2_init_27 (ci := 1) (fs := [.null, .int 0]) (T := TX1) (ty := tyX1) (by decide +kernel) tyX1_ok (by decide +kernel) (by decide +kernel) (by decide +kernel) rfl (by decide) (Nat.le_of_ble_eq_true rfl) (Nat.le_of_ble_eq_true rfl) (fun q5 => ?_)
  refine aw_dup C dX2_init_30 rfl ?_
  refine aw_callIN (As := []) (i := 5) (x0 := .inr (1, [.null, .int 0])) C hAO dX2_init_31 gX2_init_X1_init_n11 sX1_init (rm := rnX1_init) (by decide +kernel) hAO.2.2 (by decide +kernel) rfl rfl (by decide) rfl rfl (c_X1_init) (fun f6 hf6 => ?_)
  refine aw_putF C hin2 dX2_init_34 (q := 0) (ci := 2) (j := 3) (fs := [.null, .ref q1, .ref q3, .null, .null, .null, .int 0, .int 0, .int 0]) (T := TX2) (N := 9) (ty0 := tyX2) (by decide) rfl rfl rfl (by decide +kernel) tyX2_ok nmX2 (by decide) (by decide +kernel) rfl rfl rfl rfl rfl (Nat.le_of_ble_eq_true rfl) rfl ?_
  refine aw_aload_n C dX2_init_37 Lk0 ?_
  refine aw_new C dX2_init_38 (ci := 1) (fs := [.null, .int 0]) (T := TX1) (ty := tyX1) (by decide +kernel) tyX1_ok (by decide +kernel) (by decide +kernel) (by decide +kernel) rfl (by decide) (Nat.le_of_ble_eq_true rfl) (Nat.le_of_ble_eq_true rfl) (fun q7 => ?_)
  refine aw_dup C dX2_init_41 rfl ?_
  refine aw_callIN (As := []) (i := 7) (x0 := .inr (1, [.null, .int 0])) C hAO dX2_init_42 gX2_init_X1_init_n11 sX1_init (rm := rnX1_init) (by decide +kernel) hAO.2.2 (by decide +kernel) rfl rfl (by decide) rfl rfl (c_X1_init) (fun f8 hf8 => ?_)
  refine aw_putF C hin2 dX2_init_45 (q := 0) (ci := 2) (j := 4) (fs := [.null, .ref q1, .ref q3, .ref q5, .null, .null, .int 0, .int 0, .int 0]) (T := TX2) (N := 9) (ty0 := tyX2) (by decide) rfl rfl rfl (by decide +kernel) tyX2_ok nmX2 (by decide) (by decide +kernel) rfl rfl rfl rfl rfl (Nat.le_of_ble_eq_true rfl) rfl ?_
  refine aw_aload_n C dX2_init_48 Lk0 ?_
  refine aw_new C dX2_init_49 (ci := 1) (fs := [.null, .int 0]) (T := TX1) (ty := tyX1) (by decide +kernel) tyX1_ok (by decide +kernel) (by decide +kernel) (by decide +kernel) rfl (by decide) (Nat.le_of_ble_eq_true rfl) (Nat.le_of_ble_eq_true rfl) (fun q9 => ?_)
  refine aw_dup C dX2_init_52 rfl ?_
  refine aw_callIN (As := []) (i := 9) (x0 := .inr (1, [.null, .int 0])) C hAO dX2_init_53 gX2_init_X1_init_n11 sX1_init (rm := rnX1_init) (by decide +kernel) hAO.2.2 (by decide +kernel) rfl rfl (by decide) rfl rfl (c_X1_init) (fun f10 hf10 => ?_)
  refine aw_putF C hin2 dX2_init_56 (q := 0) (ci := 2) (j := 5) (fs := [.null, .ref q1, .ref q3, .ref q5, .ref q7, .null, .int 0, .int 0, .int 0]) (T := TX2) (N := 9) (ty0 := tyX2) (by decide) rfl rfl rfl (by decide +kernel) tyX2_ok nmX2 (by decide) (by decide +kernel) rfl rfl rfl rfl rfl (Nat.le_of_ble_eq_true rfl) rfl ?_
  refine aw_aload_n C dX2_init_59 Lk0 ?_
  refine aw_iconst C dX2_init_60 (x := -1) (by decide) ?_
  refine aw_putN C dX2_init_61 (q := 0) (ci := 2) (j := 6) (fs := [.null, .ref q1, .ref q3, .ref q5, .ref q7, .ref q9, .int 0, .int 0, .int 0]) (T := TX2) (N := 9) (ty0 := tyX2) (by decide) rfl rfl rfl (by decide +kernel) tyX2_ok nmX2 (by decide) (by decide +kernel) rfl rfl rfl rfl (Nat.le_of_ble_eq_true rfl) rfl ?_
  refine aw_aload_n C dX2_init_64 Lk0 ?_
  refine aw_iconst C dX2_init_65 (x := nI 0) (by decide) ?_
  refine aw_putN C dX2_init_66 (q := 0) (ci := 2) (j := 7) (fs := [.null, .ref q1, .ref q3, .ref q5, .ref q7, .ref q9, .int (-1), .int 0, .int 0]) (T := TX2) (N := 9) (ty0 := tyX2) (by decide) rfl rfl rfl (by decide +kernel) tyX2_ok nmX2 (by decide) (by decide +kernel) rfl rfl rfl rfl (Nat.le_of_ble_eq_true rfl) rfl ?_
  refine aw_aload_n C dX2_init_69 Lk0 ?_
  refine aw_iconst C dX2_init_70 (x := nI 0) (by decide) ?_
  refine aw_putN C dX2_init_71 (q := 0) (ci := 2) (j := 8) (fs := [.null, .ref q1, .ref q3, .ref q5, .ref q7, .ref q9, .int (-1), .int (nI 0), .int 0]) (T := TX2) (N := 9) (ty0 := tyX2) (by decide) rfl rfl rfl (by decide +kernel) tyX2_ok nmX2 (by decide) (by decide +kernel) rfl rfl rfl rfl (Nat.le_of_ble_eq_true rfl) rfl ?_
  refine aw_aload_n C dX2_init_74 Lk0 ?_
  refine aw_aload_n C dX2_init_75 Lk1 ?_
  refine aw_putF C hin2 dX2_init_76 (q := 0) (ci := 2) (j := 0) (fs := [.null, .ref q1, .ref q3, .ref q5, .ref q7, .ref q9, .int (-1), .int (nI 0), .int (nI 0)]) (T := TX2) (N := 9) (ty0 := tyX2) (by decide) rfl rfl rfl (by decide +kernel) tyX2_ok nmX2 (by decide) (by decide +kernel) rfl rfl rfl rfl rfl (Nat.le_of_ble_eq_true rfl) rfl ?_
  exact aw_nend C hsz hAe dX2_init_79 rfl rfl rfl rfl (fun k hk => by
    rcases (show k = 0 ∨ k = 1 ∨ k = 2 ∨ k = 3 ∨ k = 4 ∨ k = 5 ∨ k = 6 ∨ k = 7 ∨ k = 8 ∨ k = 9 ∨ k = 10 by omega) with rfl | rfl | rfl | rfl | rfl | rfl | rfl | rfl | rfl | rfl | rfl
    · rfl
    · rfl
    · rfl
    · rfl
    · rfl
    · rfl
    · rfl
    · rfl
    · rfl
    · rfl
    · rfl)
set_option maxHeartbeats 4000000 in
set_option maxRecDepth 100000 in
theorem c_X3_init {b0 : Nat} : aN l D (cTys cI cZ cR cJ) yX3_init wsX3_init rnX3_init [] b0 (.inr (3, [.null, .null, .null])) 48 295 (hutV cI cR) := by
  refine aN_of sX3_init rfl (lv0 := [some (.ref b0)]) (j := 0) rfl rfl ?_
  intro pM eM sM mM argsM belowM methM cM AM szM CC hsz hAe
  obtain ⟨C, hAO, hin2⟩ := CC
  refine aw_aload_n C dX3_init_0 Lk0 ?_
  refine aw_obj C dX3_init_1 (by decide +kernel) (by decide +kernel) (by decide +kernel) rfl (Nat.le_of_ble_eq_true rfl) (Nat.le_of_ble_eq_true rfl) ?_
  refine aw_aload_n C dX3_init_4 Lk0 ?_
  refine aw_new C dX3_init_5 (ci := 0) (fs := [.null, .null, .null]) (T := TX0) (ty := tyX0) (by decide +kernel) tyX0_ok (by decide +kernel) (by decide +kernel) (by decide +kernel) rfl (by decide) (Nat.le_of_ble_eq_true rfl) (Nat.le_of_ble_eq_true rfl) (fun q1 => ?_)
  refine aw_dup C dX3_init_8 rfl ?_
  refine aw_callI (As := []) (i := 1) (x0 := .inr (0, [.null, .null, .null])) C hAO dX3_init_9 gX3_init_X0_init sX0_init (rm := rnX0_init) (by decide +kernel) (by decide +kernel) (by decide +kernel) rfl rfl (by decide) rfl rfl (c_X0_init) (fun f2 hf2 => ?_)
  refine aw_putF C hin2 dX3_init_12 (q := 0) (ci := 3) (j := 0) (fs := [.null, .null, .null]) (T := TX3) (N := 3) (ty0 := tyX3) (by decide) rfl rfl rfl (by decide +kernel) tyX3_ok nmX3 (by decide) (by decide +kernel) rfl rfl rfl rfl rfl (Nat.le_of_ble_eq_true rfl) rfl ?_
  refine aw_aload_n C dX3_init_15 Lk0 ?_
  refine aw_new C dX3_init_16 (ci := 2) (fs := [.null, .null, .null, .null, .null, .null, .int 0, .int 0, .int 0]) (T := TX2) (ty := tyX2) (by decide +kernel) tyX2_ok (by decide +kernel) (by decide +kernel) (by decide +kernel) rfl (by decide) (Nat.le_of_ble_eq_true rfl) (Nat.le_of_ble_eq_true rfl) (fun q3 => ?_)
  refine aw_dup C dX3_init_19 rfl ?_
  refine aw_aload_n C dX3_init_20 Lk0 ?_
  refine aw_getf (q := 0) (ci := 3) (j := 0) (fs := [.ref q1, .null, .null]) (T := TX3) (N := 3) C dX3_init_21 (by decide) rfl rfl rfl (by decide +kernel) (by decide) (by decide +kernel) rfl rfl ?_
  refine aw_callI (As := [.ref q1]) (i := 27) (x0 := .inr (2, [.null, .null, .null, .null, .null, .null, .int 0, .int 0, .int 0])) C hAO dX3_init_24 gX3_init_X2_init sX2_init (rm := rnX2_init) (by decide +kernel) (by decide +kernel) (by decide +kernel) rfl rfl (by decide) rfl rfl (c_X2_init) (fun f4 hf4 => ?_)
  refine aw_putF C hin2 dX3_init_27 (q := 0) (ci := 3) (j := 1) (fs := [.ref q1, .null, .null]) (T := TX3) (N := 3) (ty0 := tyX3) (by decide) rfl rfl rfl (by decide +kernel) tyX3_ok nmX3 (by decide) (by decide +kernel) rfl rfl rfl rfl rfl (Nat.le_of_ble_eq_true rfl) rfl ?_
  refine aw_aload_n C dX3_init_30 Lk0 ?_
  refine aw_new C dX3_init_31 (ci := 2) (fs := [.null, .null, .null, .null, .null, .null, .int 0, .int 0, .int 0]) (T := TX2) (ty := tyX2) (by decide +kernel) tyX2_ok (by decide +kernel) (by decide +kernel) (by decide +kernel) rfl (by decide) (Nat.le_of_ble_eq_true rfl) (Nat.le_of_ble_eq_true rfl) (fun q5 => ?_)
  refine aw_dup C dX3_init_34 rfl ?_
  refine aw_aload_n C dX3_init_35 Lk0 ?_
  refine aw_getf (q := 0) (ci := 3) (j := 0) (fs := [.ref q1, .ref q3, .null]) (T := TX3) (N := 3) C dX3_init_36 (by decide) rfl rfl rfl (by decide +kernel) (by decide) (by decide +kernel) rfl rfl ?_
  refine aw_callI (As := [.ref q1]) (i := 38) (x0 := .inr (2, [.null, .null, .null, .null, .null, .null, .int 0, .int 0, .int 0])) C hAO dX3_init_39 gX3_init_X2_init sX2_init (rm := rnX2_init) (by decide +kernel) (by decide +kernel) (by decide +kernel) rfl rfl (by decide) rfl rfl (c_X2_init) (fun f6 hf6 => ?_)
  refine aw_putF C hin2 dX3_init_42 (q := 0) (ci := 3) (j := 2) (fs := [.ref q1, .ref q3, .null]) (T := TX3) (N := 3) (ty0 := tyX3) (by decide) rfl rfl rfl (by decide +kernel) tyX3_ok nmX3 (by decide) (by decide +kernel) rfl rfl rfl rfl rfl (Nat.le_of_ble_eq_true rfl) rfl ?_
  exact aw_nend C hsz hAe dX3_init_45 rfl rfl rfl rfl (fun k hk => by
    rcases (show k = 0 ∨ k = 1 ∨ k = 2 ∨ k = 3 ∨ k = 4 ∨ k = 5 ∨ k = 6 ∨ k = 7 ∨ k = 8 ∨ k = 9 ∨ k = 10 ∨ k = 11 ∨ k = 12 ∨ k = 13 ∨ k = 14 ∨ k = 15 ∨ k = 16 ∨ k = 17 ∨ k = 18 ∨ k = 19 ∨ k = 20 ∨ k = 21 ∨ k = 22 ∨ k = 23 ∨ k = 24 ∨ k = 25 ∨ k = 26 ∨ k = 27 ∨ k = 28 ∨ k = 29 ∨ k = 30 ∨ k = 31 ∨ k = 32 ∨ k = 33 ∨ k = 34 ∨ k = 35 ∨ k = 36 ∨ k = 37 ∨ k = 38 ∨ k = 39 ∨ k = 40 ∨ k = 41 ∨ k = 42 ∨ k = 43 ∨ k = 44 ∨ k = 45 ∨ k = 46 ∨ k = 47 ∨ k = 48 by omega) with rfl | rfl | rfl | rfl | rfl | rfl | rfl | rfl | rfl | rfl | rfl | rfl | rfl | rfl | rfl | rfl | rfl | rfl | rfl | rfl | rfl | rfl | rfl | rfl | rfl | rfl | rfl | rfl | rfl | rfl | rfl | rfl | rfl | rfl | rfl | rfl | rfl | rfl | rfl | rfl | rfl | rfl | rfl | rfl | rfl | rfl | rfl | rfl | rfl
    · rfl
    · rfl
    · rfl
    · rfl
    · rfl
    · rfl
    · rfl
    · rfl
    · rfl
    · rfl
    · rfl
    · rfl
    · rfl
    · rfl
    · rfl
    · rfl
    · rfl
    · rfl
    · rfl
    · rfl
    · rfl
    · rfl
    · rfl
    · rfl
    · rfl
    · rfl
    · rfl
    · rfl
    · rfl
    · rfl
    · rfl
    · rfl
    · rfl
    · rfl
    · rfl
    · rfl
    · rfl
    · rfl
    · rfl
    · rfl
    · rfl
    · rfl
    · rfl
    · rfl
    · rfl
    · rfl
    · rfl
    · rfl
    · rfl)
end CTRS
