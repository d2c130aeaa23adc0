/-! room of the methods of the law and of its Sim -/
abbrev rmX4_init : Room := { frames := 1, cells := 2, slots := 0, locals := 24 }
abbrev rmX4_come : Room := { frames := 0, cells := 3, slots := 22, locals := 0 }
abbrev rmX4_find : Room := { frames := 0, cells := 0, slots := 0, locals := 0 }
abbrev rmX4_with : Room := { frames := 0, cells := 1, slots := 11, locals := 0 }
abbrev rmX4_without : Room := { frames := 0, cells := 1, slots := 11, locals := 0 }
abbrev rmX4_trade : Room := { frames := 1, cells := 30, slots := 300, locals := 22 }
abbrev rmX4_rank : Room := { frames := 1, cells := 0, slots := 0, locals := 22 }
abbrev rmX4_move : Room := { frames := 2, cells := 40, slots := 400, locals := 56 }
abbrev rmX4_isSame : Room := { frames := 6, cells := 50, slots := 500, locals := 129 }
abbrev rmL_below : Room := { frames := 0, cells := 0, slots := 0, locals := 0 }
abbrev rmL_cell : Room := { frames := 0, cells := 0, slots := 0, locals := 0 }
abbrev rmL_act : Room := { frames := 7, cells := 40, slots := 400, locals := 157 }
abbrev rmL_build : Room := { frames := 8, cells := 2000, slots := 20000, locals := 186 }
section LEAF
variable {l : Launch} {D : va_G} {cI cZ cR cJ : ClassId}
set_option maxHeartbeats 4000000 in
set_option maxRecDepth 100000 in
theorem c_X4_find {b len : Nat} {f : Nat → Int32} {x : Int32} (hl : len < 2 ^ 31) : aM l D (cTys cI cZ cR cJ) 1 (fun _ => b) yX4_find wsX4_find rmX4_find [.ref b, .int x] (fun _ => .inl (cI, len, .inl f)) (some (.int (rFind f x len 0))) (fun _ => .inl (cI, len, .inl f)) := by
  refine aM_of sX4_find (lv0 := [some (.ref b), some (.int x), none]) (j := 1) rfl rfl ?_
  intro pM eM sM mM argsM belowM methM cM AM C
  have A1 : Ar cI 1 (fun _ => b) (fun _ => .inl (cI, len, .inl f)) 0 b len f := ⟨by omega, rfl, rfl, hl⟩
  refine aw_iconst C dX4_find_0 (x := nI 0) (by decide) ?_
  refine aw_istore_n C dX4_find_1 St2 rfl ?_
  have hl_2 : ∀ (j i : Nat), i + j = len → rFind f x len 0 = rFind f x j i → aW pM l eM rmX4_find sM mM argsM belowM methM cM (MQ belowM (aQ D 1 (fun _ => b) (fun _ => .inl (cI, len, .inl f)) (some (.int (rFind f x len 0))) AM) argsM sM 0 0 AM) D AM 0 0 1 (fun _ => b) (fun _ => .inl (cI, len, .inl f)) 2 [some (.ref b), some (.int x), some (.int (nI i))] [] := by
    intro j
    induction j with
    | zero =>
      intro i hi he
      refine aw_iload_n C dX4_find_2 Lk2 ?_
      refine aw_aload_n C dX4_find_3 Lk0 ?_
      refine aw_al C A1 dX4_find_4 ?_
      refine aw_icmp_ge C dX4_find_5 (tgt := 23) (by decide) (fun c_5 => ?_) (fun c_5 => absurd (nI_le (by omega) (by omega)) c_5)
      refine aw_iconst C dX4_find_23 (x := -1) (by decide) ?_
      exact aw_iend C dX4_find_24 rfl (by rw [he]; rfl)
    | succ j ih =>
      intro i hi he
      refine aw_iload_n C dX4_find_2 Lk2 ?_
      refine aw_aload_n C dX4_find_3 Lk0 ?_
      refine aw_al C A1 dX4_find_4 ?_
      refine aw_icmp_ge C dX4_find_5 (tgt := 23) (by decide) (fun c_5 => absurd c_5 (nI_ge (by omega) (by omega))) (fun c_5 => ?_)
      refine aw_aload_n C dX4_find_8 Lk0 ?_
      refine aw_iload_n C dX4_find_9 Lk2 ?_
      refine aw_il C A1 (by omega) dX4_find_10 ?_
      refine aw_iload_n C dX4_find_11 Lk1 ?_
      refine aw_icmp_ne C dX4_find_12 (tgt := 17) (by decide) (fun c_12 => ?_) (fun c_12 => ?_)
      · skip
        refine aw_iinc C dX4_find_17 Lk2 (nI_1 _) St2 rfl ?_
        refine aw_goto C dX4_find_20 (tgt := 2) (by decide) ?_
        exact ih (i + 1) (by omega) (by rw [he, rFind, if_neg c_12])
      · skip
        refine aw_iload_n C dX4_find_15 Lk2 ?_
        exact aw_iend C dX4_find_16 rfl (by rw [he, rFind, if_pos (Classical.not_not.mp c_12)])
  exact hl_2 len 0 (by omega) rfl
/-- what a method makes: one array of numbers, behind the world as it is -/
def PoN (cI : ClassId) (n : Nat) (a : Nat → Nat) (v : Nat → va_E) (len' : Nat) (P : (Nat → Int32) → Prop) : Option Value → Nat → (Nat → Nat) → (Nat → va_E) → Prop := fun r n' a' v' => n' = n + 1 ∧ (∀ j, j < n → a' j = a j) ∧ (∀ j, j < n → v' j = v j) ∧ r = some (.ref (a' n)) ∧ ∃ f', Ar cI n' a' v' n (a' n) len' f' ∧ P f'
set_option maxHeartbeats 4000000 in
set_option maxRecDepth 100000 in
theorem c_X4_with {G : (Nat → Prop) → State → Prop} {a : Nat → Nat} {v : Nat → va_E} {b len : Nat} {f : Nat → Int32} {i : Nat} {x : Int32} (A1 : Ar cI 1 a v 0 b len f) (hl : len ≤ 10) (hi : i ≤ len) : gM l D (cTys cI cZ cR cJ) yX4_with wsX4_with rmX4_with G 1 a v [.ref b, .int (nI i), .int x] 1 11 (PoN cI 1 a v (len + 1) (fun f' => ∀ p, p < len + 1 → f' p = if p < i then f p else if p = i then x else f (p - 1))) := by
  refine gM_of sX4_with (lv0 := [some (.ref b), some (.int (nI i)), some (.int x), none, none]) (j := 2) rfl rfl ?_
  intro pM eM sM mM argsM belowM methM cM AM szM CG hA9
  have C := CG.1
  refine aw_aload_n C dX4_with_0 Lk0 ?_
  refine aw_al C A1 dX4_with_1 ?_
  refine aw_iconst C dX4_with_2 (x := nI 1) (by decide) ?_
  refine aw_iadd C dX4_with_3 ?_
  rw [nI_add]
  refine bw_ni C (by decide +kernel) (by omega) (by show 0 + 1 ≤ 1; omega) (by show 0 + (len + 1) ≤ 11; omega) dX4_with_4 (fun a1 v1 ha1 hv1 B1 => ?_)
  have A1 := A1.gr (n' := 1 + 1) ha1 hv1 (by omega)
  refine aw_astore_n C dX4_with_6 St3 rfl ?_
  refine aw_iconst C dX4_with_7 (x := nI 0) (by decide) ?_
  refine aw_istore C dX4_with_8 St4 rfl ?_
  have hl_10 : ∀ (j q : Nat), q + j = len + 1 → ∀ (v' : Nat → va_E) (fb : Nat → Int32), v' 0 = v 0 → (Ar cI (1 + 1) a1 v' 0 b len f) → (Ar cI (1 + 1) a1 v' 1 (a1 1) (len + 1) fb) → (∀ p, p < q → fb p = (if p < i then f p else if p = i then x else f (p - 1))) → aW pM l eM rmX4_with sM mM argsM belowM methM cM (MQ belowM (gQ D 1 a szM (PoN cI 1 a v (len + 1) (fun f' => ∀ p, p < len + 1 → f' p = if p < i then f p else if p = i then x else f (p - 1)))) argsM sM 1 11 AM) D AM (0 + 1) (0 + (len + 1)) (1 + 1) a1 v' 10 [some (.ref b), some (.int (nI i)), some (.int x), some (.ref (a1 1)), some (.int (nI q))] [] := by
    intro j
    induction j with
    | zero =>
      intro q hq v' fb h0 A1 B1 hfb
      refine aw_iload C dX4_with_10 Lk4 ?_
      refine aw_aload_n C dX4_with_12 Lk3 ?_
      refine aw_al C B1 dX4_with_13 ?_
      refine aw_icmp_ge C dX4_with_14 (tgt := 56) (by decide) (fun c_14 => ?_) (fun c_14 => absurd (nI_le (by omega) (by omega)) c_14)
      refine aw_aload_n C dX4_with_56 Lk3 ?_
      exact gw_aretA C hA9 dX4_with_57 (by omega) (by omega) ⟨rfl, fun j hj => ha1 j hj, fun j hj => by rw [show j = 0 by omega]; exact h0, rfl, fb, B1, fun p hp => hfb p (by omega)⟩
    | succ j ih =>
      intro q hq v' fb h0 A1 B1 hfb
      refine aw_iload C dX4_with_10 Lk4 ?_
      refine aw_aload_n C dX4_with_12 Lk3 ?_
      refine aw_al C B1 dX4_with_13 ?_
      refine aw_icmp_ge C dX4_with_14 (tgt := 56) (by decide) (fun c_14 => absurd c_14 (nI_ge (by omega) (by omega))) (fun c_14 => ?_)
      refine aw_aload_n C dX4_with_17 Lk3 ?_
      refine aw_iload C dX4_with_18 Lk4 ?_
      refine aw_iload C dX4_with_20 Lk4 ?_
      refine aw_iload_n C dX4_with_22 Lk1 ?_
      refine aw_icmp_ge C dX4_with_23 (tgt := 33) (by decide) (fun c_23 => ?_) (fun c_23 => ?_)
      · skip
        have c1 : ¬ q < i := fun z => nI_ge z (by omega) c_23
        refine aw_iload C dX4_with_33 Lk4 ?_
        refine aw_iload_n C dX4_with_35 Lk1 ?_
        refine aw_icmp_ne C dX4_with_36 (tgt := 43) (by decide) (fun c_36 => ?_) (fun c_36 => ?_)
        · skip
          have c2 : ¬ q = i := fun z => c_36 (by rw [z])
          refine aw_aload_n C dX4_with_43 Lk0 ?_
          refine aw_iload C dX4_with_44 Lk4 ?_
          refine aw_iconst C dX4_with_46 (x := nI 1) (by decide) ?_
          refine aw_isub C dX4_with_47 ?_
          rw [pk_sub (show 1 ≤ q by omega)]
          refine aw_il C A1 (by omega) dX4_with_48 ?_
          refine bw_is C B1 (by omega) dX4_with_49 (fun v2 hv2 B1 => ?_)
          refine aw_iinc C dX4_with_50 Lk4 (nI_1 _) St4 rfl ?_
          refine aw_goto C dX4_with_53 (tgt := 10) (by decide) ?_
          exact ih (q + 1) (by omega) v2 _ (by rw [hv2 0 (by omega)]; exact h0) (A1.sv hv2 (by omega)) B1 (fun p hp => by
                    by_cases c9 : p = q
                    · subst c9; rw [pk_us]; rw [if_neg c1, if_neg c2]
                    · rw [pk_un c9]; exact hfb p (by omega))
        · skip
          have c2 : q = i := nI_inj (by omega) (by omega) (Classical.not_not.mp c_36)
          refine aw_iload_n C dX4_with_39 Lk2 ?_
          refine aw_goto C dX4_with_40 (tgt := 49) (by decide) ?_
          refine bw_is C B1 (by omega) dX4_with_49 (fun v2 hv2 B1 => ?_)
          refine aw_iinc C dX4_with_50 Lk4 (nI_1 _) St4 rfl ?_
          refine aw_goto C dX4_with_53 (tgt := 10) (by decide) ?_
          exact ih (q + 1) (by omega) v2 _ (by rw [hv2 0 (by omega)]; exact h0) (A1.sv hv2 (by omega)) B1 (fun p hp => by
                    by_cases c9 : p = q
                    · subst c9; rw [pk_us]; rw [if_neg c1, if_pos c2]
                    · rw [pk_un c9]; exact hfb p (by omega))
      · skip
        have c1 : q < i := by have := Int32.not_le.mp c_23; exact (nI_ltI (by omega) (by omega)).mp this
        refine aw_aload_n C dX4_with_26 Lk0 ?_
        refine aw_iload C dX4_with_27 Lk4 ?_
        refine aw_il C A1 (by omega) dX4_with_29 ?_
        refine aw_goto C dX4_with_30 (tgt := 49) (by decide) ?_
        refine bw_is C B1 (by omega) dX4_with_49 (fun v2 hv2 B1 => ?_)
        refine aw_iinc C dX4_with_50 Lk4 (nI_1 _) St4 rfl ?_
        refine aw_goto C dX4_with_53 (tgt := 10) (by decide) ?_
        exact ih (q + 1) (by omega) v2 _ (by rw [hv2 0 (by omega)]; exact h0) (A1.sv hv2 (by omega)) B1 (fun p hp => by
                  by_cases c9 : p = q
                  · subst c9; rw [pk_us]; rw [if_pos c1]
                  · rw [pk_un c9]; exact hfb p (by omega))
  exact hl_10 (len + 1) 0 (by omega) v1 _ (hv1 0 (by omega)) A1 B1 (fun p hp => absurd hp (by omega))
set_option maxHeartbeats 4000000 in
set_option maxRecDepth 100000 in
theorem c_X4_without {G : (Nat → Prop) → State → Prop} {a : Nat → Nat} {v : Nat → va_E} {b len : Nat} {f : Nat → Int32} {i : Nat} (A1 : Ar cI 1 a v 0 b len f) (hl : len ≤ 10) (hi : i < len) : gM l D (cTys cI cZ cR cJ) yX4_without wsX4_without rmX4_without G 1 a v [.ref b, .int (nI i)] 1 11 (PoN cI 1 a v (len - 1) (fun f' => ∀ p, p < len - 1 → f' p = if p < i then f p else f (p + 1))) := by
  refine gM_of sX4_without (lv0 := [some (.ref b), some (.int (nI i)), none, none]) (j := 2) rfl rfl ?_
  intro pM eM sM mM argsM belowM methM cM AM szM CG hA9
  have C := CG.1
  refine aw_aload_n C dX4_without_0 Lk0 ?_
  refine aw_al C A1 dX4_without_1 ?_
  refine aw_iconst C dX4_without_2 (x := nI 1) (by decide) ?_
  refine aw_isub C dX4_without_3 ?_
  rw [pk_sub (by omega)]
  refine bw_ni C (by decide +kernel) (by omega) (by show 0 + 1 ≤ 1; omega) (by show 0 + (len - 1) ≤ 11; omega) dX4_without_4 (fun a1 v1 ha1 hv1 B1 => ?_)
  have A1 := A1.gr (n' := 1 + 1) ha1 hv1 (by omega)
  refine aw_astore_n C dX4_without_6 St2 rfl ?_
  refine aw_iconst C dX4_without_7 (x := nI 0) (by decide) ?_
  refine aw_istore_n C dX4_without_8 St3 rfl ?_
  have hl_9 : ∀ (j q : Nat), q + j = len - 1 → ∀ (v' : Nat → va_E) (fb : Nat → Int32), v' 0 = v 0 → (Ar cI (1 + 1) a1 v' 0 b len f) → (Ar cI (1 + 1) a1 v' 1 (a1 1) (len - 1) fb) → (∀ p, p < q → fb p = (if p < i then f p else f (p + 1))) → aW pM l eM rmX4_without sM mM argsM belowM methM cM (MQ belowM (gQ D 1 a szM (PoN cI 1 a v (len - 1) (fun f' => ∀ p, p < len - 1 → f' p = if p < i then f p else f (p + 1)))) argsM sM 1 11 AM) D AM (0 + 1) (0 + (len - 1)) (1 + 1) a1 v' 9 [some (.ref b), some (.int (nI i)), some (.ref (a1 1)), some (.int (nI q))] [] := by
    intro j
    induction j with
    | zero =>
      intro q hq v' fb h0 A1 B1 hfb
      refine aw_iload_n C dX4_without_9 Lk3 ?_
      refine aw_aload_n C dX4_without_10 Lk2 ?_
      refine aw_al C B1 dX4_without_11 ?_
      refine aw_icmp_ge C dX4_without_12 (tgt := 38) (by decide) (fun c_12 => ?_) (fun c_12 => absurd (nI_le (by omega) (by omega)) c_12)
      refine aw_aload_n C dX4_without_38 Lk2 ?_
      exact gw_aretA C hA9 dX4_without_39 (by omega) (by omega) ⟨rfl, fun j hj => ha1 j hj, fun j hj => by rw [show j = 0 by omega]; exact h0, rfl, fb, B1, fun p hp => hfb p (by omega)⟩
    | succ j ih =>
      intro q hq v' fb h0 A1 B1 hfb
      refine aw_iload_n C dX4_without_9 Lk3 ?_
      refine aw_aload_n C dX4_without_10 Lk2 ?_
      refine aw_al C B1 dX4_without_11 ?_
      refine aw_icmp_ge C dX4_without_12 (tgt := 38) (by decide) (fun c_12 => absurd c_12 (nI_ge (by omega) (by omega))) (fun c_12 => ?_)
      refine aw_aload_n C dX4_without_15 Lk2 ?_
      refine aw_iload_n C dX4_without_16 Lk3 ?_
      refine aw_aload_n C dX4_without_17 Lk0 ?_
      refine aw_iload_n C dX4_without_18 Lk3 ?_
      refine aw_iload_n C dX4_without_19 Lk1 ?_
      refine aw_icmp_ge C dX4_without_20 (tgt := 27) (by decide) (fun c_20 => ?_) (fun c_20 => ?_)
      · skip
        have c1 : ¬ q < i := fun z => nI_ge z (by omega) c_20
        refine aw_iload_n C dX4_without_27 Lk3 ?_
        refine aw_iconst C dX4_without_28 (x := nI 1) (by decide) ?_
        refine aw_iadd C dX4_without_29 ?_
        rw [nI_add]
        refine aw_il C A1 (by omega) dX4_without_30 ?_
        refine bw_is C B1 (by omega) dX4_without_31 (fun v2 hv2 B1 => ?_)
        refine aw_iinc C dX4_without_32 Lk3 (nI_1 _) St3 rfl ?_
        refine aw_goto C dX4_without_35 (tgt := 9) (by decide) ?_
        exact ih (q + 1) (by omega) v2 _ (by rw [hv2 0 (by omega)]; exact h0) (A1.sv hv2 (by omega)) B1 (fun p hp => by
                  by_cases c9 : p = q
                  · subst c9; rw [pk_us]; rw [if_neg c1]
                  · rw [pk_un c9]; exact hfb p (by omega))
      · skip
        have c1 : q < i := by have := Int32.not_le.mp c_20; exact (nI_ltI (by omega) (by omega)).mp this
        refine aw_iload_n C dX4_without_23 Lk3 ?_
        refine aw_goto C dX4_without_24 (tgt := 30) (by decide) ?_
        refine aw_il C A1 (by omega) dX4_without_30 ?_
        refine bw_is C B1 (by omega) dX4_without_31 (fun v2 hv2 B1 => ?_)
        refine aw_iinc C dX4_without_32 Lk3 (nI_1 _) St3 rfl ?_
        refine aw_goto C dX4_without_35 (tgt := 9) (by decide) ?_
        exact ih (q + 1) (by omega) v2 _ (by rw [hv2 0 (by omega)]; exact h0) (A1.sv hv2 (by omega)) B1 (fun p hp => by
                  by_cases c9 : p = q
                  · subst c9; rw [pk_us]; rw [if_pos c1]
                  · rw [pk_un c9]; exact hfb p (by omega))
  exact hl_9 (len - 1) 0 (by omega) v1 _ (hv1 0 (by omega)) A1 B1 (fun p hp => absurd hp (by omega))
end LEAF
section LROW
variable {p : Program} {l : Launch} {e : Env} {R : Room} {s : State} {m : MethodId} {args : Array Value} {below : List Frame} {meth : Method} {c : Code} {Q : State → Prop} {D : va_G} {A : Nat → Prop} {cells slots nL n pc : Nat} {a : Nat → Nat} {v v' : Nat → va_E} {lv lv' : List (Option Value)} {st rest : List Value} {cc bytes : ByteArray} {Ts ws : List Cond} {own : String} {ret ret' : Option FieldType} {ix b q len i z maxL : Nat} {cI cZ cR cJ : ClassId} {f : Nat → Int32} {g : Nat → Option Nat} {y : MethodName} {rm : Room} {G : (Nat → Prop) → State → Prop}
theorem aw_find {x : Int32} (C : aC p s m args meth c D (cTys cI cZ cR cJ) A cc nL Ts own ret) (d : decode cc pc = .ok (.invokestatic ix, 3)) (g : GoodIn Ts (va_wsS own ix yX4_find wsX4_find)) (h : Ar cI n a v q b len f) (hk : aChk rmX4_find 3 R lv nL cells slots 0 0 rest = true)
    (k : aW p l e R s m args below meth c Q D A cells slots n a v (pc + 3) lv (.int (rFind f x len 0) :: rest)) : aW p l e R s m args below meth c Q D A cells slots n a v pc lv (.int x :: .ref b :: rest) :=
  aw_subS (As := [.ref b, .int x]) (n0 := 1) (a0 := fun _ => b) (v0 := fun _ => .inl (cI, len, .inl f)) (v0' := fun _ => .inl (cI, len, .inl f)) (v1 := v) (f := fun _ => q) C d g sX4_find hk (fun _ _ => h.1) (fun _ _ => h.2.1) (fun i j hi hj _ => by omega) (fun _ _ => h.2.2.1) (fun _ _ => h.2.2.1) (fun _ _ _ => rfl) (c_X4_find h.2.2.2) k
/-- the class's 49 cells -/
def Cl (cI cR : ClassId) (n : Nat) (a : Nat → Nat) (v : Nat → va_E) (ac : Nat → Nat) (σ : CS) : Prop := 49 ≤ n ∧ (∀ k, k < 49 → a k = ac k) ∧ ∀ k, k < 49 → v k = cv cI cR ac σ k
theorem Cl.sv {n q0 : Nat} {a ac : Nat → Nat} {v v' : Nat → va_E} {σ : CS} (h : Cl cI cR n a v ac σ) (hv : ∀ j, j ≠ q0 → v' j = v j) (hq : 49 ≤ q0) : Cl cI cR n a v' ac σ := ⟨h.1, h.2.1, fun k hk => (hv k (by omega)).trans (h.2.2 k hk)⟩
theorem Cl.gr {n n' : Nat} {a a' ac : Nat → Nat} {v v' : Nat → va_E} {σ : CS} (h : Cl cI cR n a v ac σ) (ha : ∀ j, j < n → a' j = a j) (hv : ∀ j, j < n → v' j = v j) (hn : n ≤ n') : Cl cI cR n' a' v' ac σ := ⟨Nat.le_trans h.1 hn, fun k hk => (ha k (by have := h.1; omega)).trans (h.2.1 k hk), fun k hk => (hv k (by have := h.1; omega)).trans (h.2.2 k hk)⟩
/-- a call on the class that leaves it as it is -/
theorem aw_clr {As : List Value} {ac : Nat → Nat} {σ : CS} {x : Value} (C : aC p s m args meth c D (cTys cI cZ cR cJ) A cc nL Ts own ret) (d : decode cc pc = .ok (.invokevirtual ix, 3)) (g : GoodIn Ts (wsV own ix RX3 y ws)) (sy : sY y RX3 bytes maxL ret' ws As.length) (hk : aChk rm maxL R lv nL cells slots 0 0 rest = true) (h : Cl cI cR n a v ac σ)
    (hM : aM l D (cTys cI cZ cR cJ) 49 ac y ws rm (.ref (ac 44) :: As) (cv cI cR ac σ) (some x) (cv cI cR ac σ))
    (k : aW p l e R s m args below meth c Q D A cells slots n a v (pc + 3) lv (x :: rest)) : aW p l e R s m args below meth c Q D A cells slots n a v pc lv (As.reverse ++ .ref (ac 44) :: rest) :=
  aw_subV (n0 := 49) (a0 := ac) (v0 := cv cI cR ac σ) (v0' := cv cI cR ac σ) (v1 := v) (f := fun k => k) C d g sy hk (fun k hk => Nat.lt_of_lt_of_le hk h.1) h.2.1 (fun i j _ _ hij => hij) h.2.2 h.2.2 (fun _ _ _ => rfl) recHut hM k
theorem aw_clm {As : List Value} {ac : Nat → Nat} {σ σ' : CS} {x : Value} (C : aC p s m args meth c D (cTys cI cZ cR cJ) A cc nL Ts own ret) (d : decode cc pc = .ok (.invokevirtual ix, 3)) (g : GoodIn Ts (wsV own ix RX3 y ws)) (sy : sY y RX3 bytes maxL ret' ws As.length) (hk : aChk rm maxL R lv nL cells slots 0 0 rest = true) (h : Cl cI cR n a v ac σ)
    (hM : aM l D (cTys cI cZ cR cJ) 49 ac y ws rm (.ref (ac 44) :: As) (cv cI cR ac σ) (some x) (cv cI cR ac σ'))
    (k : ∀ v1, Cl cI cR n a v1 ac σ' → (∀ j, 49 ≤ j → v1 j = v j) → aW p l e R s m args below meth c Q D A cells slots n a v1 (pc + 3) lv (x :: rest)) : aW p l e R s m args below meth c Q D A cells slots n a v pc lv (As.reverse ++ .ref (ac 44) :: rest) :=
  aw_subV (n0 := 49) (a0 := ac) (v0 := cv cI cR ac σ) (v0' := cv cI cR ac σ') (v1 := fun j => if j < 49 then cv cI cR ac σ' j else v j) (f := fun k => k) C d g sy hk (fun k hk => Nat.lt_of_lt_of_le hk h.1) h.2.1 (fun i j _ _ hij => hij) h.2.2 (fun k hk => if_pos hk) (fun k _ hne => if_neg (fun hk => hne k hk rfl)) recHut hM (k _ ⟨h.1, h.2.1, fun k hk => if_pos hk⟩ (fun j hj => if_neg (by omega)))
theorem aw_clr0 {ac : Nat → Nat} {σ : CS} {x : Value} (C : aC p s m args meth c D (cTys cI cZ cR cJ) A cc nL Ts own ret) (d : decode cc pc = .ok (.invokevirtual ix, 3)) (g : GoodIn Ts (wsV own ix RX3 y ws)) (sy : sY y RX3 bytes maxL ret' ws 0) (hk : aChk rm maxL R lv nL cells slots 0 0 rest = true) (h : Cl cI cR n a v ac σ) (hM : aM l D (cTys cI cZ cR cJ) 49 ac y ws rm [.ref (ac 44)] (cv cI cR ac σ) (some x) (cv cI cR ac σ)) (k : aW p l e R s m args below meth c Q D A cells slots n a v (pc + 3) lv (x :: rest)) : aW p l e R s m args below meth c Q D A cells slots n a v pc lv (.ref (ac 44) :: rest) := aw_clr (As := []) C d g sy hk h hM k
theorem aw_clr1 {x1 : Value} {ac : Nat → Nat} {σ : CS} {x : Value} (C : aC p s m args meth c D (cTys cI cZ cR cJ) A cc nL Ts own ret) (d : decode cc pc = .ok (.invokevirtual ix, 3)) (g : GoodIn Ts (wsV own ix RX3 y ws)) (sy : sY y RX3 bytes maxL ret' ws 1) (hk : aChk rm maxL R lv nL cells slots 0 0 rest = true) (h : Cl cI cR n a v ac σ) (hM : aM l D (cTys cI cZ cR cJ) 49 ac y ws rm [.ref (ac 44), x1] (cv cI cR ac σ) (some x) (cv cI cR ac σ)) (k : aW p l e R s m args below meth c Q D A cells slots n a v (pc + 3) lv (x :: rest)) : aW p l e R s m args below meth c Q D A cells slots n a v pc lv (x1 :: .ref (ac 44) :: rest) := aw_clr (As := [x1]) C d g sy hk h hM k
theorem aw_clr2 {x1 x2 : Value} {ac : Nat → Nat} {σ : CS} {x : Value} (C : aC p s m args meth c D (cTys cI cZ cR cJ) A cc nL Ts own ret) (d : decode cc pc = .ok (.invokevirtual ix, 3)) (g : GoodIn Ts (wsV own ix RX3 y ws)) (sy : sY y RX3 bytes maxL ret' ws 2) (hk : aChk rm maxL R lv nL cells slots 0 0 rest = true) (h : Cl cI cR n a v ac σ) (hM : aM l D (cTys cI cZ cR cJ) 49 ac y ws rm [.ref (ac 44), x1, x2] (cv cI cR ac σ) (some x) (cv cI cR ac σ)) (k : aW p l e R s m args below meth c Q D A cells slots n a v (pc + 3) lv (x :: rest)) : aW p l e R s m args below meth c Q D A cells slots n a v pc lv (x2 :: x1 :: .ref (ac 44) :: rest) := aw_clr (As := [x1, x2]) C d g sy hk h hM k
theorem aw_clr3 {x1 x2 x3 : Value} {ac : Nat → Nat} {σ : CS} {x : Value} (C : aC p s m args meth c D (cTys cI cZ cR cJ) A cc nL Ts own ret) (d : decode cc pc = .ok (.invokevirtual ix, 3)) (g : GoodIn Ts (wsV own ix RX3 y ws)) (sy : sY y RX3 bytes maxL ret' ws 3) (hk : aChk rm maxL R lv nL cells slots 0 0 rest = true) (h : Cl cI cR n a v ac σ) (hM : aM l D (cTys cI cZ cR cJ) 49 ac y ws rm [.ref (ac 44), x1, x2, x3] (cv cI cR ac σ) (some x) (cv cI cR ac σ)) (k : aW p l e R s m args below meth c Q D A cells slots n a v (pc + 3) lv (x :: rest)) : aW p l e R s m args below meth c Q D A cells slots n a v pc lv (x3 :: x2 :: x1 :: .ref (ac 44) :: rest) := aw_clr (As := [x1, x2, x3]) C d g sy hk h hM k
theorem aw_clm0 {ac : Nat → Nat} {σ : CS} {σ' : CS} {x : Value} (C : aC p s m args meth c D (cTys cI cZ cR cJ) A cc nL Ts own ret) (d : decode cc pc = .ok (.invokevirtual ix, 3)) (g : GoodIn Ts (wsV own ix RX3 y ws)) (sy : sY y RX3 bytes maxL ret' ws 0) (hk : aChk rm maxL R lv nL cells slots 0 0 rest = true) (h : Cl cI cR n a v ac σ) (hM : aM l D (cTys cI cZ cR cJ) 49 ac y ws rm [.ref (ac 44)] (cv cI cR ac σ) (some x) (cv cI cR ac σ')) (k : ∀ v1, Cl cI cR n a v1 ac σ' → (∀ j, 49 ≤ j → v1 j = v j) → aW p l e R s m args below meth c Q D A cells slots n a v1 (pc + 3) lv (x :: rest)) : aW p l e R s m args below meth c Q D A cells slots n a v pc lv (.ref (ac 44) :: rest) := aw_clm (As := []) C d g sy hk h hM k
theorem aw_clm1 {x1 : Value} {ac : Nat → Nat} {σ : CS} {σ' : CS} {x : Value} (C : aC p s m args meth c D (cTys cI cZ cR cJ) A cc nL Ts own ret) (d : decode cc pc = .ok (.invokevirtual ix, 3)) (g : GoodIn Ts (wsV own ix RX3 y ws)) (sy : sY y RX3 bytes maxL ret' ws 1) (hk : aChk rm maxL R lv nL cells slots 0 0 rest = true) (h : Cl cI cR n a v ac σ) (hM : aM l D (cTys cI cZ cR cJ) 49 ac y ws rm [.ref (ac 44), x1] (cv cI cR ac σ) (some x) (cv cI cR ac σ')) (k : ∀ v1, Cl cI cR n a v1 ac σ' → (∀ j, 49 ≤ j → v1 j = v j) → aW p l e R s m args below meth c Q D A cells slots n a v1 (pc + 3) lv (x :: rest)) : aW p l e R s m args below meth c Q D A cells slots n a v pc lv (x1 :: .ref (ac 44) :: rest) := aw_clm (As := [x1]) C d g sy hk h hM k
theorem aw_clm2 {x1 x2 : Value} {ac : Nat → Nat} {σ : CS} {σ' : CS} {x : Value} (C : aC p s m args meth c D (cTys cI cZ cR cJ) A cc nL Ts own ret) (d : decode cc pc = .ok (.invokevirtual ix, 3)) (g : GoodIn Ts (wsV own ix RX3 y ws)) (sy : sY y RX3 bytes maxL ret' ws 2) (hk : aChk rm maxL R lv nL cells slots 0 0 rest = true) (h : Cl cI cR n a v ac σ) (hM : aM l D (cTys cI cZ cR cJ) 49 ac y ws rm [.ref (ac 44), x1, x2] (cv cI cR ac σ) (some x) (cv cI cR ac σ')) (k : ∀ v1, Cl cI cR n a v1 ac σ' → (∀ j, 49 ≤ j → v1 j = v j) → aW p l e R s m args below meth c Q D A cells slots n a v1 (pc + 3) lv (x :: rest)) : aW p l e R s m args below meth c Q D A cells slots n a v pc lv (x2 :: x1 :: .ref (ac 44) :: rest) := aw_clm (As := [x1, x2]) C d g sy hk h hM k
theorem aw_clm3 {x1 x2 x3 : Value} {ac : Nat → Nat} {σ : CS} {σ' : CS} {x : Value} (C : aC p s m args meth c D (cTys cI cZ cR cJ) A cc nL Ts own ret) (d : decode cc pc = .ok (.invokevirtual ix, 3)) (g : GoodIn Ts (wsV own ix RX3 y ws)) (sy : sY y RX3 bytes maxL ret' ws 3) (hk : aChk rm maxL R lv nL cells slots 0 0 rest = true) (h : Cl cI cR n a v ac σ) (hM : aM l D (cTys cI cZ cR cJ) 49 ac y ws rm [.ref (ac 44), x1, x2, x3] (cv cI cR ac σ) (some x) (cv cI cR ac σ')) (k : ∀ v1, Cl cI cR n a v1 ac σ' → (∀ j, 49 ≤ j → v1 j = v j) → aW p l e R s m args below meth c Q D A cells slots n a v1 (pc + 3) lv (x :: rest)) : aW p l e R s m args below meth c Q D A cells slots n a v pc lv (x3 :: x2 :: x1 :: .ref (ac 44) :: rest) := aw_clm (As := [x1, x2, x3]) C d g sy hk h hM k
end LROW
