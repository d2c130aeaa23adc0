/-! calls of methods that make something: over the whole world, or over a part of it -/
theorem blF_all {α : Type} {n : Nat} {g g' : Nat → α} : blF 0 n n g g' = g' := by
  funext j
  simp only [blF]
  by_cases h : j < n
  · rw [if_pos h, if_pos (by omega), Nat.sub_zero]
  · rw [if_neg h, show n + (j - n) = j by omega]
section GAL
variable {p : Program} {l : Launch} {e : Env} {R : Room} {s : State} {m : MethodId} {args : Array Value} {below : List Frame} {meth : Method} {c : Code} {Q : State → Prop} {D : va_G} {tys : List (ClassId × FieldType)} {A : Nat → Prop} {cells slots nL n pc : Nat} {a : Nat → Nat} {v : Nat → va_E} {lv : List (Option Value)} {rest : List Value} {cc bytes : ByteArray} {Ts ws : List Cond} {own C' : String} {ret ret' : Option FieldType} {y : MethodName} {rm : Room} {maxL ix b o mN mc ms : Nat} {G : (Nat → Prop) → State → Prop} {Po : Option Value → Nat → (Nat → Nat) → (Nat → va_E) → Prop}
theorem gw_allV {As : List Value} (CG : gN G p s m args meth c D tys A cc nL Ts own ret) (hG : gH G) (d : decode cc pc = .ok (.invokevirtual ix, 3)) (g : GoodIn Ts (wsV own ix C' y ws)) (sy : sY y C' bytes maxL ret' ws As.length) (hk : aChk rm maxL R lv nL cells slots mc ms rest = true) (hge : ∀ r n' a' v', Po r n' a' v' → n ≤ n') (hr : aRec n a v b C') (hM : gM l D tys y ws rm G n a v (.ref b :: As) mc ms Po)
    (k : ∀ r n' a' v', Po r n' a' v' → aW p l e R s m args below meth c Q D A (cells + mc) (slots + ms) n' a' v' (pc + 3) lv (r.toList ++ rest)) : aW p l e R s m args below meth c Q D A cells slots n a v pc lv (As.reverse ++ .ref b :: rest) := by
  have e1 : (fun k => a (0 + k)) = a := funext fun k => by rw [Nat.zero_add]
  have e2 : (fun k => v (0 + k)) = v := funext fun k => by rw [Nat.zero_add]
  refine gw_callV (o := 0) (mN := n) CG hG d g sy hk (by omega) hge (by rw [e1, e2]; exact hr) (by rw [e1, e2]; exact hM) (fun r n' a' v' hp => ?_)
  have h9 := k r n' a' v' hp
  have h8 := hge _ _ _ _ hp
  rw [blF_all, blF_all, show n + (n' - n) = n' by omega]
  exact h9
theorem gw_allV0 (CG : gN G p s m args meth c D tys A cc nL Ts own ret) (hG : gH G) (d : decode cc pc = .ok (.invokevirtual ix, 3)) (g : GoodIn Ts (wsV own ix C' y ws)) (sy : sY y C' bytes maxL ret' ws 0) (hk : aChk rm maxL R lv nL cells slots mc ms rest = true) (hge : ∀ r n' a' v', Po r n' a' v' → n ≤ n') (hr : aRec n a v b C') (hM : gM l D tys y ws rm G n a v [.ref b] mc ms Po)
    (k : ∀ r n' a' v', Po r n' a' v' → aW p l e R s m args below meth c Q D A (cells + mc) (slots + ms) n' a' v' (pc + 3) lv (r.toList ++ rest)) : aW p l e R s m args below meth c Q D A cells slots n a v pc lv (.ref b :: rest) := gw_allV (As := []) CG hG d g sy hk hge hr hM k
theorem gw_allV3 {x1 x2 x3 : Value} (CG : gN G p s m args meth c D tys A cc nL Ts own ret) (hG : gH G) (d : decode cc pc = .ok (.invokevirtual ix, 3)) (g : GoodIn Ts (wsV own ix C' y ws)) (sy : sY y C' bytes maxL ret' ws 3) (hk : aChk rm maxL R lv nL cells slots mc ms rest = true) (hge : ∀ r n' a' v', Po r n' a' v' → n ≤ n') (hr : aRec n a v b C') (hM : gM l D tys y ws rm G n a v [.ref b, x1, x2, x3] mc ms Po)
    (k : ∀ r n' a' v', Po r n' a' v' → aW p l e R s m args below meth c Q D A (cells + mc) (slots + ms) n' a' v' (pc + 3) lv (r.toList ++ rest)) : aW p l e R s m args below meth c Q D A cells slots n a v pc lv (x3 :: x2 :: x1 :: .ref b :: rest) := gw_allV (As := [x1, x2, x3]) CG hG d g sy hk hge hr hM k
theorem gw_blV0 (CG : gN G p s m args meth c D tys A cc nL Ts own ret) (hG : gH G) (d : decode cc pc = .ok (.invokevirtual ix, 3)) (g : GoodIn Ts (wsV own ix C' y ws)) (sy : sY y C' bytes maxL ret' ws 0) (hk : aChk rm maxL R lv nL cells slots mc ms rest = true) (ho : o + mN ≤ n) (hge : ∀ r n' a' v', Po r n' a' v' → mN ≤ n') (hr : aRec mN (fun k => a (o + k)) (fun k => v (o + k)) b C') (hM : gM l D tys y ws rm G mN (fun k => a (o + k)) (fun k => v (o + k)) [.ref b] mc ms Po)
    (k : ∀ r n' a' v', Po r n' a' v' → aW p l e R s m args below meth c Q D A (cells + mc) (slots + ms) (n + (n' - mN)) (blF o mN n a a') (blF o mN n v v') (pc + 3) lv (r.toList ++ rest)) : aW p l e R s m args below meth c Q D A cells slots n a v pc lv (.ref b :: rest) := gw_callV (As := []) CG hG d g sy hk ho hge hr hM k
theorem gw_blV3 {x1 x2 x3 : Value} (CG : gN G p s m args meth c D tys A cc nL Ts own ret) (hG : gH G) (d : decode cc pc = .ok (.invokevirtual ix, 3)) (g : GoodIn Ts (wsV own ix C' y ws)) (sy : sY y C' bytes maxL ret' ws 3) (hk : aChk rm maxL R lv nL cells slots mc ms rest = true) (ho : o + mN ≤ n) (hge : ∀ r n' a' v', Po r n' a' v' → mN ≤ n') (hr : aRec mN (fun k => a (o + k)) (fun k => v (o + k)) b C') (hM : gM l D tys y ws rm G mN (fun k => a (o + k)) (fun k => v (o + k)) [.ref b, x1, x2, x3] mc ms Po)
    (k : ∀ r n' a' v', Po r n' a' v' → aW p l e R s m args below meth c Q D A (cells + mc) (slots + ms) (n + (n' - mN)) (blF o mN n a a') (blF o mN n v v') (pc + 3) lv (r.toList ++ rest)) : aW p l e R s m args below meth c Q D A cells slots n a v pc lv (x3 :: x2 :: x1 :: .ref b :: rest) := gw_callV (As := [x1, x2, x3]) CG hG d g sy hk ho hge hr hM k
theorem gw_blS2 {x1 x2 : Value} (CG : gN G p s m args meth c D tys A cc nL Ts own ret) (hG : gH G) (d : decode cc pc = .ok (.invokestatic ix, 3)) (g : GoodIn Ts (va_wsS own ix y ws)) (sy : sY y C' bytes maxL ret' ws 2) (hk : aChk rm maxL R lv nL cells slots mc ms rest = true) (ho : o + mN ≤ n) (hge : ∀ r n' a' v', Po r n' a' v' → mN ≤ n') (hM : gM l D tys y ws rm G mN (fun k => a (o + k)) (fun k => v (o + k)) [x1, x2] mc ms Po)
    (k : ∀ r n' a' v', Po r n' a' v' → aW p l e R s m args below meth c Q D A (cells + mc) (slots + ms) (n + (n' - mN)) (blF o mN n a a') (blF o mN n v v') (pc + 3) lv (r.toList ++ rest)) : aW p l e R s m args below meth c Q D A cells slots n a v pc lv (x2 :: x1 :: rest) := gw_callS (As := [x1, x2]) CG hG d g sy hk ho hge hM k
theorem gw_blS3 {x1 x2 x3 : Value} (CG : gN G p s m args meth c D tys A cc nL Ts own ret) (hG : gH G) (d : decode cc pc = .ok (.invokestatic ix, 3)) (g : GoodIn Ts (va_wsS own ix y ws)) (sy : sY y C' bytes maxL ret' ws 3) (hk : aChk rm maxL R lv nL cells slots mc ms rest = true) (ho : o + mN ≤ n) (hge : ∀ r n' a' v', Po r n' a' v' → mN ≤ n') (hM : gM l D tys y ws rm G mN (fun k => a (o + k)) (fun k => v (o + k)) [x1, x2, x3] mc ms Po)
    (k : ∀ r n' a' v', Po r n' a' v' → aW p l e R s m args below meth c Q D A (cells + mc) (slots + ms) (n + (n' - mN)) (blF o mN n a a') (blF o mN n v v') (pc + 3) lv (r.toList ++ rest)) : aW p l e R s m args below meth c Q D A cells slots n a v pc lv (x3 :: x2 :: x1 :: rest) := gw_callS (As := [x1, x2, x3]) CG hG d g sy hk ho hge hM k
end GAL
/-! cells by other names -/
theorem Ar.pm {cI : ClassId} {n n' q q' b len : Nat} {a : Nat → Nat} {v : Nat → va_E} {f : Nat → Int32} {φ : Nat → Nat} (h : Ar cI n a v q b len f) (hn : q' < n') (hq : φ q' = q) : Ar cI n' (fun j => a (φ j)) (fun j => v (φ j)) q' b len f := ⟨hn, by show a (φ q') = b; rw [hq]; exact h.2.1, by show v (φ q') = _; rw [hq]; exact h.2.2.1, h.2.2.2⟩
theorem Rr.pm {cJ : ClassId} {n n' q q' b len : Nat} {a : Nat → Nat} {v : Nat → va_E} {f : Nat → Option Nat} {φ : Nat → Nat} (h : Rr cJ n a v q b len f) (hn : q' < n') (hq : φ q' = q) : Rr cJ n' (fun j => a (φ j)) (fun j => v (φ j)) q' b len f := ⟨hn, by show a (φ q') = b; rw [hq]; exact h.2.1, by show v (φ q') = _; rw [hq]; exact h.2.2.1, h.2.2.2⟩
theorem Ob.pm {n n' q q' b : Nat} {a : Nat → Nat} {v : Nat → va_E} {fs : List Value} {φ : Nat → Nat} (h : Ob n a v q b fs) (hn : q' < n') (hq : φ q' = q) : Ob n' (fun j => a (φ j)) (fun j => v (φ j)) q' b fs := ⟨hn, by show a (φ q') = b; rw [hq]; exact h.2.1, by show v (φ q') = _; rw [hq]; exact h.2.2⟩
theorem Ar.at {cI : ClassId} {n n' q q' b len : Nat} {a a' : Nat → Nat} {v v' : Nat → va_E} {f : Nat → Int32} (h : Ar cI n a v q b len f) (hn : q' < n') (ha : a' q' = a q) (hv : v' q' = v q) : Ar cI n' a' v' q' b len f := ⟨hn, ha.trans h.2.1, hv.trans h.2.2.1, h.2.2.2⟩
theorem Rr.at {cJ : ClassId} {n n' q q' b len : Nat} {a a' : Nat → Nat} {v v' : Nat → va_E} {f : Nat → Option Nat} (h : Rr cJ n a v q b len f) (hn : q' < n') (ha : a' q' = a q) (hv : v' q' = v q) : Rr cJ n' a' v' q' b len f := ⟨hn, ha.trans h.2.1, hv.trans h.2.2.1, h.2.2.2⟩
theorem Ob.at {n n' q q' b : Nat} {a a' : Nat → Nat} {v v' : Nat → va_E} {fs : List Value} (h : Ob n a v q b fs) (hn : q' < n') (ha : a' q' = a q) (hv : v' q' = v q) : Ob n' a' v' q' b fs := ⟨hn, ha.trans h.2.1, hv.trans h.2.2⟩
theorem Ob.rec {n q b : Nat} {a : Nat → Nat} {v : Nat → va_E} {fs : List Value} (h : Ob n a v q b fs) : aRec n a v b RX4 := ⟨q, 4, fs, TX4, 6, h.1, h.2.1, h.2.2, rfl⟩
def pmR (k N j : Nat) : Nat := if j = 3 + k then N else j
theorem pmR_n {k N j : Nat} (h : j ≠ 3 + k) : pmR k N j = j := if_neg h
theorem pmR_e {k N : Nat} : pmR k N (3 + k) = N := if_pos rfl
def pm1 (N j : Nat) : Nat := if j = 1 then N else j
theorem pm1_n {N j : Nat} (h : j ≠ 1) : pm1 N j = j := if_neg h
section SIMV
variable {l : Launch} {D : va_G} {cI cZ cR cJ : ClassId}
set_option maxHeartbeats 8000000 in
set_option maxRecDepth 100000 in
theorem c_X4_move {m : Nat} {a : Nat → Nat} {v : Nat → va_E} {h : Nat → Nat} {L : Nat → List Nat} (WL : WF m h L) (S : SimAt cI cJ (3 + m) a v m h L) : gM l D (cTys cI cZ cR cJ) yX4_move wsX4_move rmX4_move gA (3 + m) a v [.ref (a 0)] 40 400 (fun r n' a' v' => r = some (.int (nI (fb_ct (anP m h L) m))) ∧ n' = 3 + m ∧ a' 0 = a 0 ∧ SimAt cI cJ n' a' v' m (GN h m L) (mvL h m L)) := by
  obtain ⟨hm, ⟨x2, x3, x4, x5, O⟩, ⟨f, A1, hf⟩, ⟨g, R1, hg⟩, rf, hR⟩ := S
  have S : SimAt cI cJ (3 + m) a v m h L := ⟨hm, ⟨x2, x3, x4, x5, O⟩, ⟨f, A1, hf⟩, ⟨g, R1, hg⟩, rf, hR⟩
  refine gM_of sX4_move (lv0 := [some (.ref (a 0)), none, none, none, none, none]) (j := 5) rfl rfl ?_
  intro pM eM sM mM argsM belowM methM cM AM szM CG hA9
  have C := CG.1
  have hO : aO sM := CG.2
  refine aw_aload_n C dX4_move_0 Lk0 ?_
  refine aw_iconst C dX4_move_1 (x := -1) (by decide) ?_
  refine aw_iconst C dX4_move_2 (x := -1) (by decide) ?_
  refine aw_null C dX4_move_3 ?_
  refine gw_allV3 CG gA_H dX4_move_4 gX4_move_X4_trade sX4_trade rfl (fun r n' a' v' h9 => by have := h9.2.1; omega) O.rec (c_X4_trade (fun _ _ h => h) WL S) (fun r n1 a1 v1 hT => ?_)
  obtain ⟨rfl, rfl, ha1, hv1, O1, ⟨gv, Gt, hgv⟩, -, -, -⟩ := hT
  have A1 : Ar cI (3 + m + 1 + 1 + 1 + 1 + m) a1 v1 1 (a 1) m f := A1.at (by omega) (ha1 1 (by omega)) (hv1 1 (by omega) (by omega))
  have R1 : Rr cJ (3 + m + 1 + 1 + 1 + 1 + m) a1 v1 2 (a 2) m g := R1.at (by omega) (ha1 2 (by omega)) (hv1 2 (by omega) (by omega))
  have hRa : ∀ k, k < m → Ar cI (3 + m + 1 + 1 + 1 + 1 + m) a1 v1 (3 + k) (a (3 + k)) (L k).length (rf k) := fun k hk => (hR k hk).1.at (by omega) (ha1 (3 + k) (by omega)) (hv1 (3 + k) (by omega) (by omega))
  refine aw_widen (k := 30) (n9 := 300) (by omega) (by omega) ?_
  refine aw_pop C dX4_move_7 rfl ?_
  refine aw_iconst C dX4_move_8 (x := nI 0) (by decide) ?_
  refine aw_istore_n C dX4_move_9 St1 rfl ?_
  refine aw_iconst C dX4_move_10 (x := nI 0) (by decide) ?_
  refine aw_istore_n C dX4_move_11 St2 rfl ?_
  have hgl : ∀ q, q < m → (L q).length ≤ 10 ∧ (mvL h m L q).length ≤ 10 := fun q hq => by
    have h8 := (hR q hq).2.1
    refine ⟨h8, ?_⟩
    rw [mv_len WL hq]
    by_cases e : GN h m L q = h q
    · rw [if_pos e]; exact h8
    · rw [if_neg e]; have := (ixL_lt WL hq e).1; omega
  have hgG : ∀ q, q < m → gv q = nI (GN h m L q) ∧ GN h m L q < m := fun q hq => by
    obtain ⟨-, -, -, -, z1, z2⟩ := GN_spec WL hq
    exact ⟨by rw [hgv q hq, z1], z2⟩
  have hl : ∀ (j k : Nat), k + j = m → ∀ (aa : Nat → Nat) (vv : Nat → va_E) (gg : Nat → Option Nat) (ad : Nat → Nat) (Lc : Nat → List Nat) (rc : Nat → Nat → Int32), (Ob (3 + m + 1 + 1 + 1 + 1 + m) aa vv 0 (a 0) [.ref (a 1), .ref (a 2), .ref (a1 (3 + m)), .ref (a1 (3 + m + 1)), .ref (a1 (3 + m + 1 + 1)), .ref (a1 (3 + m + 1 + 1 + 1))]) → (Ar cI (3 + m + 1 + 1 + 1 + 1 + m) aa vv 1 (a 1) m f) → (Rr cJ (3 + m + 1 + 1 + 1 + 1 + m) aa vv 2 (a 2) m gg) → (∀ q, q < m → Ar cI (3 + m + 1 + 1 + 1 + 1 + m) aa vv (3 + q) (ad q) (Lc q).length (rc q)) → (Ar cI (3 + m + 1 + 1 + 1 + 1 + m) aa vv (3 + m) (a1 (3 + m)) m gv) → (∀ q, q < m → gg q = some (ad q)) → (∀ q, q < m → Lc q = if q < k then mvL h m L q else L q) → (∀ q, q < m → ∀ p, p < (Lc q).length → rc q p = nI ((Lc q).getD p 0)) → aW pM l eM rmX4_move sM mM argsM belowM methM cM (MQ belowM (gQ D (3 + m) a szM (fun r n' a' v' => r = some (.int (nI (fb_ct (anP m h L) m))) ∧ n' = 3 + m ∧ a' 0 = a 0 ∧ SimAt cI cJ n' a' v' m (GN h m L) (mvL h m L))) argsM sM 40 400 AM) D AM (30 + k) (300 + 10 * k) (3 + m + 1 + 1 + 1 + 1 + m) aa vv 12 [some (.ref (a 0)), some (.int (nI (fb_ct (anP m h L) k))), some (.int (nI k)), none, none, none] [] := by
    intro j
    induction j with
    | zero =>
      intro k hk aa vv gg ad Lc rc O A1 R1 hRa Gt hgg hLc hrc
      have hkm : k = m := by omega
      refine aw_iload_n C dX4_move_12 Lk2 ?_
      refine aw_aload_n C dX4_move_13 Lk0 ?_
      refine aw_g_has C O dX4_move_14 (by decide +kernel) (by decide +kernel) ?_
      refine aw_al C A1 dX4_move_17 ?_
      refine aw_icmp_ge C dX4_move_18 (tgt := 95) (by decide) (fun c_18 => ?_) (fun c_18 => absurd (nI_le (by omega) (by omega)) c_18)
      refine aw_aload_n C dX4_move_95 Lk0 ?_
      refine aw_aload_n C dX4_move_96 Lk0 ?_
      refine aw_g_gets C O dX4_move_97 (by decide +kernel) (by decide +kernel) ?_
      refine bw_p_has C O dX4_move_100 (by decide +kernel) (by decide +kernel) (fun v5 hv5 O => ?_)
      have A1 := A1.sv hv5 (by omega)
      have R1 := R1.sv hv5 (by omega)
      have hRa := fun (q : Nat) (hq : q < m) => (hRa q hq).sv hv5 (by omega)
      have Gt := Gt.sv hv5 (by omega)
      refine aw_iload_n C dX4_move_103 Lk1 ?_
      refine aW_perm (n' := 3 + m) (a' := fun j => aa (pm1 (3 + m) j)) (v' := fun j => v5 (pm1 (3 + m) j)) (f := pm1 (3 + m)) (fun j hj => by simp only [pm1]; split <;> omega) (fun _ _ => rfl) (fun i j hi hj e => by simp only [pm1] at e; split at e <;> split at e <;> omega) (fun _ _ => rfl) ?_
      have e1 : pm1 (3 + m) 1 = 3 + m := rfl
      have O9 := O.pm (n' := 3 + m) (φ := pm1 (3 + m)) (q' := 0) (by omega) rfl
      refine gw_iret C hA9 dX4_move_104 (by omega) (by omega) ⟨by rw [hkm], rfl, O9.2.1, hm, ⟨.ref (a1 (3 + m)), .ref (a1 (3 + m + 1)), .ref (a1 (3 + m + 1 + 1)), .ref (a1 (3 + m + 1 + 1 + 1)), ⟨by omega, rfl, ?_⟩⟩, ⟨gv, ?_, fun q hq => (hgG q hq).1⟩, ⟨gg, ?_, fun q hq => ?_⟩, rc, fun q hq => ⟨?_, ?_, ?_⟩⟩
      · have h1 := O9.2.2
        have h2 := Gt.2.1
        have h3 := R1.2.1
        show v5 (pm1 (3 + m) 0) = .inr (4, [.ref (aa (pm1 (3 + m) 1)), .ref (aa (pm1 (3 + m) 2)), .ref (a1 (3 + m)), .ref (a1 (3 + m + 1)), .ref (a1 (3 + m + 1 + 1)), .ref (a1 (3 + m + 1 + 1 + 1))])
        rw [show pm1 (3 + m) 2 = 2 from rfl, e1, h2, h3]
        exact h1
      · have h1 := Gt.pm (n' := 3 + m) (φ := pm1 (3 + m)) (q' := 1) (by omega) rfl
        rw [← h1.2.1] at h1
        exact h1
      · have h1 := R1.pm (n' := 3 + m) (φ := pm1 (3 + m)) (q' := 2) (by omega) rfl
        rw [← h1.2.1] at h1
        exact h1
      · show gg q = some (aa (pm1 (3 + m) (3 + q)))
        rw [pm1_n (by omega), (hRa q hq).2.1]
        exact hgg q hq
      · have h1 := (hRa q hq).pm (n' := 3 + m) (φ := pm1 (3 + m)) (q' := 3 + q) (by omega) (pm1_n (by omega))
        rw [← h1.2.1, hLc q hq, if_pos (show q < k by omega)] at h1
        exact h1
      · exact (hgl q hq).2
      · have h1 := hrc q hq
        rw [hLc q hq, if_pos (show q < k by omega)] at h1
        exact h1
    | succ j ih =>
      intro k hk aa vv gg ad Lc rc O A1 R1 hRa Gt hgg hLc hrc
      have hkm : k < m := by omega
      have hLk : Lc k = L k := by rw [hLc k hkm, if_neg (by omega)]
      have hlk : (Lc k).length ≤ 10 := by rw [hLk]; exact (hgl k hkm).1
      obtain ⟨hG1, hG2⟩ := hgG k hkm
      have hgF : gF m h L k = nI (GN h m L k) := (hgv k hkm).symm.trans hG1
      have hok : ∀ p, p < (Lc k).length → rc k p = nI ((L k).getD p 0) ∧ (L k).getD p 0 < 2 ^ 31 := fun p hp => by
        have h9 := hrc k hkm p hp
        rw [hLk] at h9 hp
        exact ⟨h9, by have := ((WL.2.2.2 k hkm).1 p hp).1; omega⟩
      have eifL : ∀ q, q ≠ k → (if q < k + 1 then mvL h m L q else L q) = (if q < k then mvL h m L q else L q) := fun q hq => by
        by_cases c : q < k
        · rw [if_pos c, if_pos (by omega)]
        · rw [if_neg c, if_neg (by omega)]
      have ek1 : (if k < k + 1 then mvL h m L k else L k) = mvL h m L k := if_pos (by omega)
      by_cases hGh : GN h m L k = h k
      · skip
        have han : anP m h L k = false := by
          refine decide_eq_false (fun z => z ?_)
          rw [hgF, hGh]
        have hfd : rFind (rc k) (nI (GN h m L k)) (Lc k).length 0 = -1 := rFind_no (by omega) hok (fun p hp e => by
          rw [hLk] at hp
          exact ((WL.2.2.2 k hkm).1 p hp).2 (by rw [e, hGh]))
        refine aw_iload_n C dX4_move_12 Lk2 ?_
        refine aw_aload_n C dX4_move_13 Lk0 ?_
        refine aw_g_has C O dX4_move_14 (by decide +kernel) (by decide +kernel) ?_
        refine aw_al C A1 dX4_move_17 ?_
        refine aw_icmp_ge C dX4_move_18 (tgt := 95) (by decide) (fun c_18 => absurd c_18 (nI_ge hkm (by omega))) (fun c_18 => ?_)
        refine aw_aload_n C dX4_move_21 Lk0 ?_
        refine aw_g_lists C O dX4_move_22 (by decide +kernel) (by decide +kernel) ?_
        refine aw_iload_n C dX4_move_25 Lk2 ?_
        refine aw_rl C R1 hkm (hgg k hkm) dX4_move_26 ?_
        refine aw_aload_n C dX4_move_27 Lk0 ?_
        refine aw_g_gets C O dX4_move_28 (by decide +kernel) (by decide +kernel) ?_
        refine aw_iload_n C dX4_move_31 Lk2 ?_
        refine aw_il C Gt hkm dX4_move_32 ?_
        rw [hG1]
        refine aw_find C dX4_move_33 gX4_move_X4_find (hRa k hkm) (aChk_mk rfl (by show 30 + k + 0 ≤ 40; omega) (by show 300 + 10 * k + 0 ≤ 400; omega)) ?_
        rw [hfd]
        refine aw_istore_n C dX4_move_36 St3 rfl ?_
        refine aw_iload_n C dX4_move_37 Lk3 ?_
        refine aw_if_ge C dX4_move_38 (tgt := 44) (by decide) (fun c_38 => absurd c_38 (by decide)) (fun c_38 => ?_)
        refine aw_goto C dX4_move_41 (tgt := 89) (by decide) ?_
        refine aw_iinc C dX4_move_89 Lk2 (nI_1 _) St2 rfl ?_
        refine aw_goto C dX4_move_92 (tgt := 12) (by decide) ?_
        have h9 := ih (k + 1) (by omega) aa vv gg ad Lc rc O A1 R1 hRa Gt hgg (fun q hq => by
          by_cases c : q = k
          · subst c; rw [hLk, ek1, mvL, if_pos hGh]
          · rw [hLc q hq, eifL q c]) hrc
        rw [fb_ct_succ, han] at h9
        exact aw_widen (by omega) (by omega) (aW_wk h9 (Wk.k (Wk.k (Wk.k (Wk.d (Wk.d (Wk.d Wk.n)))))))
      · skip
        have han : anP m h L k = true := by
          refine decide_eq_true (fun z => hGh ?_)
          rw [hgF] at z
          exact nI_inj (by omega) (by have := WL.2.1 k hkm; omega) z
        obtain ⟨i1, i2⟩ := ixL_lt WL hkm hGh
        have hfd : rFind (rc k) (nI (GN h m L k)) (Lc k).length 0 = nI (ixL (L k) (GN h m L k)) := by
          rw [rFind_at (by omega) hok (by rw [hLk]; exact ⟨_, i1, i2⟩), hLk]
          rfl
        have hmvk : mvL h m L k = (L k).take (ixL (L k) (GN h m L k)) := by simp only [mvL, if_neg hGh]
        generalize hix : ixL (L k) (GN h m L k) = ix at i1 i2 hfd hmvk
        have hix10 : ix < 10 := by rw [hLk] at hlk; omega
        refine aw_iload_n C dX4_move_12 Lk2 ?_
        refine aw_aload_n C dX4_move_13 Lk0 ?_
        refine aw_g_has C O dX4_move_14 (by decide +kernel) (by decide +kernel) ?_
        refine aw_al C A1 dX4_move_17 ?_
        refine aw_icmp_ge C dX4_move_18 (tgt := 95) (by decide) (fun c_18 => absurd c_18 (nI_ge hkm (by omega))) (fun c_18 => ?_)
        refine aw_aload_n C dX4_move_21 Lk0 ?_
        refine aw_g_lists C O dX4_move_22 (by decide +kernel) (by decide +kernel) ?_
        refine aw_iload_n C dX4_move_25 Lk2 ?_
        refine aw_rl C R1 hkm (hgg k hkm) dX4_move_26 ?_
        refine aw_aload_n C dX4_move_27 Lk0 ?_
        refine aw_g_gets C O dX4_move_28 (by decide +kernel) (by decide +kernel) ?_
        refine aw_iload_n C dX4_move_31 Lk2 ?_
        refine aw_il C Gt hkm dX4_move_32 ?_
        rw [hG1]
        refine aw_find C dX4_move_33 gX4_move_X4_find (hRa k hkm) (aChk_mk rfl (by show 30 + k + 0 ≤ 40; omega) (by show 300 + 10 * k + 0 ≤ 400; omega)) ?_
        rw [hfd]
        refine aw_istore_n C dX4_move_36 St3 rfl ?_
        refine aw_iload_n C dX4_move_37 Lk3 ?_
        refine aw_if_ge C dX4_move_38 (tgt := 44) (by decide) (fun c_38 => ?_) (fun c_38 => absurd (nI_pos' (by omega)) c_38)
        refine aw_iload_n C dX4_move_44 Lk3 ?_
        refine bw_ni C (by decide +kernel) (by omega) (by show 30 + k + 1 ≤ 40; omega) (by show 300 + 10 * k + ix ≤ 400; omega) dX4_move_45 (fun a6 v6 ha6 hv6 K1 => ?_)
        have O := O.gr (n' := 3 + m + 1 + 1 + 1 + 1 + m + 1) ha6 hv6 (by omega)
        have A1 := A1.gr (n' := 3 + m + 1 + 1 + 1 + 1 + m + 1) ha6 hv6 (by omega)
        have R1 := R1.gr (n' := 3 + m + 1 + 1 + 1 + 1 + m + 1) ha6 hv6 (by omega)
        have hRa := fun (q : Nat) (hq : q < m) => (hRa q hq).gr (n' := 3 + m + 1 + 1 + 1 + 1 + m + 1) ha6 hv6 (by omega)
        have Gt := Gt.gr (n' := 3 + m + 1 + 1 + 1 + 1 + m + 1) ha6 hv6 (by omega)
        refine aw_astore C dX4_move_47 St4 rfl ?_
        refine aw_iconst C dX4_move_49 (x := nI 0) (by decide) ?_
        refine aw_istore C dX4_move_50 St5 rfl ?_
        have hl2 : ∀ (j2 i : Nat), i + j2 = ix → ∀ (vv : Nat → va_E) (fk : Nat → Int32), (Ob (3 + m + 1 + 1 + 1 + 1 + m + 1) a6 vv 0 (a 0) [.ref (a 1), .ref (a 2), .ref (a1 (3 + m)), .ref (a1 (3 + m + 1)), .ref (a1 (3 + m + 1 + 1)), .ref (a1 (3 + m + 1 + 1 + 1))]) → (Ar cI (3 + m + 1 + 1 + 1 + 1 + m + 1) a6 vv 1 (a 1) m f) → (Rr cJ (3 + m + 1 + 1 + 1 + 1 + m + 1) a6 vv 2 (a 2) m gg) → (∀ q, q < m → Ar cI (3 + m + 1 + 1 + 1 + 1 + m + 1) a6 vv (3 + q) (ad q) (Lc q).length (rc q)) → (Ar cI (3 + m + 1 + 1 + 1 + 1 + m + 1) a6 vv (3 + m) (a1 (3 + m)) m gv) → (Ar cI (3 + m + 1 + 1 + 1 + 1 + m + 1) a6 vv (3 + m + 1 + 1 + 1 + 1 + m) (a6 (3 + m + 1 + 1 + 1 + 1 + m)) ix fk) → (∀ q, q < i → fk q = rc k q) → aW pM l eM rmX4_move sM mM argsM belowM methM cM (MQ belowM (gQ D (3 + m) a szM (fun r n' a' v' => r = some (.int (nI (fb_ct (anP m h L) m))) ∧ n' = 3 + m ∧ a' 0 = a 0 ∧ SimAt cI cJ n' a' v' m (GN h m L) (mvL h m L))) argsM sM 40 400 AM) D AM (30 + k + 1) (300 + 10 * k + ix) (3 + m + 1 + 1 + 1 + 1 + m + 1) a6 vv 52 [some (.ref (a 0)), some (.int (nI (fb_ct (anP m h L) k))), some (.int (nI k)), some (.int (nI ix)), some (.ref (a6 (3 + m + 1 + 1 + 1 + 1 + m))), some (.int (nI i))] [] := by
          intro j2
          induction j2 with
          | zero =>
            intro i hi vv fk O A1 R1 hRa Gt K1 hfk
            refine aw_iload C dX4_move_52 Lk5 ?_
            refine aw_iload_n C dX4_move_54 Lk3 ?_
            refine aw_icmp_ge C dX4_move_55 (tgt := 78) (by decide) (fun c_55 => ?_) (fun c_55 => absurd (nI_le (by omega) (by omega)) c_55)
            refine aw_aload_n C dX4_move_78 Lk0 ?_
            refine aw_g_lists C O dX4_move_79 (by decide +kernel) (by decide +kernel) ?_
            refine aw_iload_n C dX4_move_82 Lk2 ?_
            refine aw_aload C dX4_move_83 Lk4 ?_
            refine bw_rs C hO R1 hkm K1 dX4_move_85 (fun v7 hv7 R1 => ?_)
            have O := O.sv hv7 (by omega)
            have A1 := A1.sv hv7 (by omega)
            have hRa := fun (q : Nat) (hq : q < m) => (hRa q hq).sv hv7 (by omega)
            have Gt := Gt.sv hv7 (by omega)
            have K1 := K1.sv hv7 (by omega)
            refine aw_iinc C dX4_move_86 Lk1 (nI_1 _) St1 rfl ?_
            refine aw_iinc C dX4_move_89 Lk2 (nI_1 _) St2 rfl ?_
            refine aw_goto C dX4_move_92 (tgt := 12) (by decide) ?_
            refine aW_perm (n' := 3 + m + 1 + 1 + 1 + 1 + m) (a' := fun j => a6 (pmR k (3 + m + 1 + 1 + 1 + 1 + m) j)) (v' := fun j => v7 (pmR k (3 + m + 1 + 1 + 1 + 1 + m) j)) (f := pmR k (3 + m + 1 + 1 + 1 + 1 + m)) (fun j hj => by simp only [pmR]; split <;> omega) (fun _ _ => rfl) (fun i j hi hj e => by simp only [pmR] at e; split at e <;> split at e <;> omega) (fun _ _ => rfl) ?_
            have O := O.pm (n' := 3 + m + 1 + 1 + 1 + 1 + m) (φ := pmR k (3 + m + 1 + 1 + 1 + 1 + m)) (q' := 0) (by omega) (pmR_n (by omega))
            have A1 := A1.pm (n' := 3 + m + 1 + 1 + 1 + 1 + m) (φ := pmR k (3 + m + 1 + 1 + 1 + 1 + m)) (q' := 1) (by omega) (pmR_n (by omega))
            have R1 := R1.pm (n' := 3 + m + 1 + 1 + 1 + 1 + m) (φ := pmR k (3 + m + 1 + 1 + 1 + 1 + m)) (q' := 2) (by omega) (pmR_n (by omega))
            have Gt := Gt.pm (n' := 3 + m + 1 + 1 + 1 + 1 + m) (φ := pmR k (3 + m + 1 + 1 + 1 + 1 + m)) (q' := 3 + m) (by omega) (pmR_n (by omega))
            have K1 := K1.pm (n' := 3 + m + 1 + 1 + 1 + 1 + m) (φ := pmR k (3 + m + 1 + 1 + 1 + 1 + m)) (q' := 3 + k) (by omega) pmR_e
            have hlm : (mvL h m L k).length = ix := by rw [hmvk]; simp; omega
            have h9 := ih (k + 1) (by omega) _ _ _ (fun q => if q = k then a6 (3 + m + 1 + 1 + 1 + 1 + m) else ad q) (fun q => if q = k then mvL h m L k else Lc q) (fun q => if q = k then fk else rc q) O A1 R1 (fun q hq => by
              by_cases c : q = k
              · subst c
                simp only [if_true]
                rw [hlm]
                exact K1
              · simp only [if_neg c]
                exact (hRa q hq).pm (by omega) (pmR_n (by omega))) Gt (fun q hq => by
              by_cases c : q = k
              · subst c; simp [va_up]
              · simp only [va_up, if_neg c]; exact hgg q hq) (fun q hq => by
              by_cases c : q = k
              · subst c; simp only [if_true]; exact ek1.symm
              · simp only [if_neg c]; rw [hLc q hq, eifL q c]) (fun q hq p hp => by
              by_cases c : q = k
              · subst c
                simp only [if_true] at hp ⊢
                rw [hlm] at hp
                rw [hfk p (by omega), (hok p (by rw [hLk]; omega)).1, hmvk, takL_at hp]
              · simp only [if_neg c] at hp ⊢
                exact hrc q hq p hp)
            rw [fb_ct_succ, han] at h9
            exact aw_widen (by omega) (by omega) (aW_wk h9 (Wk.k (Wk.k (Wk.k (Wk.d (Wk.d (Wk.d Wk.n)))))))
          | succ j2 ih2 =>
            intro i hi vv fk O A1 R1 hRa Gt K1 hfk
            refine aw_iload C dX4_move_52 Lk5 ?_
            refine aw_iload_n C dX4_move_54 Lk3 ?_
            refine aw_icmp_ge C dX4_move_55 (tgt := 78) (by decide) (fun c_55 => absurd c_55 (nI_ge (by omega) (by omega))) (fun c_55 => ?_)
            refine aw_aload C dX4_move_58 Lk4 ?_
            refine aw_iload C dX4_move_60 Lk5 ?_
            refine aw_aload_n C dX4_move_62 Lk0 ?_
            refine aw_g_lists C O dX4_move_63 (by decide +kernel) (by decide +kernel) ?_
            refine aw_iload_n C dX4_move_66 Lk2 ?_
            refine aw_rl C R1 hkm (hgg k hkm) dX4_move_67 ?_
            refine aw_iload C dX4_move_68 Lk5 ?_
            refine aw_il C (hRa k hkm) (show i < (Lc k).length by rw [hLk]; omega) dX4_move_70 ?_
            refine bw_is C K1 (by omega) dX4_move_71 (fun v7 hv7 K1 => ?_)
            have O := O.sv hv7 (by omega)
            have A1 := A1.sv hv7 (by omega)
            have R1 := R1.sv hv7 (by omega)
            have hRa := fun (q : Nat) (hq : q < m) => (hRa q hq).sv hv7 (by omega)
            have Gt := Gt.sv hv7 (by omega)
            refine aw_iinc C dX4_move_72 Lk5 (nI_1 _) St5 rfl ?_
            refine aw_goto C dX4_move_75 (tgt := 52) (by decide) ?_
            exact ih2 (i + 1) (by omega) v7 _ O A1 R1 hRa Gt K1 (fun q hq => by
              by_cases c : q = i
              · subst c; rw [pk_us]
              · rw [pk_un c]; exact hfk q (by omega))
        exact hl2 ix 0 (by omega) v6 _ O A1 R1 hRa Gt K1 (fun q hq => absurd hq (by omega))
  exact hl m 0 (by omega) a1 v1 g _ L rf O1 A1 R1 hRa Gt hg (fun q hq => by rw [if_neg (by omega)]) (fun q hq => (hR q hq).2.2)
end SIMV
