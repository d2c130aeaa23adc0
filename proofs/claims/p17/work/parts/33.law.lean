/-! the law itself -/
def SimV (cI cJ : ClassId) (n : Nat) (a : Nat → Nat) (v : Nat → va_E) (bs m : Nat) (h : Nat → Nat) (L : Nat → List Nat) : Prop := SimW cI cJ n a v m h L ∧ a 49 = bs
theorem SimV.sv {cI cJ : ClassId} {n m q0 bs : Nat} {a : Nat → Nat} {v v' : Nat → va_E} {h : Nat → Nat} {L : Nat → List Nat} (S : SimV cI cJ n a v bs m h L) (hv : ∀ j, j ≠ q0 → v' j = v j) (hq : 49 + (3 + m) ≤ q0) : SimV cI cJ n a v' bs m h L := ⟨S.1.sv hv hq, S.2⟩
theorem SimV.gr {cI cJ : ClassId} {n n' m bs : Nat} {a a' : Nat → Nat} {v v' : Nat → va_E} {h : Nat → Nat} {L : Nat → List Nat} (S : SimV cI cJ n a v bs m h L) (ha : ∀ j, j < n → a' j = a j) (hv : ∀ j, j < n → v' j = v j) (hn : n ≤ n') : SimV cI cJ n' a' v' bs m h L := ⟨S.1.gr ha hv hn, (ha 49 (by have := S.1.1; omega)).trans S.2⟩
theorem SimV.dr {cI cJ : ClassId} {n n' m bs : Nat} {a : Nat → Nat} {v : Nat → va_E} {h : Nat → Nat} {L : Nat → List Nat} (S : SimV cI cJ n a v bs m h L) (hn : 49 + (3 + m) ≤ n') : SimV cI cJ n' a v bs m h L := ⟨S.1.dr hn, S.2⟩
theorem SimV.rec {cI cJ : ClassId} {n m bs : Nat} {a : Nat → Nat} {v : Nat → va_E} {h : Nat → Nat} {L : Nat → List Nat} (S : SimV cI cJ n a v bs m h L) : aRec n a v bs RX4 := by
  obtain ⟨⟨hn, S⟩, hb⟩ := S
  obtain ⟨x2, x3, x4, x5, O⟩ := S.2.1
  exact ⟨49, 4, _, TX4, 6, by omega, hb, O.2.2, rfl⟩
theorem SimV.rec2 {cI cJ : ClassId} {n m bs : Nat} {a : Nat → Nat} {v : Nat → va_E} {h : Nat → Nat} {L : Nat → List Nat} (S : SimV cI cJ n a v bs m h L) : aRec (3 + m) (fun k => a (49 + k)) (fun k => v (49 + k)) bs RX4 := by
  obtain ⟨⟨hn, S⟩, hb⟩ := S
  obtain ⟨x2, x3, x4, x5, O⟩ := S.2.1
  exact ⟨0, 4, _, TX4, 6, by omega, hb, O.2.2, rfl⟩
section LAWN
variable {n : Nat} {h : Nat → Nat} {L : Nat → List Nat}
theorem rn_le_n (W : WF n h L) : rn (TL h n L) (t0A n) n ≤ n := by
  rcases Nat.eq_zero_or_pos (rn (TL h n L) (t0A n) n) with z | z
  · omega
  · obtain ⟨k, hk, ht⟩ := anyT_iff.mp (rn_lt (T := TL h n L) (t0 := t0A n) (n := n) (r := rn (TL h n L) (t0A n) n - 1) (by omega))
    have h9 := thR_cnt (T := TL h n L) (t0 := t0A n) (n := n) t0A_ok W.1 _ ⟨k, ht⟩
    have h8 : 0 < fb_ct (thR (TL h n L) (t0A n) (rn (TL h n L) (t0A n) n - 1)) n := fb_ct_pos.mpr ⟨k, hk, ht⟩
    omega
/-- the rank of what one gets: as long is the list behind the move -/
theorem rk_len (W : WF n h L) {k : Nat} (hk : k < n) : rkP h L k (gF n h L k) = nI (mvL h n L k).length := by
  obtain ⟨r, -, -, -, g4, g5⟩ := GN_spec W hk
  have hn := W.1
  have hh := W.2.1 k hk
  have e : gF n h L k = nI (GN h n L k) := g4
  rw [rkP, e, mv_len W hk]
  by_cases c : GN h n L k = h k
  · rw [if_pos (by rw [c]), if_pos c]
  · rw [if_neg (fun z => c (nI_inj (by omega) (by omega) z)), if_neg c]
    exact rFind_at (by omega) (fun p hp => ⟨rfl, by have := ((W.2.2.2 k hk).1 p hp).1; omega⟩) ⟨_, ixL_lt W hk c⟩
end LAWN
section LAWL
variable {p : Program} {l : Launch} {e : Env} {s : State} {mI : MethodId} {args : Array Value} {below : List Frame} {meth : Method} {c : Code} {Q : State → Prop} {D : va_G} {A : Nat → Prop} {cI cZ cR cJ : ClassId} {b9 N bs : Nat} {xs : Nat → Int32} {ac : Nat → Nat}
theorem gw_allV1 {R : Room} {nL n pc cells slots : Nat} {a : Nat → Nat} {v : Nat → va_E} {lv : List (Option Value)} {rest : List Value} {cc bytes : ByteArray} {Ts ws : List Cond} {own C' : String} {ret ret' : Option FieldType} {y : MethodName} {rm : Room} {maxL ix b mc ms : Nat} {tys : List (ClassId × FieldType)} {G : (Nat → Prop) → State → Prop} {Po : Option Value → Nat → (Nat → Nat) → (Nat → va_E) → Prop} {x1 : Value} (CG : gN G p s mI args meth c D tys A cc nL Ts own ret) (hG : gH G) (d : decode cc pc = .ok (.invokevirtual ix, 3)) (g : GoodIn Ts (wsV own ix C' y ws)) (sy : sY y C' bytes maxL ret' ws 1) (hk : aChk rm maxL R lv nL cells slots mc ms rest = true) (hge : ∀ r n' a' v', Po r n' a' v' → n ≤ n') (hr : aRec n a v b C') (hM : gM l D tys y ws rm G n a v [.ref b, x1] mc ms Po)
    (k : ∀ r n' a' v', Po r n' a' v' → aW p l e R s mI args below meth c Q D A (cells + mc) (slots + ms) n' a' v' (pc + 3) lv (r.toList ++ rest)) : aW p l e R s mI args below meth c Q D A cells slots n a v pc lv (x1 :: .ref b :: rest) := gw_allV (As := [x1]) CG hG d g sy hk hge hr hM k
set_option maxHeartbeats 16000000 in
set_option maxRecDepth 100000 in
theorem law_loop (CG : gN (gS b9 N xs) p s mI args meth c D (cTys cI cZ cR cJ) A cL_law 21 wsL_law RL (some .boolean)) (hN : N < 2 ^ 31)
    (hend : ∀ (cells slots n : Nat) (a : Nat → Nat) (v : Nat → va_E) (lv : List (Option Value)), cells ≤ 600130 → slots ≤ 7301080 → aW p l e room_1 s mI args below meth c Q D A cells slots n a v 683 lv [.int 1]) :
    ∀ (j t : Nat), t + j = 12 → ∀ (n : Nat) (a : Nat → Nat) (v : Nat → va_E) (σ : CS) (m : Nat) (h : Nat → Nat) (L : Nat → List Nat), 1 ≤ m → LawW cI cR cJ n a v ac bs σ m h L → aW p l e room_1 s mI args below meth c Q D A (2100 + 200 * t) (21000 + 2000 * t) (n) a v 22 [some (.ref b9), some (.ref (ac 44)), some (.ref bs), some (.int (nI t)), none, none, none, none, none, none, none, none, none, none, none, none, none, none, none, none, none] [] := by
  have C := CG.1
  have CA : gN gA p s mI args meth c D (cTys cI cZ cR cJ) A cL_law 21 wsL_law RL (some .boolean) := ⟨CG.1, CG.2.1⟩
  have hO : aO s := CG.2.1
  intro j
  induction j with
  | zero =>
    intro t ht n a v σ m h L hm0 LW
    refine aw_iload_n C dL_law_22 Lk3 ?_
    refine aw_bipush C dL_law_23 (x := nI 12) (by decide) ?_
    refine aw_icmp_ge C dL_law_25 (tgt := 678) (by decide) (fun c_25 => ?_) (fun c_25 => absurd (nI_le (by omega) (by omega)) c_25)
    refine aw_aload_n C dL_law_678 Lk2 ?_
    refine aw_aload_n C dL_law_679 Lk1 ?_
    refine gw_allV1 (rm := rmX4_isSame) (mc := 50) (ms := 500) CA gA_H dL_law_680 gL_law_X4_isSame sX4_isSame (aChk_mk rfl (by show 2100 + 200 * t + 50 ≤ 600130; omega) (by show 21000 + 2000 * t + 500 ≤ 7301080; omega)) (fun r n' a' v' h9 => h9.2) (by obtain ⟨h1, -, h3, h4, -⟩ := LW; exact SimV.rec ⟨⟨by omega, h4⟩, h3⟩) (c_X4_isSame LW hm0) (fun r n1 a1 v1 hp => ?_)
    obtain ⟨rfl, -⟩ := hp
    exact hend _ _ _ _ _ _ (by omega) (by omega)
  | succ j ih =>
    intro t ht n a v σ m h L hm0 LW
    have h80 : ∀ (n : Nat) (a : Nat → Nat) (v : Nat → va_E) (σ : CS) (m : Nat) (h : Nat → Nat) (L : Nat → List Nat), 1 ≤ m → LawW cI cR cJ n a v ac bs σ m h L → aW p l e room_1 s mI args below meth c Q D A (2220 + 200 * t) (22200 + 2000 * t) (n) a v 80 [some (.ref b9), some (.ref (ac 44)), some (.ref bs), some (.int (nI t)), none, none, none, none, none, none, none, none, none, none, none, none, none, none, none, none, none] [] := by
      intro n a v σ m h L hm0 LW
      obtain ⟨rfl, K, hbs, S, H⟩ := LW
      have WL := H.1
      have hm := WL.1
      have SS : SimV cI cJ (49 + (3 + m)) a v bs m h L := ⟨⟨Nat.le_refl _, S⟩, hbs⟩
      have hrnm := rn_le_n WL
      have hGF : ∀ k, k < m → gF m h L k = nI (GN h m L k) ∧ GN h m L k < m := fun k hk => by
        obtain ⟨r, -, -, -, g4, g5⟩ := GN_spec WL hk
        exact ⟨g4, g5⟩
      refine aw_aload_n C dL_law_80 Lk1 ?_
      refine aw_iconst C dL_law_81 (x := nI 0) (by decide) ?_
      refine aw_clr1 C dL_law_82 gL_law_X3_count sX3_count (rm := rmX3_count) (aChk_mk rfl (by show 2220 + 200 * t + 0 ≤ 600130; omega) (by show 22200 + 2000 * t + 0 ≤ 7301080; omega)) K (f_count H (w := 0) (by decide)) ?_
      refine aw_istore C dL_law_85 St5 rfl ?_
      refine aw_aload_n C dL_law_87 Lk1 ?_
      refine aw_iconst C dL_law_88 (x := nI 1) (by decide) ?_
      refine aw_clr1 C dL_law_89 gL_law_X3_count sX3_count (rm := rmX3_count) (aChk_mk rfl (by show 2220 + 200 * t + 0 ≤ 600130; omega) (by show 22200 + 2000 * t + 0 ≤ 7301080; omega)) K (f_count H (w := 1) (by decide)) ?_
      refine aw_istore C dL_law_92 St6 rfl ?_
      skip
      rw [show cnP m h L 0 = nI m from rfl, show cnP m h L 1 = nI (rn (TL h m L) (t0A m) m) from rfl]
      refine aw_iload C dL_law_94 Lk5 ?_
      refine bw_nz C (by decide +kernel) (by omega) (by show 2220 + 200 * t + 1 ≤ 600130; omega) (by show 22200 + 2000 * t + m ≤ 7301080; omega) dL_law_96 (fun a1 v1 ha1 hv1 LG => ?_)
      have K := K.gr (n' := 49 + (3 + m) + 1) ha1 hv1 (by omega)
      have SS := SS.gr (n' := 49 + (3 + m) + 1) ha1 hv1 (by omega)
      refine aw_astore C dL_law_98 St7 rfl ?_
      refine aw_iload C dL_law_100 Lk5 ?_
      refine aw_iconst C dL_law_102 (x := nI 1) (by decide) ?_
      refine aw_iadd C dL_law_103 ?_
      rw [nI_add]
      refine bw_ni C (by decide +kernel) (by omega) (by show 2220 + 200 * t + 1 + 1 ≤ 600130; omega) (by show 22200 + 2000 * t + m + (m + 1) ≤ 7301080; omega) dL_law_104 (fun a2 v2 ha2 hv2 IR => ?_)
      have K := K.gr (n' := 49 + (3 + m) + 1 + 1) ha2 hv2 (by omega)
      have SS := SS.gr (n' := 49 + (3 + m) + 1 + 1) ha2 hv2 (by omega)
      have LG := LG.gr (n' := 49 + (3 + m) + 1 + 1) ha2 hv2 (by omega)
      refine aw_widen (k := 2222 + 200 * t) (n9 := 22221 + 2000 * t) (by omega) (by omega) ?_
      refine aw_astore C dL_law_106 St8 rfl ?_
      refine aw_iconst C dL_law_108 (x := nI 0) (by decide) ?_
      refine aw_istore C dL_law_109 St9 rfl ?_
      refine aw_iconst C dL_law_111 (x := nI 0) (by decide) ?_
      refine aw_istore C dL_law_112 St10 rfl ?_
      refine aw_iconst C dL_law_114 (x := nI 0) (by decide) ?_
      refine aw_istore C dL_law_115 St11 rfl ?_
      refine aw_iconst C dL_law_117 (x := nI 0) (by decide) ?_
      refine aw_istore C dL_law_118 St12 rfl ?_
      refine aw_iconst C dL_law_120 (x := nI 0) (by decide) ?_
      refine aw_istore C dL_law_121 St13 rfl ?_
      refine aw_iconst C dL_law_123 (x := nI 0) (by decide) ?_
      refine aw_istore C dL_law_124 St14 rfl ?_
      have h442 : ∀ (vv : Nat → va_E) (ig ir : Nat → Int32), (Cl cI cR (49 + (3 + m) + 1 + 1) a2 vv ac σ) → (SimV cI cJ (49 + (3 + m) + 1 + 1) a2 vv bs m h L) → (Ar cZ (49 + (3 + m) + 1 + 1) a2 vv (49 + (3 + m)) (a1 (49 + (3 + m))) m ig) → (Ar cI (49 + (3 + m) + 1 + 1) a2 vv (49 + (3 + m) + 1) (a2 (49 + (3 + m) + 1)) (m + 1) ir) → (∀ q, (∀ i, i < m → GN h m L i ≠ q) → ig q = 0) → (∀ q, ir q = nI (fb_ct (fun i => decide (RDn h m L i = q)) m)) → aW p l e room_1 s mI args below meth c Q D A (2222 + 200 * t) (22221 + 2000 * t) (49 + (3 + m) + 1 + 1) a2 vv 126 [some (.ref b9), some (.ref (ac 44)), some (.ref bs), some (.int (nI t)), none, some (.int (nI m)), some (.int (nI (rn (TL h m L) (t0A m) m))), some (.ref (a1 (49 + (3 + m)))), some (.ref (a2 (49 + (3 + m) + 1))), some (.int (nI (fb_ct (anP m h L) m))), some (.int (rSum (fun k => rkP h L k (gF m h L k)) m)), some (.int (rMax (FZ (TL h m L) (t0A m) m) m)), some (.int (rSum (FD (TL h m L) (t0A m) m) m)), some (.int (nI (sumN (wtS (TL h m L) (t0A m) (rn (TL h m L) (t0A m) m)) m))), some (.int (nI m)), none, none, none, none, none, none] [] := by
        intro vv ig ir K SS LG IR hig hir
        obtain ⟨mo, me⟩ := mean_two WL (by omega)
        have hrm5 := rm_le (T := TL h m L) (t0 := t0A m) (n := m) t0A_ok hm (rn (TL h m L) (t0A m) m)
        have hsum := wtS_sum (T := TL h m L) (t0 := t0A m) (n := m) t0A_ok (rn (TL h m L) (t0A m) m)
        have h672 : ∀ (n2 : Nat) (a5 : Nat → Nat) (v5 : Nat → va_E) (σ5 : CS) (h5 : Nat → Nat) (L5 : Nat → List Nat), Cl cI cR n2 a5 v5 ac σ5 → SimV cI cJ n2 a5 v5 bs m h5 L5 → HInv σ5 m h5 L5 → aW p l e room_1 s mI args below meth c Q D A (2300 + 200 * t) (23000 + 2000 * t) (n2) a5 v5 672 [some (.ref b9), some (.ref (ac 44)), some (.ref bs), some (.int (nI t)), none, none, none, none, none, none, none, none, none, none, none, none, none, none, none, none, none] [] := by
          intro n2 a5 v5 σ5 h5 L5 K5 S5 H5
          refine aw_iinc C dL_law_672 Lk3 (nI_1 _) St3 rfl ?_
          refine aw_goto C dL_law_675 (tgt := 22) (by decide) ?_
          refine aW_drop (n' := 49 + (3 + m)) S5.1.1 ?_
          exact aw_widen (by omega) (by omega) (ih (t + 1) (by omega) (49 + (3 + m)) a5 v5 σ5 m h5 L5 hm0 ⟨rfl, K5.dr (by omega), S5.2, S5.1.2, H5⟩)
        have h531 : aW p l e room_1 s mI args below meth c Q D A (2222 + 200 * t) (22221 + 2000 * t) (49 + (3 + m) + 1 + 1) a2 vv 531 [some (.ref b9), some (.ref (ac 44)), some (.ref bs), some (.int (nI t)), none, some (.int (nI m)), none, none, none, some (.int (nI (fb_ct (anP m h L) m))), none, none, none, none, none, none, none, none, none, none, none] [] := by
          by_cases h43 : t % 4 = 3
          · skip
            refine aw_iload_n C dL_law_531 Lk3 ?_
            refine aw_iconst C dL_law_532 (x := nI 4) (by decide) ?_
            refine aw_irem C dL_law_533 (by decide) ?_
            rw [pk_rem (by omega) (by decide) (by decide), h43]
            refine aw_iconst C dL_law_534 (x := nI 3) (by decide) ?_
            refine aw_icmp_eq C dL_law_535 (tgt := 541) (by decide) (fun c_535 => ?_) (fun c_535 => absurd rfl c_535)
            refine aw_iload C dL_law_541 Lk5 ?_
            refine bw_ni C (by decide +kernel) (by omega) (by show 2222 + 200 * t + 1 ≤ 600130; omega) (by show 22221 + 2000 * t + m ≤ 7301080; omega) dL_law_543 (fun a3 v3 ha3 hv3 Ge => ?_)
            have K := K.gr (n' := 49 + (3 + m) + 1 + 1 + 1) ha3 hv3 (by omega)
            have SS := SS.gr (n' := 49 + (3 + m) + 1 + 1 + 1) ha3 hv3 (by omega)
            refine aw_astore C dL_law_545 St14 rfl ?_
            refine aw_iload C dL_law_547 Lk5 ?_
            refine bw_ni C (by decide +kernel) (by omega) (by show 2222 + 200 * t + 1 + 1 ≤ 600130; omega) (by show 22221 + 2000 * t + m + m ≤ 7301080; omega) dL_law_549 (fun a4 v4 ha4 hv4 Le => ?_)
            have K := K.gr (n' := 49 + (3 + m) + 1 + 1 + 1 + 1) ha4 hv4 (by omega)
            have SS := SS.gr (n' := 49 + (3 + m) + 1 + 1 + 1 + 1) ha4 hv4 (by omega)
            have Ge := Ge.gr (n' := 49 + (3 + m) + 1 + 1 + 1 + 1) ha4 hv4 (by omega)
            refine aw_widen (k := 2224 + 200 * t) (n9 := 22241 + 2000 * t) (by omega) (by omega) ?_
            refine aw_astore C dL_law_551 St15 rfl ?_
            refine aw_iconst C dL_law_553 (x := nI 0) (by decide) ?_
            refine aw_istore C dL_law_554 St16 rfl ?_
            have hg : ∀ (j k : Nat), k + j = m → ∀ (vv : Nat → va_E) (ge le : Nat → Int32), (Cl cI cR (49 + (3 + m) + 1 + 1 + 1 + 1) a4 vv ac σ) → (SimV cI cJ (49 + (3 + m) + 1 + 1 + 1 + 1) a4 vv bs m h L) → (Ar cI (49 + (3 + m) + 1 + 1 + 1 + 1) a4 vv (49 + (3 + m) + 1 + 1) (a3 (49 + (3 + m) + 1 + 1)) m ge) → (Ar cI (49 + (3 + m) + 1 + 1 + 1 + 1) a4 vv (49 + (3 + m) + 1 + 1 + 1) (a4 (49 + (3 + m) + 1 + 1 + 1)) m le) → (∀ q, q < k → ge q = nI (GN h m L q)) → (∀ q, q < k → le q = nI (mvL h m L q).length) → aW p l e room_1 s mI args below meth c Q D A (2224 + 200 * t) (22241 + 2000 * t) (49 + (3 + m) + 1 + 1 + 1 + 1) a4 vv 556 [some (.ref b9), some (.ref (ac 44)), some (.ref bs), some (.int (nI t)), none, some (.int (nI m)), none, none, none, some (.int (nI (fb_ct (anP m h L) m))), none, none, none, none, some (.ref (a3 (49 + (3 + m) + 1 + 1))), some (.ref (a4 (49 + (3 + m) + 1 + 1 + 1))), some (.int (nI k)), none, none, none, none] [] := by
              intro j
              induction j with
              | zero =>
                intro k hk vv ge le K SS Ge Le hge hle
                obtain ⟨σ', H', hMc⟩ := f_move (l := l) (D := D) (cI := cI) (cZ := cZ) (cR := cR) (cJ := cJ) (a := ac) H
                refine aw_iload C dL_law_556 Lk16 ?_
                refine aw_iload C dL_law_558 Lk5 ?_
                refine aw_icmp_ge C dL_law_560 (tgt := 593) (by decide) (fun c_560 => ?_) (fun c_560 => absurd (nI_le (by omega) (by omega)) c_560)
                refine aw_aload_n C dL_law_593 Lk1 ?_
                refine aw_clm0 C dL_law_594 gL_law_X3_move sX3_move (rm := rmX3_move) (aChk_mk rfl (by show 2224 + 200 * t + 0 ≤ 600130; omega) (by show 22241 + 2000 * t + 0 ≤ 7301080; omega)) K hMc (fun w5 K hw5 => ?_)
                refine aw_iload C dL_law_597 Lk9 ?_
                refine aw_icmp_eq C dL_law_599 (tgt := 604) (by decide) (fun c_599 => ?_) (fun c_599 => absurd rfl c_599)
                refine aw_aload_n C dL_law_604 Lk2 ?_
                have SW : SimAt cI cJ (3 + m) (fun k => a4 (49 + k)) (fun k => w5 (49 + k)) m h L := SS.1.2.is (fun _ => rfl) (fun k => hw5 _ (by omega)) rfl
                have hK := c_X4_move (l := l) (D := D) (cZ := cZ) (cR := cR) WL SW
                rw [show a4 (49 + 0) = bs from SS.2] at hK
                have SV5 : SimV cI cJ (49 + (3 + m) + 1 + 1 + 1 + 1) a4 w5 bs m h L := ⟨⟨by omega, SW⟩, SS.2⟩
                have Ge := Ge.at (n' := 49 + (3 + m) + 1 + 1 + 1 + 1) (a' := a4) (v' := w5) (by omega) rfl (hw5 _ (by omega))
                have Le := Le.at (n' := 49 + (3 + m) + 1 + 1 + 1 + 1) (a' := a4) (v' := w5) (by omega) rfl (hw5 _ (by omega))
                refine gw_blV0 (o := 49) (mN := 3 + m) (rm := rmX4_move) (mc := 40) (ms := 400) CA gA_H dL_law_605 gL_law_X4_move sX4_move (aChk_mk rfl (by show 2224 + 200 * t + 40 ≤ 600130; omega) (by show 22241 + 2000 * t + 400 ≤ 7301080; omega)) (by omega) (fun r n' a' v' h9 => by have := h9.2.1; omega) SV5.rec2 hK (fun r n6 a6 v6 hp => ?_)
                obtain ⟨rfl, rfl, ha0, S6⟩ := hp
                rw [show 49 + (3 + m) + 1 + 1 + 1 + 1 + (3 + m - (3 + m)) = 49 + (3 + m) + 1 + 1 + 1 + 1 by omega]
                have K6 : Cl cI cR (49 + (3 + m) + 1 + 1 + 1 + 1) (blF 49 (3 + m) (49 + (3 + m) + 1 + 1 + 1 + 1) a4 a6) (blF 49 (3 + m) (49 + (3 + m) + 1 + 1 + 1 + 1) w5 v6) ac σ' := ⟨by omega, fun k hk => (blF_out (by omega) (Or.inl hk)).trans (K.2.1 k hk), fun k hk => (blF_out (by omega) (Or.inl hk)).trans (K.2.2 k hk)⟩
                have S7 : SimV cI cJ (49 + (3 + m) + 1 + 1 + 1 + 1) (blF 49 (3 + m) (49 + (3 + m) + 1 + 1 + 1 + 1) a4 a6) (blF 49 (3 + m) (49 + (3 + m) + 1 + 1 + 1 + 1) w5 v6) bs m (GN h m L) (mvL h m L) := ⟨⟨by omega, S6.to (Nat.le_refl _) (fun k hk => blF_in hk (by omega)) (fun k hk => blF_in hk (by omega))⟩, by
                  have h9 : blF 49 (3 + m) (49 + (3 + m) + 1 + 1 + 1 + 1) a4 a6 (49 + 0) = a6 0 := blF_in (by omega) (by omega)
                  exact h9.trans ha0⟩
                have Ge := Ge.at (n' := 49 + (3 + m) + 1 + 1 + 1 + 1) (a' := (blF 49 (3 + m) (49 + (3 + m) + 1 + 1 + 1 + 1) a4 a6)) (v' := (blF 49 (3 + m) (49 + (3 + m) + 1 + 1 + 1 + 1) w5 v6)) (by omega) (blF_out (by omega) (Or.inr (by omega))) (blF_out (by omega) (Or.inr (by omega)))
                have Le := Le.at (n' := 49 + (3 + m) + 1 + 1 + 1 + 1) (a' := (blF 49 (3 + m) (49 + (3 + m) + 1 + 1 + 1 + 1) a4 a6)) (v' := (blF 49 (3 + m) (49 + (3 + m) + 1 + 1 + 1 + 1) w5 v6)) (by omega) (blF_out (by omega) (Or.inr (by omega))) (blF_out (by omega) (Or.inr (by omega)))
                generalize (blF 49 (3 + m) (49 + (3 + m) + 1 + 1 + 1 + 1) a4 a6) = a7 at K6 S7 Ge Le ⊢
                generalize (blF 49 (3 + m) (49 + (3 + m) + 1 + 1 + 1 + 1) w5 v6) = v7 at K6 S7 Ge Le ⊢
                refine aw_pop C dL_law_608 rfl ?_
                refine aw_iconst C dL_law_609 (x := nI 0) (by decide) ?_
                refine aw_istore C dL_law_610 St16 rfl ?_
                have hmv : ∀ (j q : Nat), q + j = m → aW p l e room_1 s mI args below meth c Q D A (2224 + 200 * t + 40) (22241 + 2000 * t + 400) (49 + (3 + m) + 1 + 1 + 1 + 1) a7 v7 612 [some (.ref b9), some (.ref (ac 44)), some (.ref bs), some (.int (nI t)), none, some (.int (nI m)), none, none, none, some (.int (nI (fb_ct (anP m h L) m))), none, none, none, none, some (.ref (a3 (49 + (3 + m) + 1 + 1))), some (.ref (a4 (49 + (3 + m) + 1 + 1 + 1))), some (.int (nI q)), none, none, none, none] [] := by
                  intro j
                  induction j with
                  | zero =>
                    intro q hq
                    refine aw_iload C dL_law_612 Lk16 ?_
                    refine aw_iload C dL_law_614 Lk5 ?_
                    refine aw_icmp_ge C dL_law_616 (tgt := 672) (by decide) (fun c_616 => ?_) (fun c_616 => absurd (nI_le (by omega) (by omega)) c_616)
                    exact aw_widen (by omega) (by omega) (aW_wk (h672 _ a7 v7 σ' _ _ K6 S7 H') (Wk.k (Wk.k (Wk.k (Wk.k (Wk.d (Wk.d (Wk.d (Wk.d (Wk.d (Wk.d (Wk.d (Wk.d (Wk.d (Wk.d (Wk.d (Wk.d (Wk.d (Wk.d (Wk.d (Wk.d (Wk.d Wk.n))))))))))))))))))))))
                  | succ j ihq =>
                    intro q hq
                    have hqm : q < m := by omega
                    have hst := st_same WL hqm
                    refine aw_iload C dL_law_612 Lk16 ?_
                    refine aw_iload C dL_law_614 Lk5 ?_
                    refine aw_icmp_ge C dL_law_616 (tgt := 672) (by decide) (fun c_616 => absurd c_616 (nI_ge hqm (by omega))) (fun c_616 => ?_)
                    refine aw_aload_n C dL_law_619 Lk1 ?_
                    refine aw_iload C dL_law_620 Lk16 ?_
                    refine aw_iconst C dL_law_622 (x := nI 0) (by decide) ?_
                    refine aw_clr2 C dL_law_623 gL_law_X3_told sX3_told (rm := rmX3_told) (aChk_mk rfl (by show 2224 + 200 * t + 40 + 0 ≤ 600130; omega) (by show 22241 + 2000 * t + 400 + 0 ≤ 7301080; omega)) K6 (f_told H' hqm (w := 0) (by decide)) ?_
                    rw [show toP m (GN h m L) (mvL h m L) q 0 = nI (GN h m L q) from rfl]
                    refine aw_aload C dL_law_626 Lk14 ?_
                    refine aw_iload C dL_law_628 Lk16 ?_
                    refine aw_il C Ge hqm dL_law_630 ?_
                    rw [hge q (by omega)]
                    refine aw_icmp_ne C dL_law_631 (tgt := 664) (by decide) (fun c_631 => absurd c_631 (fun z => z rfl)) (fun c_631 => ?_)
                    refine aw_aload_n C dL_law_634 Lk1 ?_
                    refine aw_iload C dL_law_635 Lk16 ?_
                    refine aw_iconst C dL_law_637 (x := nI 1) (by decide) ?_
                    refine aw_clr2 C dL_law_638 gL_law_X3_told sX3_told (rm := rmX3_told) (aChk_mk rfl (by show 2224 + 200 * t + 40 + 0 ≤ 600130; omega) (by show 22241 + 2000 * t + 400 + 0 ≤ 7301080; omega)) K6 (f_told H' hqm (w := 1) (by decide)) ?_
                    rw [show toP m (GN h m L) (mvL h m L) q 1 = nI (mvL h m L q).length from rfl]
                    refine aw_aload C dL_law_641 Lk15 ?_
                    refine aw_iload C dL_law_643 Lk16 ?_
                    refine aw_il C Le hqm dL_law_645 ?_
                    rw [hle q (by omega)]
                    refine aw_icmp_ne C dL_law_646 (tgt := 664) (by decide) (fun c_646 => absurd c_646 (fun z => z rfl)) (fun c_646 => ?_)
                    refine aw_aload_n C dL_law_649 Lk1 ?_
                    refine aw_iload C dL_law_650 Lk16 ?_
                    refine aw_iconst C dL_law_652 (x := nI 2) (by decide) ?_
                    refine aw_clr2 C dL_law_653 gL_law_X3_told sX3_told (rm := rmX3_told) (aChk_mk rfl (by show 2224 + 200 * t + 40 + 0 ≤ 600130; omega) (by show 22241 + 2000 * t + 400 + 0 ≤ 7301080; omega)) K6 (f_told H' hqm (w := 2) (by decide)) ?_
                    rw [show toP m (GN h m L) (mvL h m L) q 2 = nI (GN h m L q) from hst]
                    refine aw_aload C dL_law_656 Lk14 ?_
                    refine aw_iload C dL_law_658 Lk16 ?_
                    refine aw_il C Ge hqm dL_law_660 ?_
                    rw [hge q (by omega)]
                    refine aw_icmp_eq C dL_law_661 (tgt := 666) (by decide) (fun c_661 => ?_) (fun c_661 => absurd rfl c_661)
                    refine aw_iinc C dL_law_666 Lk16 (nI_1 _) St16 rfl ?_
                    refine aw_goto C dL_law_669 (tgt := 612) (by decide) ?_
                    exact ihq (q + 1) (by omega)
                exact hmv m 0 (by omega)
              | succ j ihg =>
                intro k hk vv ge le K SS Ge Le hge hle
                have hkm : k < m := by omega
                refine aw_iload C dL_law_556 Lk16 ?_
                refine aw_iload C dL_law_558 Lk5 ?_
                refine aw_icmp_ge C dL_law_560 (tgt := 593) (by decide) (fun c_560 => absurd c_560 (nI_ge hkm (by omega))) (fun c_560 => ?_)
                refine aw_aload C dL_law_563 Lk14 ?_
                refine aw_iload C dL_law_565 Lk16 ?_
                refine aw_aload_n C dL_law_567 Lk1 ?_
                refine aw_iload C dL_law_568 Lk16 ?_
                refine aw_iconst C dL_law_570 (x := nI 2) (by decide) ?_
                refine aw_clr2 C dL_law_571 gL_law_X3_told sX3_told (rm := rmX3_told) (aChk_mk rfl (by show 2224 + 200 * t + 0 ≤ 600130; omega) (by show 22241 + 2000 * t + 0 ≤ 7301080; omega)) K (f_told H hkm (w := 2) (by decide)) ?_
                rw [show toP m h L k 2 = nI (GN h m L k) from (hGF k hkm).1]
                refine bw_is C Ge hkm dL_law_574 (fun y1 hy1 Ge => ?_)
                have K := K.sv hy1 (by omega)
                have SS := SS.sv hy1 (by omega)
                have Le := Le.sv hy1 (by omega)
                refine aw_aload C dL_law_575 Lk15 ?_
                refine aw_iload C dL_law_577 Lk16 ?_
                refine aw_aload_n C dL_law_579 Lk1 ?_
                refine aw_iload C dL_law_580 Lk16 ?_
                refine aw_iconst C dL_law_582 (x := nI 5) (by decide) ?_
                refine aw_clr2 C dL_law_583 gL_law_X3_told sX3_told (rm := rmX3_told) (aChk_mk rfl (by show 2224 + 200 * t + 0 ≤ 600130; omega) (by show 22241 + 2000 * t + 0 ≤ 7301080; omega)) K (f_told H hkm (w := 5) (by decide)) ?_
                rw [show toP m h L k 5 = nI (mvL h m L k).length from rk_len WL hkm]
                refine bw_is C Le hkm dL_law_586 (fun y2 hy2 Le => ?_)
                have K := K.sv hy2 (by omega)
                have SS := SS.sv hy2 (by omega)
                have Ge := Ge.sv hy2 (by omega)
                refine aw_iinc C dL_law_587 Lk16 (nI_1 _) St16 rfl ?_
                refine aw_goto C dL_law_590 (tgt := 556) (by decide) ?_
                exact ihg (k + 1) (by omega) y2 _ _ K SS Ge Le (fun q hq => by
                  by_cases c : q = k
                  · subst c; rw [pk_us]
                  · rw [pk_un c]; exact hge q (by omega)) (fun q hq => by
                  by_cases c : q = k
                  · subst c; rw [pk_us]
                  · rw [pk_un c]; exact hle q (by omega))
            exact aW_wk (hg m 0 (by omega) v4 _ _ K SS Ge Le (fun q hq => absurd hq (by omega)) (fun q hq => absurd hq (by omega))) (Wk.k (Wk.k (Wk.k (Wk.k (Wk.d (Wk.k (Wk.d (Wk.d (Wk.d (Wk.k (Wk.d (Wk.d (Wk.d (Wk.d (Wk.k (Wk.k (Wk.k (Wk.d (Wk.d (Wk.d (Wk.d Wk.n)))))))))))))))))))))
          · skip
            refine aw_iload_n C dL_law_531 Lk3 ?_
            refine aw_iconst C dL_law_532 (x := nI 4) (by decide) ?_
            refine aw_irem C dL_law_533 (by decide) ?_
            rw [pk_rem (by omega) (by decide) (by decide)]
            refine aw_iconst C dL_law_534 (x := nI 3) (by decide) ?_
            refine aw_icmp_eq C dL_law_535 (tgt := 541) (by decide) (fun c_535 => absurd c_535 (fun z => h43 (nI_inj (by omega) (by omega) z))) (fun c_535 => ?_)
            refine aw_goto C dL_law_538 (tgt := 672) (by decide) ?_
            exact aw_widen (by omega) (by omega) (aW_wk (h672 _ a2 vv σ h L K SS H) (Wk.k (Wk.k (Wk.k (Wk.k (Wk.d (Wk.d (Wk.d (Wk.d (Wk.d (Wk.d (Wk.d (Wk.d (Wk.d (Wk.d (Wk.d (Wk.d (Wk.d (Wk.d (Wk.d (Wk.d (Wk.d Wk.n))))))))))))))))))))))
        have h468 : aW p l e room_1 s mI args below meth c Q D A (2222 + 200 * t) (22221 + 2000 * t) (49 + (3 + m) + 1 + 1) a2 vv 468 [some (.ref b9), some (.ref (ac 44)), some (.ref bs), some (.int (nI t)), none, some (.int (nI m)), some (.int (nI (rn (TL h m L) (t0A m) m))), some (.ref (a1 (49 + (3 + m)))), some (.ref (a2 (49 + (3 + m) + 1))), some (.int (nI (fb_ct (anP m h L) m))), some (.int (rSum (fun k => rkP h L k (gF m h L k)) m)), some (.int (rMax (FZ (TL h m L) (t0A m) m) m)), some (.int (rSum (FD (TL h m L) (t0A m) m) m)), some (.int (nI (sumN (wtS (TL h m L) (t0A m) (rn (TL h m L) (t0A m) m)) m))), none, none, none, none, none, none, none] [] := by
          refine aw_aload_n C dL_law_468 Lk1 ?_
          refine aw_iconst C dL_law_469 (x := nI 3) (by decide) ?_
          refine aw_clr1 C dL_law_470 gL_law_X3_count sX3_count (rm := rmX3_count) (aChk_mk rfl (by show 2222 + 200 * t + 0 ≤ 600130; omega) (by show 22221 + 2000 * t + 0 ≤ 7301080; omega)) K (f_count H (w := 3) (by decide)) ?_
          refine aw_iload C dL_law_473 Lk9 ?_
          refine aw_icmp_ne C dL_law_475 (tgt := 513) (by decide) (fun c_475 => absurd c_475 (fun z => z rfl)) (fun c_475 => ?_)
          refine aw_aload_n C dL_law_478 Lk1 ?_
          refine aw_iconst C dL_law_479 (x := nI 4) (by decide) ?_
          refine aw_clr1 C dL_law_480 gL_law_X3_count sX3_count (rm := rmX3_count) (aChk_mk rfl (by show 2222 + 200 * t + 0 ≤ 600130; omega) (by show 22221 + 2000 * t + 0 ≤ 7301080; omega)) K (f_count H (w := 4) (by decide)) ?_
          refine aw_iload C dL_law_483 Lk10 ?_
          refine aw_icmp_ne C dL_law_485 (tgt := 513) (by decide) (fun c_485 => absurd c_485 (fun z => z rfl)) (fun c_485 => ?_)
          refine aw_aload_n C dL_law_488 Lk1 ?_
          refine aw_iconst C dL_law_489 (x := nI 5) (by decide) ?_
          refine aw_clr1 C dL_law_490 gL_law_X3_count sX3_count (rm := rmX3_count) (aChk_mk rfl (by show 2222 + 200 * t + 0 ≤ 600130; omega) (by show 22221 + 2000 * t + 0 ≤ 7301080; omega)) K (f_count H (w := 5) (by decide)) ?_
          refine aw_iload C dL_law_493 Lk11 ?_
          refine aw_icmp_ne C dL_law_495 (tgt := 513) (by decide) (fun c_495 => absurd c_495 (fun z => z rfl)) (fun c_495 => ?_)
          refine aw_aload_n C dL_law_498 Lk1 ?_
          refine aw_clr0 C dL_law_499 gL_law_X3_mean sX3_mean (rm := rmX3_mean) (aChk_mk rfl (by show 2222 + 200 * t + 0 ≤ 600130; omega) (by show 22221 + 2000 * t + 0 ≤ 7301080; omega)) K (f_mean H) ?_
          refine aw_iload C dL_law_502 Lk12 ?_
          refine aw_i2d C dL_law_504 ?_
          refine aw_iload C dL_law_505 Lk5 ?_
          refine aw_i2d C dL_law_507 ?_
          refine aw_ddiv C dL_law_508 mo ?_
          refine aw_dcmp C dL_law_509 ?_
          refine aw_if_eq C dL_law_510 (tgt := 515) (by decide) (fun c_510 => ?_) (fun c_510 => absurd me c_510)
          refine aw_aload_n C dL_law_515 Lk1 ?_
          refine aw_iconst C dL_law_516 (x := nI 2) (by decide) ?_
          refine aw_clr1 C dL_law_517 gL_law_X3_count sX3_count (rm := rmX3_count) (aChk_mk rfl (by show 2222 + 200 * t + 0 ≤ 600130; omega) (by show 22221 + 2000 * t + 0 ≤ 7301080; omega)) K (f_count H (w := 2) (by decide)) ?_
          refine aw_iload C dL_law_520 Lk13 ?_
          refine aw_sipush C dL_law_522 (x := nI 2520) (by decide) ?_
          refine aw_idiv C dL_law_525 (by decide) ?_
          rw [hsum, pk_div (by omega) (by decide) (by decide), Nat.mul_div_cancel_left _ (by decide)]
          refine aw_icmp_eq C dL_law_526 (tgt := 531) (by decide) (fun c_526 => ?_) (fun c_526 => absurd rfl c_526)
          exact aW_wk h531 (Wk.k (Wk.k (Wk.k (Wk.k (Wk.d (Wk.k (Wk.d (Wk.d (Wk.d (Wk.k (Wk.d (Wk.d (Wk.d (Wk.d (Wk.d (Wk.d (Wk.d (Wk.d (Wk.d (Wk.d (Wk.d Wk.n)))))))))))))))))))))
        have h445 : ∀ (j r : Nat), r + j = (rn (TL h m L) (t0A m) m) + 1 → 1 ≤ r → aW p l e room_1 s mI args below meth c Q D A (2222 + 200 * t) (22221 + 2000 * t) (49 + (3 + m) + 1 + 1) a2 vv 445 [some (.ref b9), some (.ref (ac 44)), some (.ref bs), some (.int (nI t)), none, some (.int (nI m)), some (.int (nI (rn (TL h m L) (t0A m) m))), some (.ref (a1 (49 + (3 + m)))), some (.ref (a2 (49 + (3 + m) + 1))), some (.int (nI (fb_ct (anP m h L) m))), some (.int (rSum (fun k => rkP h L k (gF m h L k)) m)), some (.int (rMax (FZ (TL h m L) (t0A m) m) m)), some (.int (rSum (FD (TL h m L) (t0A m) m) m)), some (.int (nI (sumN (wtS (TL h m L) (t0A m) (rn (TL h m L) (t0A m) m)) m))), some (.int (nI r)), none, none, none, none, none, none] [] := by
          intro j
          induction j with
          | zero =>
            intro r hr h1
            refine aw_iload C dL_law_445 Lk14 ?_
            refine aw_iload C dL_law_447 Lk6 ?_
            refine aw_icmp_gt C dL_law_449 (tgt := 468) (by decide) (fun c_449 => ?_) (fun c_449 => absurd (nI_lt (by omega) (by omega)) c_449)
            exact aW_wk h468 (Wk.k (Wk.k (Wk.k (Wk.k (Wk.k (Wk.k (Wk.k (Wk.k (Wk.k (Wk.k (Wk.k (Wk.k (Wk.k (Wk.k (Wk.d (Wk.d (Wk.d (Wk.d (Wk.d (Wk.d (Wk.d Wk.n)))))))))))))))))))))
          | succ j ihr =>
            intro r hr h1
            obtain ⟨q, hc⟩ := rn_some WL (r := r - 1) (by omega)
            obtain ⟨hqm, -⟩ := cl_told WL hc
            have hRD := RDn_of WL hc
            have hcp : 0 < fb_ct (fun i => decide (RDn h m L i = r)) m := fb_ct_pos.mpr ⟨q, hqm, decide_eq_true (by omega)⟩
            have hcl := fb_ct_le (fun i => decide (RDn h m L i = r)) m
            refine aw_iload C dL_law_445 Lk14 ?_
            refine aw_iload C dL_law_447 Lk6 ?_
            refine aw_icmp_gt C dL_law_449 (tgt := 468) (by decide) (fun c_449 => absurd c_449 (nI_nlt (by omega) (by omega))) (fun c_449 => ?_)
            refine aw_aload C dL_law_452 Lk8 ?_
            refine aw_iload C dL_law_454 Lk14 ?_
            refine aw_il C IR (by omega) dL_law_456 ?_
            rw [hir r]
            refine aw_if_ne C dL_law_457 (tgt := 462) (by decide) (fun c_457 => ?_) (fun c_457 => absurd (nI_ne0 hcp (by omega)) c_457)
            refine aw_iinc C dL_law_462 Lk14 (nI_1 _) St14 rfl ?_
            refine aw_goto C dL_law_465 (tgt := 445) (by decide) ?_
            exact ihr (r + 1) (by omega) (by omega)
        refine aw_iload C dL_law_126 Lk14 ?_
        refine aw_iload C dL_law_128 Lk5 ?_
        refine aw_icmp_ge C dL_law_130 (tgt := 442) (by decide) (fun c_130 => ?_) (fun c_130 => absurd (nI_le (Nat.le_refl m) (by omega)) c_130)
        refine aw_iconst C dL_law_442 (x := nI 1) (by decide) ?_
        refine aw_istore C dL_law_443 St14 rfl ?_
        exact h445 (rn (TL h m L) (t0A m) m) 1 (by omega) (Nat.le_refl 1)
      have hk : ∀ (j k : Nat), k + j = m → ∀ (vv : Nat → va_E) (ig ir : Nat → Int32), (Cl cI cR (49 + (3 + m) + 1 + 1) a2 vv ac σ) → (SimV cI cJ (49 + (3 + m) + 1 + 1) a2 vv bs m h L) → (Ar cZ (49 + (3 + m) + 1 + 1) a2 vv (49 + (3 + m)) (a1 (49 + (3 + m))) m ig) → (Ar cI (49 + (3 + m) + 1 + 1) a2 vv (49 + (3 + m) + 1) (a2 (49 + (3 + m) + 1)) (m + 1) ir) → (∀ q, (∀ i, i < k → GN h m L i ≠ q) → ig q = 0) → (∀ q, ir q = nI (fb_ct (fun i => decide (RDn h m L i = q)) k)) → aW p l e room_1 s mI args below meth c Q D A (2222 + 200 * t) (22221 + 2000 * t) (49 + (3 + m) + 1 + 1) a2 vv 126 [some (.ref b9), some (.ref (ac 44)), some (.ref bs), some (.int (nI t)), none, some (.int (nI m)), some (.int (nI (rn (TL h m L) (t0A m) m))), some (.ref (a1 (49 + (3 + m)))), some (.ref (a2 (49 + (3 + m) + 1))), some (.int (nI (fb_ct (anP m h L) k))), some (.int (rSum (fun k => rkP h L k (gF m h L k)) k)), some (.int (rMax (FZ (TL h m L) (t0A m) m) k)), some (.int (rSum (FD (TL h m L) (t0A m) m) k)), some (.int (nI (sumN (wtS (TL h m L) (t0A m) (rn (TL h m L) (t0A m) m)) k))), some (.int (nI k)), none, none, none, none, none, none] [] := by
        intro j
        induction j with
        | zero =>
          intro k hk vv ig ir K SS LG IR hig hir
          have hkm : k = m := by omega
          rw [hkm] at hig hir ⊢
          exact h442 vv ig ir K SS LG IR hig hir
        | succ j ihk =>
          intro k hk vv ig ir K SS LG IR hig hir
          have hkm : k < m := by omega
          obtain ⟨r, hc⟩ := cl_all WL hkm
          obtain ⟨-, g2, g3, g4, g5, g6, g7, g8, g9⟩ := cl_told WL hc
          have hth := clR_th hc
          obtain ⟨hG1, hG2⟩ := hGF k hkm
          have hRD := RDn_of WL hc
          obtain ⟨wt1, wt2⟩ := wtS_of hc (rn (TL h m L) (t0A m) m) g2
          have hown := cl_own WL hc
          have hrn10 := rn_le (T := TL h m L) (t0 := t0A m) (n := m)
          have hmx : (if rMax (FZ (TL h m L) (t0A m) m) k < nI (cyR (TL h m L) (t0A m) r k) then nI (cyR (TL h m L) (t0A m) r k) else rMax (FZ (TL h m L) (t0A m) m) k) = rMax (FZ (TL h m L) (t0A m) m) (k + 1) := by rw [rMax, g6]
          have hsm : rSum (FD (TL h m L) (t0A m) m) k + nI (r + 1) = rSum (FD (TL h m L) (t0A m) m) (k + 1) := by rw [rSum, g5]
          have higk : ig (GN h m L k) = 0 := hig _ (fun i hi => GN_inj WL hi hkm)
          have hcle := fb_ct_le (fun i => decide (RDn h m L i = r + 1)) k
          refine aw_iload C dL_law_126 Lk14 ?_
          refine aw_iload C dL_law_128 Lk5 ?_
          refine aw_icmp_ge C dL_law_130 (tgt := 442) (by decide) (fun c_130 => absurd c_130 (nI_ge hkm (by omega))) (fun c_130 => ?_)
          refine aw_aload_n C dL_law_133 Lk1 ?_
          refine aw_iload C dL_law_134 Lk14 ?_
          refine aw_iconst C dL_law_136 (x := nI 2) (by decide) ?_
          refine aw_clr2 C dL_law_137 gL_law_X3_told sX3_told (rm := rmX3_told) (aChk_mk rfl (by show 2222 + 200 * t + 0 ≤ 600130; omega) (by show 22221 + 2000 * t + 0 ≤ 7301080; omega)) K (f_told H hkm (w := 2) (by decide)) ?_
          rw [show toP m h L k 2 = nI (GN h m L k) from hG1]
          refine aw_istore C dL_law_140 St15 rfl ?_
          refine aw_aload_n C dL_law_142 Lk1 ?_
          refine aw_iload C dL_law_143 Lk14 ?_
          refine aw_iconst C dL_law_145 (x := nI 3) (by decide) ?_
          refine aw_clr2 C dL_law_146 gL_law_X3_told sX3_told (rm := rmX3_told) (aChk_mk rfl (by show 2222 + 200 * t + 0 ≤ 600130; omega) (by show 22221 + 2000 * t + 0 ≤ 7301080; omega)) K (f_told H hkm (w := 3) (by decide)) ?_
          rw [show toP m h L k 3 = nI (r + 1) from g5]
          refine aw_istore C dL_law_149 St16 rfl ?_
          refine aw_aload_n C dL_law_151 Lk1 ?_
          refine aw_iload C dL_law_152 Lk14 ?_
          refine aw_iconst C dL_law_154 (x := nI 4) (by decide) ?_
          refine aw_clr2 C dL_law_155 gL_law_X3_told sX3_told (rm := rmX3_told) (aChk_mk rfl (by show 2222 + 200 * t + 0 ≤ 600130; omega) (by show 22221 + 2000 * t + 0 ≤ 7301080; omega)) K (f_told H hkm (w := 4) (by decide)) ?_
          rw [show toP m h L k 4 = nI (cyR (TL h m L) (t0A m) r k) from g6]
          refine aw_istore C dL_law_158 St17 rfl ?_
          refine aw_aload C dL_law_160 Lk7 ?_
          refine aw_iload C dL_law_162 Lk15 ?_
          refine aw_zl C LG hG2 dL_law_164 ?_
          rw [higk]
          refine aw_if_ne C dL_law_165 (tgt := 194) (by decide) (fun c_165 => absurd c_165 (fun z => z rfl)) (fun c_165 => ?_)
          refine aw_iload C dL_law_168 Lk16 ?_
          refine aw_iconst C dL_law_170 (x := nI 1) (by decide) ?_
          refine aw_icmp_lt C dL_law_171 (tgt := 194) (by decide) (fun c_171 => absurd c_171 (nI_nlt (by omega) (by omega))) (fun c_171 => ?_)
          refine aw_iload C dL_law_174 Lk16 ?_
          refine aw_iload C dL_law_176 Lk6 ?_
          refine aw_icmp_gt C dL_law_178 (tgt := 194) (by decide) (fun c_178 => absurd c_178 (nI_nlt (by omega) (by omega))) (fun c_178 => ?_)
          refine aw_iload C dL_law_181 Lk17 ?_
          refine aw_iconst C dL_law_183 (x := nI 1) (by decide) ?_
          refine aw_icmp_lt C dL_law_184 (tgt := 194) (by decide) (fun c_184 => absurd c_184 (nI_nlt (by omega) (by omega))) (fun c_184 => ?_)
          refine aw_iload C dL_law_187 Lk17 ?_
          refine aw_iload C dL_law_189 Lk5 ?_
          refine aw_icmp_le C dL_law_191 (tgt := 196) (by decide) (fun c_191 => ?_) (fun c_191 => absurd (nI_le g8 (by omega)) c_191)
          refine aw_aload C dL_law_196 Lk7 ?_
          refine aw_iload C dL_law_198 Lk15 ?_
          refine aw_iconst C dL_law_200 (x := nI 1) (by decide) ?_
          refine bw_zs C LG hG2 (by decide) dL_law_201 (fun y1 hy1 LG => ?_)
          have K := K.sv hy1 (by omega)
          have SS := SS.sv hy1 (by omega)
          have IR := IR.sv hy1 (by omega)
          refine aw_aload C dL_law_202 Lk8 ?_
          refine aw_iload C dL_law_204 Lk16 ?_
          refine aw_dup2 C dL_law_206 rfl rfl ?_
          refine aw_il C IR (show r + 1 < m + 1 by omega) dL_law_207 ?_
          rw [hir (r + 1)]
          refine aw_iconst C dL_law_208 (x := nI 1) (by decide) ?_
          refine aw_iadd C dL_law_209 ?_
          rw [nI_add]
          refine bw_is C IR (show r + 1 < m + 1 by omega) dL_law_210 (fun y2 hy2 IR => ?_)
          have K := K.sv hy2 (by omega)
          have SS := SS.sv hy2 (by omega)
          have LG := LG.sv hy2 (by omega)
          have hig2 : ∀ q, (∀ i, i < k + 1 → GN h m L i ≠ q) → upd ig (GN h m L k) 1 q = 0 := fun q hq => by
            rw [pk_un (fun z => hq k (by omega) z.symm)]
            exact hig q (fun i hi => hq i (by omega))
          have hir2 : ∀ q, upd ir (r + 1) (nI (fb_ct (fun i => decide (RDn h m L i = r + 1)) k + 1)) q = nI (fb_ct (fun i => decide (RDn h m L i = q)) (k + 1)) := fun q => by
            rw [fb_ct_succ]
            by_cases c : q = r + 1
            · subst c; rw [pk_us, decide_eq_true hRD]; rfl
            · rw [pk_un c, hir q, decide_eq_false (fun z => c (by omega))]; rfl
          have h433 : aW p l e room_1 s mI args below meth c Q D A (2222 + 200 * t) (22221 + 2000 * t) (49 + (3 + m) + 1 + 1) a2 y2 433 [some (.ref b9), some (.ref (ac 44)), some (.ref bs), some (.int (nI t)), none, some (.int (nI m)), some (.int (nI (rn (TL h m L) (t0A m) m))), some (.ref (a1 (49 + (3 + m)))), some (.ref (a2 (49 + (3 + m) + 1))), some (.int (nI (fb_ct (anP m h L) (k + 1)))), some (.int (rSum (fun k => rkP h L k (gF m h L k)) (k + 1))), some (.int (rMax (FZ (TL h m L) (t0A m) m) (k + 1))), some (.int (rSum (FD (TL h m L) (t0A m) m) (k + 1))), some (.int (nI (sumN (wtS (TL h m L) (t0A m) (rn (TL h m L) (t0A m) m)) k))), some (.int (nI k)), none, none, some (.int (nI (cyR (TL h m L) (t0A m) r k))), none, none, none] [.int (nI (wtR (TL h m L) (t0A m) r k)), .int (nI (sumN (wtS (TL h m L) (t0A m) (rn (TL h m L) (t0A m) m)) k))] := by
            refine aw_iadd C dL_law_433 ?_
            rw [nI_add]
            refine aw_istore C dL_law_434 St13 rfl ?_
            refine aw_iinc C dL_law_436 Lk14 (nI_1 _) St14 rfl ?_
            refine aw_goto C dL_law_439 (tgt := 126) (by decide) ?_
            have h9 := ihk (k + 1) (by omega) y2 _ _ K SS LG IR hig2 hir2
            rw [show sumN (wtS (TL h m L) (t0A m) (rn (TL h m L) (t0A m) m)) (k + 1) = sumN (wtS (TL h m L) (t0A m) (rn (TL h m L) (t0A m) m)) k + wtR (TL h m L) (t0A m) r k by rw [sumN, wt1]] at h9
            exact aW_wk h9 (Wk.k (Wk.k (Wk.k (Wk.k (Wk.k (Wk.k (Wk.k (Wk.k (Wk.k (Wk.k (Wk.k (Wk.k (Wk.k (Wk.k (Wk.k (Wk.d (Wk.d (Wk.d (Wk.d (Wk.d (Wk.d Wk.n)))))))))))))))))))))
          have h415 : aW p l e room_1 s mI args below meth c Q D A (2222 + 200 * t) (22221 + 2000 * t) (49 + (3 + m) + 1 + 1) a2 y2 415 [some (.ref b9), some (.ref (ac 44)), some (.ref bs), some (.int (nI t)), none, some (.int (nI m)), some (.int (nI (rn (TL h m L) (t0A m) m))), some (.ref (a1 (49 + (3 + m)))), some (.ref (a2 (49 + (3 + m) + 1))), some (.int (nI (fb_ct (anP m h L) (k + 1)))), some (.int (rSum (fun k => rkP h L k (gF m h L k)) (k + 1))), some (.int (rMax (FZ (TL h m L) (t0A m) m) (k + 1))), some (.int (rSum (FD (TL h m L) (t0A m) m) (k + 1))), some (.int (nI (sumN (wtS (TL h m L) (t0A m) (rn (TL h m L) (t0A m) m)) k))), some (.int (nI k)), none, none, some (.int (nI (cyR (TL h m L) (t0A m) r k))), none, none, none] [] := by
            by_cases hc1 : 1 < (cyR (TL h m L) (t0A m) r k)
            · skip
              have hw : wtR (TL h m L) (t0A m) r k = 2520 / (cyR (TL h m L) (t0A m) r k) := if_pos hc1
              rw [hw] at h433
              refine aw_iload C dL_law_415 Lk13 ?_
              refine aw_iload C dL_law_417 Lk17 ?_
              refine aw_iconst C dL_law_419 (x := nI 1) (by decide) ?_
              refine aw_icmp_le C dL_law_420 (tgt := 432) (by decide) (fun c_420 => absurd c_420 (nI_ge hc1 (by omega))) (fun c_420 => ?_)
              refine aw_sipush C dL_law_423 (x := nI 2520) (by decide) ?_
              refine aw_iload C dL_law_426 Lk17 ?_
              refine aw_idiv C dL_law_428 (nI_ne0 (by omega) (by omega)) ?_
              rw [pk_div (by decide) (by omega) (by omega)]
              refine aw_goto C dL_law_429 (tgt := 433) (by decide) ?_
              exact h433
            · skip
              have hw : wtR (TL h m L) (t0A m) r k = 0 := if_neg hc1
              rw [hw] at h433
              refine aw_iload C dL_law_415 Lk13 ?_
              refine aw_iload C dL_law_417 Lk17 ?_
              refine aw_iconst C dL_law_419 (x := nI 1) (by decide) ?_
              refine aw_icmp_le C dL_law_420 (tgt := 432) (by decide) (fun c_420 => ?_) (fun c_420 => absurd (nI_le (by omega) (by omega)) c_420)
              refine aw_iconst C dL_law_432 (x := nI 0) (by decide) ?_
              exact h433
          have hin : ∀ q, thR (TL h m L) (t0A m) r (itF (faR (TL h m L) (t0A m) r) q k) = true := fun q => itF_th hth.1 q
          have hlt9 : ∀ q, itF (faR (TL h m L) (t0A m) r) q k < m := fun q => thR_lt t0A_ok (hin q)
          obtain ⟨cp1, cp2, cp3, cp4⟩ := cy_pos hth.2.1
          have hcyd : cy (faR (TL h m L) (t0A m) r) k = (cyR (TL h m L) (t0A m) r k) := rfl
          rw [hcyd] at cp1 cp2 cp3 cp4
          have h301 : ∀ (j q : Nat), q + j = (cyR (TL h m L) (t0A m) r k) → aW p l e room_1 s mI args below meth c Q D A (2222 + 200 * t) (22221 + 2000 * t) (49 + (3 + m) + 1 + 1) a2 y2 301 [some (.ref b9), some (.ref (ac 44)), some (.ref bs), some (.int (nI t)), none, some (.int (nI m)), some (.int (nI (rn (TL h m L) (t0A m) m))), some (.ref (a1 (49 + (3 + m)))), some (.ref (a2 (49 + (3 + m) + 1))), some (.int (nI (fb_ct (anP m h L) (k + 1)))), some (.int (rSum (fun k => rkP h L k (gF m h L k)) (k + 1))), some (.int (rMax (FZ (TL h m L) (t0A m) m) (k + 1))), some (.int (rSum (FD (TL h m L) (t0A m) m) (k + 1))), some (.int (nI (sumN (wtS (TL h m L) (t0A m) (rn (TL h m L) (t0A m) m)) k))), some (.int (nI k)), none, some (.int (nI (r + 1))), some (.int (nI (cyR (TL h m L) (t0A m) r k))), some (.int (nI (itF (faR (TL h m L) (t0A m) r) q k))), some (.int (nI q)), none] [] := by
            intro j
            induction j with
            | zero =>
              intro q hq
              have hback : itF (faR (TL h m L) (t0A m) r) q k = k := by rw [show q = (cyR (TL h m L) (t0A m) r k) by omega]; exact cp3
              have hpt : ptP m h L k (r + 1) = -1 := if_neg (by rw [hth.2.2]; decide)
              refine aw_iload C dL_law_301 Lk19 ?_
              refine aw_iload C dL_law_303 Lk17 ?_
              refine aw_icmp_ge C dL_law_305 (tgt := 392) (by decide) (fun c_305 => ?_) (fun c_305 => absurd (nI_le (by omega) (by omega)) c_305)
              refine aw_iload C dL_law_392 Lk18 ?_
              refine aw_iload C dL_law_394 Lk14 ?_
              refine aw_icmp_ne C dL_law_396 (tgt := 413) (by decide) (fun c_396 => absurd c_396 (fun z => z (by rw [hback]))) (fun c_396 => ?_)
              refine aw_aload_n C dL_law_399 Lk1 ?_
              refine aw_iload C dL_law_400 Lk14 ?_
              refine aw_iload C dL_law_402 Lk16 ?_
              refine aw_iconst C dL_law_404 (x := nI 1) (by decide) ?_
              refine aw_iadd C dL_law_405 ?_
              rw [nI_add]
              refine aw_clr2 C dL_law_406 gL_law_X3_points sX3_points (rm := rmX3_points) (aChk_mk rfl (by show 2222 + 200 * t + 0 ≤ 600130; omega) (by show 22221 + 2000 * t + 0 ≤ 7301080; omega)) K (f_points H hkm (r := r + 1) (by omega)) ?_
              rw [hpt]
              refine aw_iconst C dL_law_409 (x := -1) (by decide) ?_
              refine aw_icmp_eq C dL_law_410 (tgt := 415) (by decide) (fun c_410 => ?_) (fun c_410 => absurd rfl c_410)
              exact aW_wk h415 (Wk.k (Wk.k (Wk.k (Wk.k (Wk.k (Wk.k (Wk.k (Wk.k (Wk.k (Wk.k (Wk.k (Wk.k (Wk.k (Wk.k (Wk.k (Wk.d (Wk.d (Wk.k (Wk.d (Wk.d (Wk.d Wk.n)))))))))))))))))))))
            | succ j ihs =>
              intro q hq
              have hqc : q < (cyR (TL h m L) (t0A m) r k) := by omega
              have hat := hlt9 q
              have hnx := hlt9 (q + 1)
              obtain ⟨z1, z2⟩ := clR_ring hc hqc
              obtain ⟨-, -, -, y4, y5, y6, -, -, -⟩ := cl_told WL z1
              have hpt : ptP m h L (itF (faR (TL h m L) (t0A m) r) q k) r = nI (itF (faR (TL h m L) (t0A m) r) (q + 1) k) := by
                simp only [ptP]
                rw [if_pos (hin q)]
                rfl
              have ht2 : toP m h L (itF (faR (TL h m L) (t0A m) r) q k) 2 = nI (h (itF (faR (TL h m L) (t0A m) r) (q + 1) k)) := y4
              have ht3 : toP m h L (itF (faR (TL h m L) (t0A m) r) q k) 3 = nI (r + 1) := y5
              have ht4 : toP m h L (itF (faR (TL h m L) (t0A m) r) q k) 4 = nI (cyR (TL h m L) (t0A m) r k) := by rw [← z2]; exact y6
              have h382 : aW p l e room_1 s mI args below meth c Q D A (2222 + 200 * t) (22221 + 2000 * t) (49 + (3 + m) + 1 + 1) a2 y2 382 [some (.ref b9), some (.ref (ac 44)), some (.ref bs), some (.int (nI t)), none, some (.int (nI m)), some (.int (nI (rn (TL h m L) (t0A m) m))), some (.ref (a1 (49 + (3 + m)))), some (.ref (a2 (49 + (3 + m) + 1))), some (.int (nI (fb_ct (anP m h L) (k + 1)))), some (.int (rSum (fun k => rkP h L k (gF m h L k)) (k + 1))), some (.int (rMax (FZ (TL h m L) (t0A m) m) (k + 1))), some (.int (rSum (FD (TL h m L) (t0A m) m) (k + 1))), some (.int (nI (sumN (wtS (TL h m L) (t0A m) (rn (TL h m L) (t0A m) m)) k))), some (.int (nI k)), none, some (.int (nI (r + 1))), some (.int (nI (cyR (TL h m L) (t0A m) r k))), some (.int (nI (itF (faR (TL h m L) (t0A m) r) q k))), some (.int (nI q)), some (.int (nI (itF (faR (TL h m L) (t0A m) r) (q + 1) k)))] [] := by
                refine aw_iload C dL_law_382 Lk20 ?_
                refine aw_istore C dL_law_384 St18 rfl ?_
                refine aw_iinc C dL_law_386 Lk19 (nI_1 _) St19 rfl ?_
                refine aw_goto C dL_law_389 (tgt := 301) (by decide) ?_
                exact aW_wk (ihs (q + 1) (by omega)) (Wk.k (Wk.k (Wk.k (Wk.k (Wk.k (Wk.k (Wk.k (Wk.k (Wk.k (Wk.k (Wk.k (Wk.k (Wk.k (Wk.k (Wk.k (Wk.k (Wk.k (Wk.k (Wk.k (Wk.k (Wk.d Wk.n)))))))))))))))))))))
              by_cases hlast : q + 1 = (cyR (TL h m L) (t0A m) r k)
              · skip
                refine aw_iload C dL_law_301 Lk19 ?_
                refine aw_iload C dL_law_303 Lk17 ?_
                refine aw_icmp_ge C dL_law_305 (tgt := 392) (by decide) (fun c_305 => absurd c_305 (nI_ge hqc (by omega))) (fun c_305 => ?_)
                refine aw_aload_n C dL_law_308 Lk1 ?_
                refine aw_iload C dL_law_309 Lk18 ?_
                refine aw_iload C dL_law_311 Lk16 ?_
                refine aw_clr2 C dL_law_313 gL_law_X3_points sX3_points (rm := rmX3_points) (aChk_mk rfl (by show 2222 + 200 * t + 0 ≤ 600130; omega) (by show 22221 + 2000 * t + 0 ≤ 7301080; omega)) K (f_points H hat (r := r) (by omega)) ?_
                rw [hpt]
                refine aw_istore C dL_law_316 St20 rfl ?_
                refine aw_aload_n C dL_law_318 Lk1 ?_
                refine aw_iload C dL_law_319 Lk18 ?_
                refine aw_iconst C dL_law_321 (x := nI 3) (by decide) ?_
                refine aw_clr2 C dL_law_322 gL_law_X3_told sX3_told (rm := rmX3_told) (aChk_mk rfl (by show 2222 + 200 * t + 0 ≤ 600130; omega) (by show 22221 + 2000 * t + 0 ≤ 7301080; omega)) K (f_told H hat (w := 3) (by decide)) ?_
                rw [ht3]
                refine aw_iload C dL_law_325 Lk16 ?_
                refine aw_icmp_ne C dL_law_327 (tgt := 380) (by decide) (fun c_327 => absurd c_327 (fun z => z rfl)) (fun c_327 => ?_)
                refine aw_aload_n C dL_law_330 Lk1 ?_
                refine aw_iload C dL_law_331 Lk18 ?_
                refine aw_iconst C dL_law_333 (x := nI 4) (by decide) ?_
                refine aw_clr2 C dL_law_334 gL_law_X3_told sX3_told (rm := rmX3_told) (aChk_mk rfl (by show 2222 + 200 * t + 0 ≤ 600130; omega) (by show 22221 + 2000 * t + 0 ≤ 7301080; omega)) K (f_told H hat (w := 4) (by decide)) ?_
                rw [ht4]
                refine aw_iload C dL_law_337 Lk17 ?_
                refine aw_icmp_ne C dL_law_339 (tgt := 380) (by decide) (fun c_339 => absurd c_339 (fun z => z rfl)) (fun c_339 => ?_)
                refine aw_iload C dL_law_342 Lk20 ?_
                refine aw_if_lt C dL_law_344 (tgt := 380) (by decide) (fun c_344 => absurd c_344 (nI_pos (by omega))) (fun c_344 => ?_)
                refine aw_aload_n C dL_law_347 Lk1 ?_
                refine aw_iload C dL_law_348 Lk18 ?_
                refine aw_iconst C dL_law_350 (x := nI 2) (by decide) ?_
                refine aw_clr2 C dL_law_351 gL_law_X3_told sX3_told (rm := rmX3_told) (aChk_mk rfl (by show 2222 + 200 * t + 0 ≤ 600130; omega) (by show 22221 + 2000 * t + 0 ≤ 7301080; omega)) K (f_told H hat (w := 2) (by decide)) ?_
                rw [ht2]
                refine aw_aload_n C dL_law_354 Lk1 ?_
                refine aw_iload C dL_law_355 Lk20 ?_
                refine aw_iconst C dL_law_357 (x := nI 0) (by decide) ?_
                refine aw_clr2 C dL_law_358 gL_law_X3_told sX3_told (rm := rmX3_told) (aChk_mk rfl (by show 2222 + 200 * t + 0 ≤ 600130; omega) (by show 22221 + 2000 * t + 0 ≤ 7301080; omega)) K (f_told H hnx (w := 0) (by decide)) ?_
                rw [show toP m h L (itF (faR (TL h m L) (t0A m) r) (q + 1) k) 0 = nI (h (itF (faR (TL h m L) (t0A m) r) (q + 1) k)) from rfl]
                refine aw_icmp_ne C dL_law_361 (tgt := 380) (by decide) (fun c_361 => absurd c_361 (fun z => z rfl)) (fun c_361 => ?_)
                refine aw_iload C dL_law_364 Lk19 ?_
                refine aw_iload C dL_law_366 Lk17 ?_
                refine aw_iconst C dL_law_368 (x := nI 1) (by decide) ?_
                refine aw_isub C dL_law_369 ?_
                rw [pk_sub (by omega)]
                refine aw_icmp_ge C dL_law_370 (tgt := 382) (by decide) (fun c_370 => ?_) (fun c_370 => absurd (nI_le (by omega) (by omega)) c_370)
                exact h382
              · skip
                have hnk : itF (faR (TL h m L) (t0A m) r) (q + 1) k ≠ k := cp4 (q + 1) (by omega) (by omega)
                refine aw_iload C dL_law_301 Lk19 ?_
                refine aw_iload C dL_law_303 Lk17 ?_
                refine aw_icmp_ge C dL_law_305 (tgt := 392) (by decide) (fun c_305 => absurd c_305 (nI_ge hqc (by omega))) (fun c_305 => ?_)
                refine aw_aload_n C dL_law_308 Lk1 ?_
                refine aw_iload C dL_law_309 Lk18 ?_
                refine aw_iload C dL_law_311 Lk16 ?_
                refine aw_clr2 C dL_law_313 gL_law_X3_points sX3_points (rm := rmX3_points) (aChk_mk rfl (by show 2222 + 200 * t + 0 ≤ 600130; omega) (by show 22221 + 2000 * t + 0 ≤ 7301080; omega)) K (f_points H hat (r := r) (by omega)) ?_
                rw [hpt]
                refine aw_istore C dL_law_316 St20 rfl ?_
                refine aw_aload_n C dL_law_318 Lk1 ?_
                refine aw_iload C dL_law_319 Lk18 ?_
                refine aw_iconst C dL_law_321 (x := nI 3) (by decide) ?_
                refine aw_clr2 C dL_law_322 gL_law_X3_told sX3_told (rm := rmX3_told) (aChk_mk rfl (by show 2222 + 200 * t + 0 ≤ 600130; omega) (by show 22221 + 2000 * t + 0 ≤ 7301080; omega)) K (f_told H hat (w := 3) (by decide)) ?_
                rw [ht3]
                refine aw_iload C dL_law_325 Lk16 ?_
                refine aw_icmp_ne C dL_law_327 (tgt := 380) (by decide) (fun c_327 => absurd c_327 (fun z => z rfl)) (fun c_327 => ?_)
                refine aw_aload_n C dL_law_330 Lk1 ?_
                refine aw_iload C dL_law_331 Lk18 ?_
                refine aw_iconst C dL_law_333 (x := nI 4) (by decide) ?_
                refine aw_clr2 C dL_law_334 gL_law_X3_told sX3_told (rm := rmX3_told) (aChk_mk rfl (by show 2222 + 200 * t + 0 ≤ 600130; omega) (by show 22221 + 2000 * t + 0 ≤ 7301080; omega)) K (f_told H hat (w := 4) (by decide)) ?_
                rw [ht4]
                refine aw_iload C dL_law_337 Lk17 ?_
                refine aw_icmp_ne C dL_law_339 (tgt := 380) (by decide) (fun c_339 => absurd c_339 (fun z => z rfl)) (fun c_339 => ?_)
                refine aw_iload C dL_law_342 Lk20 ?_
                refine aw_if_lt C dL_law_344 (tgt := 380) (by decide) (fun c_344 => absurd c_344 (nI_pos (by omega))) (fun c_344 => ?_)
                refine aw_aload_n C dL_law_347 Lk1 ?_
                refine aw_iload C dL_law_348 Lk18 ?_
                refine aw_iconst C dL_law_350 (x := nI 2) (by decide) ?_
                refine aw_clr2 C dL_law_351 gL_law_X3_told sX3_told (rm := rmX3_told) (aChk_mk rfl (by show 2222 + 200 * t + 0 ≤ 600130; omega) (by show 22221 + 2000 * t + 0 ≤ 7301080; omega)) K (f_told H hat (w := 2) (by decide)) ?_
                rw [ht2]
                refine aw_aload_n C dL_law_354 Lk1 ?_
                refine aw_iload C dL_law_355 Lk20 ?_
                refine aw_iconst C dL_law_357 (x := nI 0) (by decide) ?_
                refine aw_clr2 C dL_law_358 gL_law_X3_told sX3_told (rm := rmX3_told) (aChk_mk rfl (by show 2222 + 200 * t + 0 ≤ 600130; omega) (by show 22221 + 2000 * t + 0 ≤ 7301080; omega)) K (f_told H hnx (w := 0) (by decide)) ?_
                rw [show toP m h L (itF (faR (TL h m L) (t0A m) r) (q + 1) k) 0 = nI (h (itF (faR (TL h m L) (t0A m) r) (q + 1) k)) from rfl]
                refine aw_icmp_ne C dL_law_361 (tgt := 380) (by decide) (fun c_361 => absurd c_361 (fun z => z rfl)) (fun c_361 => ?_)
                refine aw_iload C dL_law_364 Lk19 ?_
                refine aw_iload C dL_law_366 Lk17 ?_
                refine aw_iconst C dL_law_368 (x := nI 1) (by decide) ?_
                refine aw_isub C dL_law_369 ?_
                rw [pk_sub (by omega)]
                refine aw_icmp_ge C dL_law_370 (tgt := 382) (by decide) (fun c_370 => absurd c_370 (nI_ge (by omega) (by omega))) (fun c_370 => ?_)
                refine aw_iload C dL_law_373 Lk20 ?_
                refine aw_iload C dL_law_375 Lk14 ?_
                refine aw_icmp_ne C dL_law_377 (tgt := 382) (by decide) (fun c_377 => ?_) (fun c_377 => absurd (fun z => hnk (nI_inj (by omega) (by omega) z)) c_377)
                exact h382
          have h294 : aW p l e room_1 s mI args below meth c Q D A (2222 + 200 * t) (22221 + 2000 * t) (49 + (3 + m) + 1 + 1) a2 y2 294 [some (.ref b9), some (.ref (ac 44)), some (.ref bs), some (.int (nI t)), none, some (.int (nI m)), some (.int (nI (rn (TL h m L) (t0A m) m))), some (.ref (a1 (49 + (3 + m)))), some (.ref (a2 (49 + (3 + m) + 1))), some (.int (nI (fb_ct (anP m h L) (k + 1)))), some (.int (rSum (fun k => rkP h L k (gF m h L k)) (k + 1))), some (.int (rMax (FZ (TL h m L) (t0A m) m) (k + 1))), some (.int (rSum (FD (TL h m L) (t0A m) m) (k + 1))), some (.int (nI (sumN (wtS (TL h m L) (t0A m) (rn (TL h m L) (t0A m) m)) k))), some (.int (nI k)), none, some (.int (nI (r + 1))), some (.int (nI (cyR (TL h m L) (t0A m) r k))), none, none, none] [] := by
            refine aw_iload C dL_law_294 Lk14 ?_
            refine aw_istore C dL_law_296 St18 rfl ?_
            refine aw_iconst C dL_law_298 (x := nI 0) (by decide) ?_
            refine aw_istore C dL_law_299 St19 rfl ?_
            exact h301 (cyR (TL h m L) (t0A m) r k) 0 (by omega)
          have h261 : aW p l e room_1 s mI args below meth c Q D A (2222 + 200 * t) (22221 + 2000 * t) (49 + (3 + m) + 1 + 1) a2 y2 261 [some (.ref b9), some (.ref (ac 44)), some (.ref bs), some (.int (nI t)), none, some (.int (nI m)), some (.int (nI (rn (TL h m L) (t0A m) m))), some (.ref (a1 (49 + (3 + m)))), some (.ref (a2 (49 + (3 + m) + 1))), some (.int (nI (fb_ct (anP m h L) (k + 1)))), some (.int (rSum (fun k => rkP h L k (gF m h L k)) (k + 1))), some (.int (rMax (FZ (TL h m L) (t0A m) m) (k + 1))), some (.int (rSum (FD (TL h m L) (t0A m) m) (k + 1))), some (.int (nI (sumN (wtS (TL h m L) (t0A m) (rn (TL h m L) (t0A m) m)) k))), some (.int (nI k)), some (.int (nI (GN h m L k))), some (.int (nI (r + 1))), some (.int (nI (cyR (TL h m L) (t0A m) r k))), none, none, none] [] := by
            have hhk := WL.2.1 k hkm
            by_cases ho : (cyR (TL h m L) (t0A m) r k) = 1
            · skip
              refine aw_iload C dL_law_261 Lk17 ?_
              refine aw_iconst C dL_law_263 (x := nI 1) (by decide) ?_
              refine aw_icmp_ne C dL_law_264 (tgt := 271) (by decide) (fun c_264 => absurd c_264 (fun z => z (by rw [ho]))) (fun c_264 => ?_)
              refine aw_iconst C dL_law_267 (x := nI 1) (by decide) ?_
              refine aw_goto C dL_law_268 (tgt := 272) (by decide) ?_
              refine aw_iload C dL_law_272 Lk15 ?_
              refine aw_aload_n C dL_law_274 Lk1 ?_
              refine aw_iload C dL_law_275 Lk14 ?_
              refine aw_iconst C dL_law_277 (x := nI 0) (by decide) ?_
              refine aw_clr2 C dL_law_278 gL_law_X3_told sX3_told (rm := rmX3_told) (aChk_mk rfl (by show 2222 + 200 * t + 0 ≤ 600130; omega) (by show 22221 + 2000 * t + 0 ≤ 7301080; omega)) K (f_told H hkm (w := 0) (by decide)) ?_
              rw [show toP m h L k 0 = nI (h k) from rfl]
              refine aw_icmp_ne C dL_law_281 (tgt := 288) (by decide) (fun c_281 => absurd c_281 (fun z => z (by rw [hown.mp ho]))) (fun c_281 => ?_)
              refine aw_iconst C dL_law_284 (x := nI 1) (by decide) ?_
              refine aw_goto C dL_law_285 (tgt := 289) (by decide) ?_
              refine aw_icmp_eq C dL_law_289 (tgt := 294) (by decide) (fun c_289 => ?_) (fun c_289 => absurd rfl c_289)
              exact aW_wk h294 (Wk.k (Wk.k (Wk.k (Wk.k (Wk.k (Wk.k (Wk.k (Wk.k (Wk.k (Wk.k (Wk.k (Wk.k (Wk.k (Wk.k (Wk.k (Wk.d (Wk.k (Wk.k (Wk.d (Wk.d (Wk.d Wk.n)))))))))))))))))))))
            · skip
              have hne : ¬ nI (GN h m L k) = nI (h k) := fun z => ho (hown.mpr (nI_inj (by omega) (by omega) z))
              refine aw_iload C dL_law_261 Lk17 ?_
              refine aw_iconst C dL_law_263 (x := nI 1) (by decide) ?_
              refine aw_icmp_ne C dL_law_264 (tgt := 271) (by decide) (fun c_264 => ?_) (fun c_264 => absurd (fun z => ho (nI_inj (by omega) (by omega) z)) c_264)
              refine aw_iconst C dL_law_271 (x := nI 0) (by decide) ?_
              refine aw_iload C dL_law_272 Lk15 ?_
              refine aw_aload_n C dL_law_274 Lk1 ?_
              refine aw_iload C dL_law_275 Lk14 ?_
              refine aw_iconst C dL_law_277 (x := nI 0) (by decide) ?_
              refine aw_clr2 C dL_law_278 gL_law_X3_told sX3_told (rm := rmX3_told) (aChk_mk rfl (by show 2222 + 200 * t + 0 ≤ 600130; omega) (by show 22221 + 2000 * t + 0 ≤ 7301080; omega)) K (f_told H hkm (w := 0) (by decide)) ?_
              rw [show toP m h L k 0 = nI (h k) from rfl]
              refine aw_icmp_ne C dL_law_281 (tgt := 288) (by decide) (fun c_281 => ?_) (fun c_281 => absurd hne c_281)
              refine aw_iconst C dL_law_288 (x := nI 0) (by decide) ?_
              refine aw_icmp_eq C dL_law_289 (tgt := 294) (by decide) (fun c_289 => ?_) (fun c_289 => absurd rfl c_289)
              exact aW_wk h294 (Wk.k (Wk.k (Wk.k (Wk.k (Wk.k (Wk.k (Wk.k (Wk.k (Wk.k (Wk.k (Wk.k (Wk.k (Wk.k (Wk.k (Wk.k (Wk.d (Wk.k (Wk.k (Wk.d (Wk.d (Wk.d Wk.n)))))))))))))))))))))
          have h230 : ∀ b : Bool, b = anP m h L k → aW p l e room_1 s mI args below meth c Q D A (2222 + 200 * t) (22221 + 2000 * t) (49 + (3 + m) + 1 + 1) a2 y2 230 [some (.ref b9), some (.ref (ac 44)), some (.ref bs), some (.int (nI t)), none, some (.int (nI m)), some (.int (nI (rn (TL h m L) (t0A m) m))), some (.ref (a1 (49 + (3 + m)))), some (.ref (a2 (49 + (3 + m) + 1))), some (.int (nI (fb_ct (anP m h L) k))), some (.int (rSum (fun k => rkP h L k (gF m h L k)) k)), some (.int (rMax (FZ (TL h m L) (t0A m) m) k)), some (.int (rSum (FD (TL h m L) (t0A m) m) k)), some (.int (nI (sumN (wtS (TL h m L) (t0A m) (rn (TL h m L) (t0A m) m)) k))), some (.int (nI k)), some (.int (nI (GN h m L k))), some (.int (nI (r + 1))), some (.int (nI (cyR (TL h m L) (t0A m) r k))), none, none, none] [.int (nI (bN b)), .int (nI (fb_ct (anP m h L) k))] := fun b hb => by
            refine aw_iadd C dL_law_230 ?_
            rw [nI_add, hb]
            refine aw_istore C dL_law_231 St9 rfl ?_
            refine aw_iload C dL_law_233 Lk10 ?_
            refine aw_aload_n C dL_law_235 Lk1 ?_
            refine aw_iload C dL_law_236 Lk14 ?_
            refine aw_iconst C dL_law_238 (x := nI 5) (by decide) ?_
            refine aw_clr2 C dL_law_239 gL_law_X3_told sX3_told (rm := rmX3_told) (aChk_mk rfl (by show 2222 + 200 * t + 0 ≤ 600130; omega) (by show 22221 + 2000 * t + 0 ≤ 7301080; omega)) K (f_told H hkm (w := 5) (by decide)) ?_
            refine aw_iadd C dL_law_242 ?_
            refine aw_istore C dL_law_243 St10 rfl ?_
            refine aw_iload C dL_law_245 Lk11 ?_
            refine aw_iload C dL_law_247 Lk17 ?_
            refine aw_mmax C dL_law_249 rfl (by decide +kernel) (by decide +kernel) (by decide +kernel) (by decide +kernel) (Nat.le_of_ble_eq_true rfl) (Nat.le_of_ble_eq_true rfl) ⟨by show 2222 + 200 * t ≤ 600130; omega, by show 22221 + 2000 * t ≤ 7301080; omega⟩ ?_
            rw [hmx]
            refine aw_istore C dL_law_252 St11 rfl ?_
            refine aw_iload C dL_law_254 Lk12 ?_
            refine aw_iload C dL_law_256 Lk16 ?_
            refine aw_iadd C dL_law_258 ?_
            rw [hsm]
            refine aw_istore C dL_law_259 St12 rfl ?_
            exact h261
          cases hb : anP m h L k
          · skip
            have h8 := of_decide_eq_false hb
            rw [hG1] at h8
            refine aw_iload C dL_law_211 Lk9 ?_
            refine aw_iload C dL_law_213 Lk15 ?_
            refine aw_aload_n C dL_law_215 Lk1 ?_
            refine aw_iload C dL_law_216 Lk14 ?_
            refine aw_iconst C dL_law_218 (x := nI 0) (by decide) ?_
            refine aw_clr2 C dL_law_219 gL_law_X3_told sX3_told (rm := rmX3_told) (aChk_mk rfl (by show 2222 + 200 * t + 0 ≤ 600130; omega) (by show 22221 + 2000 * t + 0 ≤ 7301080; omega)) K (f_told H hkm (w := 0) (by decide)) ?_
            rw [show toP m h L k 0 = nI (h k) from rfl]
            refine aw_icmp_eq C dL_law_222 (tgt := 229) (by decide) (fun c_222 => ?_) (fun c_222 => absurd (Classical.not_not.mp h8) c_222)
            refine aw_iconst C dL_law_229 (x := nI 0) (by decide) ?_
            exact h230 false hb.symm
          · skip
            have h8 := of_decide_eq_true hb
            rw [hG1] at h8
            refine aw_iload C dL_law_211 Lk9 ?_
            refine aw_iload C dL_law_213 Lk15 ?_
            refine aw_aload_n C dL_law_215 Lk1 ?_
            refine aw_iload C dL_law_216 Lk14 ?_
            refine aw_iconst C dL_law_218 (x := nI 0) (by decide) ?_
            refine aw_clr2 C dL_law_219 gL_law_X3_told sX3_told (rm := rmX3_told) (aChk_mk rfl (by show 2222 + 200 * t + 0 ≤ 600130; omega) (by show 22221 + 2000 * t + 0 ≤ 7301080; omega)) K (f_told H hkm (w := 0) (by decide)) ?_
            rw [show toP m h L k 0 = nI (h k) from rfl]
            refine aw_icmp_eq C dL_law_222 (tgt := 229) (by decide) (fun c_222 => absurd c_222 h8) (fun c_222 => ?_)
            refine aw_iconst C dL_law_225 (x := nI 1) (by decide) ?_
            refine aw_goto C dL_law_226 (tgt := 230) (by decide) ?_
            exact h230 true hb.symm
      exact hk m 0 (by omega) v2 _ _ K SS LG IR (fun q _ => rfl) (fun q => rfl)
    have h44 : ∀ (x : Int32) (j2 k : Nat), k + j2 = 3 → ∀ (n : Nat) (a : Nat → Nat) (v : Nat → va_E) (σ : CS) (m : Nat) (h : Nat → Nat) (L : Nat → List Nat), 1 ≤ m → LawW cI cR cJ n a v ac bs σ m h L → aW p l e room_1 s mI args below meth c Q D A (2100 + 200 * t + 40 * k) (21000 + 2000 * t + 400 * k) (n) a v 44 [some (.ref b9), some (.ref (ac 44)), some (.ref bs), some (.int (nI t)), some (.int x), some (.int (nI k)), none, none, none, none, none, none, none, none, none, none, none, none, none, none, none] [] := by
      intro x j2
      induction j2 with
      | zero =>
        intro k hk n a v σ m h L hm0 LW
        refine aw_iload C dL_law_44 Lk5 ?_
        refine aw_iconst C dL_law_46 (x := nI 3) (by decide) ?_
        refine aw_icmp_ge C dL_law_47 (tgt := 80) (by decide) (fun c_47 => ?_) (fun c_47 => absurd (nI_le (by omega) (by omega)) c_47)
        exact aw_widen (by omega) (by omega) (aW_wk (h80 n a v σ m h L hm0 LW) (Wk.k (Wk.k (Wk.k (Wk.k (Wk.d (Wk.d (Wk.d (Wk.d (Wk.d (Wk.d (Wk.d (Wk.d (Wk.d (Wk.d (Wk.d (Wk.d (Wk.d (Wk.d (Wk.d (Wk.d (Wk.d Wk.n))))))))))))))))))))))
      | succ j2 iha =>
        intro k hk n a v σ m h L hm0 LW
        refine aw_iload C dL_law_44 Lk5 ?_
        refine aw_iconst C dL_law_46 (x := nI 3) (by decide) ?_
        refine aw_icmp_ge C dL_law_47 (tgt := 80) (by decide) (fun c_47 => absurd c_47 (nI_ge (by omega) (by omega))) (fun c_47 => ?_)
        refine aw_aload_n C dL_law_50 Lk1 ?_
        refine aw_aload_n C dL_law_51 Lk2 ?_
        refine aw_iload C dL_law_52 Lk4 ?_
        refine aw_iconst C dL_law_54 (x := nI 2) (by decide) ?_
        refine aw_iload C dL_law_55 Lk5 ?_
        refine aw_imul C dL_law_57 ?_
        refine aw_ishr C dL_law_58 (fun w58 => ?_)
        refine aw_sipush C dL_law_59 (x := nI 149) (by decide) ?_
        refine aw_iload C dL_law_62 Lk5 ?_
        refine aw_imul C dL_law_64 ?_
        refine aw_iadd C dL_law_65 ?_
        refine gw_allS3 (rm := rmL_act) (mc := 40) (ms := 400) CA gA_H dL_law_66 gL_law_L_act sL_act (aChk_mk rfl (by show 2100 + 200 * t + 40 * k + 40 ≤ 600130; omega) (by show 21000 + 2000 * t + 400 * k + 400 ≤ 7301080; omega)) (fun r n' a' v' h9 => by obtain ⟨-, σ', m', h', L', h1, h2, -⟩ := h9; have h3 := LW.1; omega) (c_L_act LW) (fun r n2 a2 v2 hp => ?_)
        obtain ⟨rfl, σ2, m2, h2, L2, hm2, LW2⟩ := hp
        refine aw_if_ne C dL_law_69 (tgt := 74) (by decide) (fun c_69 => ?_) (fun c_69 => absurd (by decide) c_69)
        refine aw_iinc C dL_law_74 Lk5 (nI_1 _) St5 rfl ?_
        refine aw_goto C dL_law_77 (tgt := 44) (by decide) ?_
        exact aw_widen (by omega) (by omega) (iha (k + 1) (by omega) n2 a2 v2 σ2 m2 h2 L2 (by omega) LW2)
    refine aw_iload_n C dL_law_22 Lk3 ?_
    refine aw_bipush C dL_law_23 (x := nI 12) (by decide) ?_
    refine aw_icmp_ge C dL_law_25 (tgt := 678) (by decide) (fun c_25 => absurd c_25 (nI_ge (by omega) (by omega))) (fun c_25 => ?_)
    refine aw_aload_n C dL_law_28 Lk0 ?_
    refine aw_iload_n C dL_law_29 Lk3 ?_
    refine gw_cell CG dL_law_30 gL_law_L_cell (aChk_mk rfl (by show 2100 + 200 * t + 0 ≤ 600130; omega) (by show 21000 + 2000 * t + 0 ≤ 7301080; omega)) (by omega) hN (fun x1 => ?_)
    refine aw_sipush C dL_law_33 (x := nI 223) (by decide) ?_
    refine aw_iload_n C dL_law_36 Lk3 ?_
    refine aw_imul C dL_law_37 ?_
    refine aw_iadd C dL_law_38 ?_
    refine aw_istore C dL_law_39 St4 rfl ?_
    refine aw_iconst C dL_law_41 (x := nI 0) (by decide) ?_
    refine aw_istore C dL_law_42 St5 rfl ?_
    exact h44 _ 3 0 (by omega) n a v σ m h L hm0 LW
end LAWL
