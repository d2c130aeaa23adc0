/-! the law's two: the class and its Sim -/
def LawW (cI cR cJ : ClassId) (n : Nat) (a : Nat → Nat) (v : Nat → va_E) (ac : Nat → Nat) (bs : Nat) (σ : CS) (m : Nat) (h : Nat → Nat) (L : Nat → List Nat) : Prop :=
  n = 49 + (3 + m) ∧ Cl cI cR n a v ac σ ∧ a 49 = bs ∧ SimAt cI cJ (3 + m) (fun k => a (49 + k)) (fun k => v (49 + k)) m h L ∧ HInv σ m h L
theorem blF_end {α : Type} {o mN n k : Nat} {g g' : Nat → α} (h : o + mN = n) : blF o mN n g g' (o + k) = g' k := by
  simp only [blF]
  by_cases c : o + k < n
  · rw [if_pos c, if_pos (by omega), show o + k - o = k by omega]
  · rw [if_neg c, show mN + (o + k - n) = k by omega]
theorem SimAt.is {cI cJ : ClassId} {n n' : Nat} {a a' : Nat → Nat} {v v' : Nat → va_E} {m : Nat} {h : Nat → Nat} {L : Nat → List Nat} (S : SimAt cI cJ n a v m h L) (ha : ∀ k, a' k = a k) (hv : ∀ k, v' k = v k) (hn : n = n') : SimAt cI cJ n' a' v' m h L := by
  have e1 : a' = a := funext ha
  have e2 : v' = v := funext hv
  rw [e1, e2, ← hn]; exact S
section LWE
variable {cI cR cJ : ClassId} {n : Nat} {a : Nat → Nat} {v : Nat → va_E} {ac : Nat → Nat} {bs : Nat} {σ : CS} {m : Nat} {h : Nat → Nat} {L : Nat → List Nat}
/-- its cells, by their places in the world of both -/
theorem SimAt.ex (S : SimAt cI cJ (3 + m) (fun k => a (49 + k)) (fun k => v (49 + k)) m h L) (hn : 49 + (3 + m) ≤ n) (hb : a 49 = bs) : m ≤ 10 ∧ ∃ (x2 x3 x4 x5 : Value) (f : Nat → Int32) (g : Nat → Option Nat) (rf : Nat → Nat → Int32), Ob n a v 49 bs [.ref (a 50), .ref (a 51), x2, x3, x4, x5] ∧ (Ar cI n a v 50 (a 50) m f ∧ ∀ k, k < m → f k = nI (h k)) ∧ (Rr cJ n a v 51 (a 51) m g ∧ ∀ k, k < m → g k = some (a (49 + (3 + k)))) ∧ ∀ k, k < m → Ar cI n a v (49 + (3 + k)) (a (49 + (3 + k))) (L k).length (rf k) ∧ (L k).length ≤ 10 ∧ ∀ p, p < (L k).length → rf k p = nI ((L k).getD p 0) := by
  obtain ⟨h1, ⟨x2, x3, x4, x5, O⟩, ⟨f, A1, hf⟩, ⟨g, R1, hg⟩, rf, hR⟩ := S
  refine ⟨h1, x2, x3, x4, x5, f, g, rf, ?_, ⟨A1.sh hn, hf⟩, ⟨R1.sh hn, hg⟩, fun k hk => ⟨(hR k hk).1.sh hn, (hR k hk).2⟩⟩
  have h9 := O.sh (o := 49) hn
  rw [← hb]
  exact h9
end LWE
section GN2
variable {p : Program} {l : Launch} {e : Env} {R : Room} {s : State} {m : MethodId} {args : Array Value} {below : List Frame} {meth : Method} {c : Code} {Q : State → Prop} {D : va_G} {tys : List (ClassId × FieldType)} {A : Nat → Prop} {cells slots nL n pc : Nat} {a : Nat → Nat} {v : Nat → va_E} {lv : List (Option Value)} {rest : List Value} {cc bytes : ByteArray} {Ts ws : List Cond} {own C' : String} {ret ret' : Option FieldType} {y : MethodName} {rm : Room} {maxL ix b mc ms q len len' : Nat} {G : (Nat → Prop) → State → Prop} {cI : ClassId} {f : Nat → Int32} {P : (Nat → Int32) → Prop}
theorem gw_new {o : Nat} {a a' : Nat → Nat} {v v' : Nat → va_E} {n' : Nat} {r : Option Value} (ho : o < n) (h : PoN cI 1 (fun k => a (o + k)) (fun k => v (o + k)) len' P r n' a' v')
    (k : ∀ a2 v2, (∀ j, j < n → a2 j = a j) → (∀ j, j < n → v2 j = v j) → ∀ f', Ar cI (n + 1) a2 v2 n (a2 n) len' f' → P f' → aW p l e R s m args below meth c Q D A cells slots (n + 1) a2 v2 pc lv (.ref (a2 n) :: rest)) : aW p l e R s m args below meth c Q D A cells slots (n + (n' - 1)) (blF o 1 n a a') (blF o 1 n v v') pc lv (r.toList ++ rest) := by
  obtain ⟨h1, h2, h3, rfl, f', h4, h5⟩ := h
  subst h1
  have e1 : ∀ j, j < n → blF o 1 n a a' j = a j := fun j hj => by
    simp only [blF]
    rw [if_pos hj]
    by_cases c : o ≤ j ∧ j < o + 1
    · rw [if_pos c, show j - o = 0 by omega, h2 0 (by omega)]
      show a (o + 0) = a j
      rw [show o + 0 = j by omega]
    · rw [if_neg c]
  have e2 : ∀ j, j < n → blF o 1 n v v' j = v j := fun j hj => by
    simp only [blF]
    rw [if_pos hj]
    by_cases c : o ≤ j ∧ j < o + 1
    · rw [if_pos c, show j - o = 0 by omega, h3 0 (by omega)]
      show v (o + 0) = v j
      rw [show o + 0 = j by omega]
    · rw [if_neg c]
  have e3 : blF o 1 n a a' n = a' 1 := by
    simp only [blF]; rw [if_neg (by omega), Nat.sub_self]
  have e4 : blF o 1 n v v' n = v' 1 := by
    simp only [blF]; rw [if_neg (by omega), Nat.sub_self]
  have h9 := k _ _ e1 e2 f' ⟨by omega, rfl, by rw [e4]; exact h4.2.2.1, h4.2.2.2⟩ h5
  rw [e3] at h9
  exact h9
end GN2
section ACT
variable {l : Launch} {D : va_G} {cI cZ cR cJ : ClassId}
set_option maxHeartbeats 8000000 in
set_option maxRecDepth 100000 in
theorem c_L_act {x : Int32} {n m : Nat} {a : Nat → Nat} {v : Nat → va_E} {ac : Nat → Nat} {bs : Nat} {σ : CS} {h : Nat → Nat} {L : Nat → List Nat} (LW : LawW cI cR cJ n a v ac bs σ m h L) : gM l D (cTys cI cZ cR cJ) yL_act wsL_act rmL_act gA n a v [.ref (ac 44), .ref bs, .int x] 40 400 (fun r n' a' v' => r = some (.int 1) ∧ ∃ σ' m' h' L', m ≤ m' ∧ LawW cI cR cJ n' a' v' ac bs σ' m' h' L') := by
  obtain ⟨rfl, K, hbs, S, H⟩ := LW
  obtain ⟨hm, x2, x3, x4, x5, f, g, rf, O, ⟨A1, hf⟩, ⟨R1, hg⟩, hR⟩ := S.ex (Nat.le_refl _) hbs
  have hRa := fun (k : Nat) (hk : k < m) => (hR k hk).1
  have WL := H.1
  refine gM_of sL_act (lv0 := [some (.ref (ac 44)), some (.ref bs), some (.int x), none, none, none, none, none, none, none]) (j := 7) rfl rfl ?_
  intro pM eM sM mM argsM belowM methM cM AM szM CG hA9
  have C := CG.1
  have hO : aO sM := CG.2
  have same : ∀ pc, decode cL_act pc = .ok (.ireturn, 1) → ∀ lv', lv'.length = 10 → aW pM l eM rmL_act sM mM argsM belowM methM cM (MQ belowM (gQ D (49 + (3 + m)) a szM (fun r n' a' v' => r = some (.int 1) ∧ ∃ σ' m' h' L', m ≤ m' ∧ LawW cI cR cJ n' a' v' ac bs σ' m' h' L')) argsM sM 40 400 AM) D AM (0) (0) (49 + (3 + m)) a v pc lv' [.int 1] := fun pc d lv' _ => gw_zret C hA9 d rfl (by omega) (by omega) ⟨rfl, σ, m, h, L, Nat.le_refl m, rfl, K, hbs, S, H⟩
  have h84 : aW pM l eM rmL_act sM mM argsM belowM methM cM (MQ belowM (gQ D (49 + (3 + m)) a szM (fun r n' a' v' => r = some (.int 1) ∧ ∃ σ' m' h' L', m ≤ m' ∧ LawW cI cR cJ n' a' v' ac bs σ' m' h' L')) argsM sM 40 400 AM) D AM (0) (0) (49 + (3 + m)) a v 84 [some (.ref (ac 44)), some (.ref bs), some (.int x), some (.int (nI m)), none, none, none, none, none, none] [] := by
    by_cases hm9 : m = 10
    · skip
      refine aw_iload_n C dL_act_84 Lk3 ?_
      refine aw_bipush C dL_act_85 (x := nI 10) (by decide) ?_
      refine aw_icmp_ne C dL_act_87 (tgt := 92) (by decide) (fun c_87 => absurd c_87 (fun z => z (by rw [hm9]))) (fun c_87 => ?_)
      refine aw_iconst C dL_act_90 (x := nI 1) (by decide) ?_
      exact same 91 dL_act_91 _ rfl
    · skip
      refine aw_iload_n C dL_act_84 Lk3 ?_
      refine aw_bipush C dL_act_85 (x := nI 10) (by decide) ?_
      refine aw_icmp_ne C dL_act_87 (tgt := 92) (by decide) (fun c_87 => ?_) (fun c_87 => absurd (fun z => hm9 (nI_inj (by omega) (by omega) z)) c_87)
      refine aw_aload_n C dL_act_92 Lk1 ?_
      have hK := c_X4_come (l := l) (D := D) (cZ := cZ) (cR := cR) (G := gA) (fun _ _ h => h) S (by omega)
      rw [show a (49 + 0) = bs from hbs] at hK
      refine gw_blV0 (o := 49) (mN := 3 + m) (rm := rmX4_come) (mc := 3) (ms := 22) CG gA_H dL_act_93 gL_act_X4_come sX4_come rfl (Nat.le_refl _) (fun r n' a' v' h9 => by have := h9.2.1; omega) ⟨0, 4, _, TX4, 6, by omega, hbs, O.2.2, rfl⟩ hK (fun r n' a' v' hp => ?_)
      obtain ⟨rfl, rfl, ha0, S2⟩ := hp
      have hn2 : 49 + (3 + m) + (3 + (m + 1) - (3 + m)) = 49 + (3 + (m + 1)) := by omega
      rw [hn2]
      have K2 : Cl cI cR (49 + (3 + (m + 1))) (blF 49 (3 + m) (49 + (3 + m)) a a') (blF 49 (3 + m) (49 + (3 + m)) v v') ac σ := ⟨by omega, fun k hk => (blF_out (by omega) (Or.inl hk)).trans (K.2.1 k hk), fun k hk => (blF_out (by omega) (Or.inl hk)).trans (K.2.2 k hk)⟩
      obtain ⟨σ', H', hMc⟩ := f_come (l := l) (D := D) (cI := cI) (cZ := cZ) (cR := cR) (cJ := cJ) (a := ac) H (by omega)
      refine aw_aload_n C dL_act_96 Lk0 ?_
      refine aw_clm0 C dL_act_97 gL_act_X3_come sX3_come (rm := rmX3_come) rfl K2 hMc (fun v3 K3 hv3 => ?_)
      refine aw_iload_n C dL_act_100 Lk3 ?_
      refine aw_icmp_ne C dL_act_101 (tgt := 108) (by decide) (fun c_101 => absurd c_101 (fun z => z rfl)) (fun c_101 => ?_)
      refine aw_iconst C dL_act_104 (x := nI 1) (by decide) ?_
      refine aw_goto C dL_act_105 (tgt := 109) (by decide) ?_
      refine gw_zret C hA9 dL_act_109 rfl (by omega) (by omega) ⟨rfl, σ', m + 1, _, _, by omega, rfl, K3, ?_, S2.is (fun k => blF_end rfl) (fun k => (hv3 _ (by omega)).trans (blF_end rfl)) rfl, H'⟩
      show blF 49 (3 + m) (49 + (3 + m)) a a' (49 + 0) = bs
      rw [blF_end rfl]; exact ha0
  have hrest : ∀ k, k < m → 2 ≤ m → ∀ cs, cs < 14 → aW pM l eM rmL_act sM mM argsM belowM methM cM (MQ belowM (gQ D (49 + (3 + m)) a szM (fun r n' a' v' => r = some (.int 1) ∧ ∃ σ' m' h' L', m ≤ m' ∧ LawW cI cR cJ n' a' v' ac bs σ' m' h' L')) argsM sM 40 400 AM) D AM (0) (0) (49 + (3 + m)) a v 57 [some (.ref (ac 44)), some (.ref bs), some (.int x), some (.int (nI m)), some (.int (nI k)), some (.int (nI (L k).length)), none, none, none, none] [.int (nI cs)] := by
    intro k hkm hm2 cs hcs
    obtain ⟨B0, hlk, hrk⟩ := hR k hkm
    by_cases e0 : cs = 0
    · subst e0
      exact aw_tableIn C dL_act_57 (tgt := 84) (by decide) (by decide) rfl (by decide) (aW_wk h84 (Wk.k (Wk.k (Wk.k (Wk.k (Wk.d (Wk.d (Wk.d (Wk.d (Wk.d (Wk.d Wk.n)))))))))))
    by_cases e1 : cs = 1
    · subst e1
      refine aw_tableIn C dL_act_57 (tgt := 110) (by decide) (by decide) rfl (by decide) ?_
      by_cases hl0 : (L k).length = 0
      · skip
        refine aw_iload C dL_act_110 Lk5 ?_
        refine aw_if_ne C dL_act_112 (tgt := 117) (by decide) (fun c_112 => absurd c_112 (fun z => z (by rw [hl0]; rfl))) (fun c_112 => ?_)
        refine aw_iconst C dL_act_115 (x := nI 1) (by decide) ?_
        exact same 116 dL_act_116 _ rfl
      · skip
        refine aw_iload C dL_act_110 Lk5 ?_
        refine aw_if_ne C dL_act_112 (tgt := 117) (by decide) (fun c_112 => ?_) (fun c_112 => absurd (nI_ne0 (by omega) (by omega)) c_112)
        refine aw_iload_n C dL_act_117 Lk2 ?_
        refine aw_iconst C dL_act_118 (x := nI 3) (by decide) ?_
        refine aw_ishr C dL_act_119 (fun w119 => ?_)
        refine aw_iload C dL_act_120 Lk5 ?_
        obtain ⟨i, hi, hB122⟩ := c_L_below (l := l) (D := D) (cI := cI) (cZ := cZ) (cR := cR) (cJ := cJ) (v := w119) (m := (L k).length) (by omega) (by omega)
        refine aw_subS (As := [.int w119, .int (nI ((L k).length))]) (n0 := 0) (a0 := a) (v0 := v) (v0' := v) (v1 := v) (f := fun k => k) C dL_act_122 gL_act_L_below sL_below (rm := rmL_below) rfl (fun k hk => absurd hk (by omega)) (fun k hk => absurd hk (by omega)) (fun i j hi _ _ => absurd hi (by omega)) (fun k hk => absurd hk (by omega)) (fun k hk => absurd hk (by omega)) (fun _ _ _ => rfl) (hB122 a v) ?_
        refine aw_istore C dL_act_125 St6 rfl ?_
        refine aw_aload_n C dL_act_127 Lk1 ?_
        refine aw_g_lists C O dL_act_128 (by decide +kernel) (by decide +kernel) ?_
        refine aw_iload C dL_act_131 Lk4 ?_
        refine aw_rl C R1 hkm (hg k hkm) dL_act_133 ?_
        refine aw_iload C dL_act_134 Lk6 ?_
        refine aw_il C B0 hi dL_act_136 ?_
        rw [hrk i hi]
        refine aw_istore C dL_act_137 St7 rfl ?_
        refine aw_aload_n C dL_act_139 Lk1 ?_
        refine aw_g_lists C O dL_act_140 (by decide +kernel) (by decide +kernel) ?_
        refine aw_iload C dL_act_143 Lk4 ?_
        refine aw_aload_n C dL_act_145 Lk1 ?_
        refine aw_g_lists C O dL_act_146 (by decide +kernel) (by decide +kernel) ?_
        refine aw_iload C dL_act_149 Lk4 ?_
        refine aw_rl C R1 hkm (hg k hkm) dL_act_151 ?_
        refine aw_iload C dL_act_152 Lk6 ?_
        refine gw_blS2 (o := 49 + (3 + k)) (mN := 1) CG gA_H dL_act_154 gL_act_X4_without sX4_without rfl (by omega) (fun r n' a' v' h9 => by have := h9.1; omega) (c_X4_without (B0.us (o := 49 + (3 + k)) (q := 0) (by omega)) hlk hi) (fun r n' a' v' hp => ?_)
        refine gw_new (by omega) hp (fun a2 v2 ha2 hv2 f' B1 hf' => ?_)
        have O := O.gr (n' := 49 + (3 + m) + 1) ha2 hv2 (by omega)
        have A1 := A1.gr (n' := 49 + (3 + m) + 1) ha2 hv2 (by omega)
        have R1 := R1.gr (n' := 49 + (3 + m) + 1) ha2 hv2 (by omega)
        have hRa := fun (q : Nat) (hq : q < m) => (hRa q hq).gr (n' := 49 + (3 + m) + 1) ha2 hv2 (by omega)
        have K4 := K.gr (n' := 49 + (3 + m) + 1) ha2 hv2 (by omega)
        obtain ⟨σ', H', hMc⟩ := f_drop (l := l) (D := D) (cI := cI) (cZ := cZ) (cR := cR) (cJ := cJ) (a := ac) H hkm hi
        refine bw_rs C hO R1 hkm B1 dL_act_157 (fun v3 hv3 R1 => ?_)
        have O := O.sv hv3 (by omega)
        have A1 := A1.sv hv3 (by omega)
        have hRa := fun (q : Nat) (hq : q < m) => (hRa q hq).sv hv3 (by omega)
        have B1 := B1.sv hv3 (by omega)
        have K4 := K4.sv hv3 (by omega)
        refine aw_aload_n C dL_act_158 Lk0 ?_
        refine aw_iload C dL_act_159 Lk4 ?_
        refine aw_iload C dL_act_161 Lk6 ?_
        refine aw_clm2 C dL_act_163 gL_act_X3_drop sX3_drop (rm := rmX3_drop) rfl K4 hMc (fun v4 K4 hv4 => ?_)
        have O := O.to (n' := 49 + (3 + m) + 1) (by omega) rfl (hv4 _ (by omega))
        have A1 := A1.to (n' := 49 + (3 + m) + 1) (by omega) rfl (hv4 _ (by omega))
        have R1 := R1.to (n' := 49 + (3 + m) + 1) (by omega) rfl (hv4 _ (by omega))
        have hRa := fun (q : Nat) (hq : q < m) => (hRa q hq).to (n' := 49 + (3 + m) + 1) (by omega) rfl (hv4 _ (by omega))
        have B1 := B1.to (n' := 49 + (3 + m) + 1) (by omega) rfl (hv4 _ (by omega))
        refine aw_iload C dL_act_166 Lk7 ?_
        refine aw_icmp_ne C dL_act_168 (tgt := 175) (by decide) (fun c_168 => absurd c_168 (fun z => z rfl)) (fun c_168 => ?_)
        refine aw_iconst C dL_act_171 (x := nI 1) (by decide) ?_
        refine aw_goto C dL_act_172 (tgt := 176) (by decide) ?_
        refine aW_perm (n' := 49 + (3 + m)) (a' := fun j => a2 (pmR (49 + k) (49 + (3 + m)) j)) (v' := fun j => v4 (pmR (49 + k) (49 + (3 + m)) j)) (f := pmR (49 + k) (49 + (3 + m))) (fun j hj => by simp only [pmR]; split <;> omega) (fun _ _ => rfl) (fun i j hi hj e => by simp only [pmR] at e; split at e <;> split at e <;> omega) (fun _ _ => rfl) ?_
        have hpe : ∀ q, q < m → q ≠ k → pmR (49 + k) (49 + (3 + m)) (49 + (3 + q)) = 49 + (3 + q) := fun q _ hq => pmR_n (by omega)
        have hpk : pmR (49 + k) (49 + (3 + m)) (49 + (3 + k)) = 49 + (3 + m) := by rw [show 49 + (3 + k) = 3 + (49 + k) by omega]; exact pmR_e
        have hps : ∀ j, j < 52 → pmR (49 + k) (49 + (3 + m)) j = j := fun j hj => pmR_n (by omega)
        refine gw_zret C hA9 dL_act_176 rfl (by omega) (by omega) ⟨rfl, σ', m, h, updL L k (delL (L k) i), Nat.le_refl m, rfl, ⟨by omega, fun j hj => ?_, fun j hj => ?_⟩, ?_, ⟨hm, ⟨x2, x3, x4, x5, ?_⟩, ⟨f, ?_, hf⟩, ⟨va_up g k (some (a2 (49 + (3 + m)))), ?_, fun q hq => ?_⟩, fun q => if q = k then f' else rf q, fun q hq => ?_⟩, H'⟩
        · show a2 (pmR _ _ j) = _; rw [hps j (by omega)]; exact K4.2.1 j hj
        · show v4 (pmR _ _ j) = _; rw [hps j (by omega)]; exact K4.2.2 j hj
        · show a2 (pmR _ _ 49) = _; rw [hps 49 (by omega)]; exact O.2.1
        · refine ⟨by omega, rfl, ?_⟩
          show v4 (pmR _ _ 49) = .inr (4, [.ref (a2 (pmR _ _ 50)), .ref (a2 (pmR _ _ 51)), x2, x3, x4, x5])
          rw [hps 49 (by omega), hps 50 (by omega), hps 51 (by omega), A1.2.1, R1.2.1]
          exact O.2.2
        · exact ⟨by omega, rfl, by show v4 (pmR _ _ 50) = _; rw [hps 50 (by omega)]; exact A1.2.2.1, A1.2.2.2⟩
        · exact ⟨by omega, rfl, by show v4 (pmR _ _ 51) = _; rw [hps 51 (by omega)]; exact R1.2.2.1, R1.2.2.2⟩
        · show va_up g k (some (a2 (49 + (3 + m)))) q = some (a2 (pmR (49 + k) (49 + (3 + m)) (49 + (3 + q))))
          by_cases c : q = k
          · subst c; rw [hpk]; simp [va_up]
          · simp only [va_up, if_neg c]
            rw [hpe q hq c, (hRa q hq).2.1]
            exact hg q hq
        · by_cases c : q = k
          · subst c
            have hlen : (updL L q (delL (L q) i) q).length = (L q).length - 1 := by simp only [updL, if_true]; exact delL_len hi
            rw [hlen]
            simp only [if_true]
            have h8 := WF.len H'.1 hq
            rw [hlen] at h8
            refine ⟨⟨by omega, rfl, ?_, B1.2.2.2⟩, by omega, fun p hp => ?_⟩
            · show v4 (pmR (49 + q) (49 + (3 + m)) (49 + (3 + q))) = _
              rw [hpk]; exact B1.2.2.1
            · simp only [updL, if_true]
              rw [hf' p hp, delL_at hi]
              by_cases c : p < i
              · rw [if_pos c, if_pos c]; exact hrk p (by omega)
              · rw [if_neg c, if_neg c]; exact hrk (p + 1) (by omega)
          · rw [show updL L k (delL (L k) i) q = L q from if_neg c]
            simp only [if_neg c]
            refine ⟨⟨by omega, rfl, ?_, (hRa q hq).2.2.2⟩, (hR q hq).2⟩
            show v4 (pmR (49 + k) (49 + (3 + m)) (49 + (3 + q))) = _
            rw [hpe q hq c]; exact (hRa q hq).2.2.1
    by_cases e2 : cs = 2
    · subst e2
      refine aw_tableIn C dL_act_57 (tgt := 177) (by decide) (by decide) rfl (by decide) ?_
      refine aw_iload_n C dL_act_177 Lk2 ?_
      refine aw_iconst C dL_act_178 (x := nI 3) (by decide) ?_
      refine aw_ishr C dL_act_179 (fun w179 => ?_)
      refine aw_iconst C dL_act_180 (x := nI 4) (by decide) ?_
      obtain ⟨jj, hjj, hB181⟩ := c_L_below (l := l) (D := D) (cI := cI) (cZ := cZ) (cR := cR) (cJ := cJ) (v := w179) (m := 4) (by omega) (by omega)
      refine aw_subS (As := [.int w179, .int (nI (4))]) (n0 := 0) (a0 := a) (v0 := v) (v0' := v) (v1 := v) (f := fun k => k) C dL_act_181 gL_act_L_below sL_below (rm := rmL_below) rfl (fun k hk => absurd hk (by omega)) (fun k hk => absurd hk (by omega)) (fun i j hi _ _ => absurd hi (by omega)) (fun k hk => absurd hk (by omega)) (fun k hk => absurd hk (by omega)) (fun _ _ _ => rfl) (hB181 a v) ?_
      by_cases ej : jj = 0
      · subst ej
        obtain ⟨σ', H', hMc⟩ := f_move (l := l) (D := D) (cI := cI) (cZ := cZ) (cR := cR) (cJ := cJ) (a := ac) H
        refine aw_if_le C dL_act_184 (tgt := 189) (by decide) (fun c_184 => ?_) (fun c_184 => absurd (by decide) c_184)
        refine aw_aload_n C dL_act_189 Lk0 ?_
        refine aw_clm0 C dL_act_190 gL_act_X3_move sX3_move (rm := rmX3_move) rfl K hMc (fun v4 K4 hv4 => ?_)
        refine aw_aload_n C dL_act_193 Lk1 ?_
        have S4 : SimAt cI cJ (3 + m) (fun k => a (49 + k)) (fun k => v4 (49 + k)) m h L := S.is (fun _ => rfl) (fun k => hv4 _ (by omega)) rfl
        have hK := c_X4_move (l := l) (D := D) (cZ := cZ) (cR := cR) WL S4
        rw [show a (49 + 0) = bs from hbs] at hK
        refine gw_blV0 (o := 49) (mN := 3 + m) (rm := rmX4_move) (mc := 40) (ms := 400) CG gA_H dL_act_194 gL_act_X4_move sX4_move rfl (Nat.le_refl _) (fun r n' a' v' h9 => by have := h9.2.1; omega) ⟨0, 4, _, TX4, 6, by omega, hbs, (hv4 49 (by omega)).trans O.2.2, rfl⟩ hK (fun r n' a' v' hp => ?_)
        obtain ⟨rfl, rfl, ha0, S2⟩ := hp
        have hn2 : 49 + (3 + m) + (3 + m - (3 + m)) = 49 + (3 + m) := by omega
        rw [hn2]
        refine aw_icmp_ne C dL_act_197 (tgt := 204) (by decide) (fun c_197 => absurd c_197 (fun z => z rfl)) (fun c_197 => ?_)
        refine aw_iconst C dL_act_200 (x := nI 1) (by decide) ?_
        refine aw_goto C dL_act_201 (tgt := 205) (by decide) ?_
        refine gw_zret C hA9 dL_act_205 rfl (by omega) (by omega) ⟨rfl, σ', m, _, _, Nat.le_refl m, rfl, ⟨by omega, fun k hk => (blF_out (by omega) (Or.inl hk)).trans (K4.2.1 k hk), fun k hk => (blF_out (by omega) (Or.inl hk)).trans (K4.2.2 k hk)⟩, ?_, S2.is (fun k => blF_end rfl) (fun k => blF_end rfl) rfl, H'⟩
        show blF 49 (3 + m) (49 + (3 + m)) a a' (49 + 0) = bs
        rw [blF_end rfl]; exact ha0
      · skip
        refine aw_if_le C dL_act_184 (tgt := 189) (by decide) (fun c_184 => absurd c_184 (nI_nle (by omega) (by omega))) (fun c_184 => ?_)
        refine aw_iconst C dL_act_187 (x := nI 1) (by decide) ?_
        exact same 188 dL_act_188 _ rfl
    refine aw_tableOut C dL_act_57 (tgt := 206) (Or.inr (by rw [nI_toInt (by omega)]; omega)) (by decide) ?_
    refine aw_iload_n C dL_act_206 Lk2 ?_
    refine aw_iconst C dL_act_207 (x := nI 4) (by decide) ?_
    refine aw_ishr C dL_act_208 (fun w208 => ?_)
    refine aw_iload_n C dL_act_209 Lk3 ?_
    obtain ⟨xw, hxw, hB210⟩ := c_L_below (l := l) (D := D) (cI := cI) (cZ := cZ) (cR := cR) (cJ := cJ) (v := w208) (m := m) (by omega) (by omega)
    refine aw_subS (As := [.int w208, .int (nI (m))]) (n0 := 0) (a0 := a) (v0 := v) (v0' := v) (v1 := v) (f := fun k => k) C dL_act_210 gL_act_L_below sL_below (rm := rmL_below) rfl (fun k hk => absurd hk (by omega)) (fun k hk => absurd hk (by omega)) (fun i j hi _ _ => absurd hi (by omega)) (fun k hk => absurd hk (by omega)) (fun k hk => absurd hk (by omega)) (fun _ _ _ => rfl) (hB210 a v) ?_
    refine aw_istore C dL_act_213 St8 rfl ?_
    refine aw_iload_n C dL_act_215 Lk2 ?_
    refine aw_iconst C dL_act_216 (x := nI 2) (by decide) ?_
    refine aw_ishr C dL_act_217 (fun w217 => ?_)
    refine aw_iload C dL_act_218 Lk5 ?_
    refine aw_iconst C dL_act_220 (x := nI 1) (by decide) ?_
    refine aw_iadd C dL_act_221 ?_
    rw [nI_add]
    obtain ⟨i, hi, hB222⟩ := c_L_below (l := l) (D := D) (cI := cI) (cZ := cZ) (cR := cR) (cJ := cJ) (v := w217) (m := (L k).length + 1) (by omega) (by omega)
    refine aw_subS (As := [.int w217, .int (nI ((L k).length + 1))]) (n0 := 0) (a0 := a) (v0 := v) (v0' := v) (v1 := v) (f := fun k => k) C dL_act_222 gL_act_L_below sL_below (rm := rmL_below) rfl (fun k hk => absurd hk (by omega)) (fun k hk => absurd hk (by omega)) (fun i j hi _ _ => absurd hi (by omega)) (fun k hk => absurd hk (by omega)) (fun k hk => absurd hk (by omega)) (fun _ _ _ => rfl) (hB222 a v) ?_
    by_cases hxh : xw = h k
    · skip
      refine aw_istore C dL_act_225 St9 rfl ?_
      refine aw_iload C dL_act_227 Lk8 ?_
      refine aw_aload_n C dL_act_229 Lk1 ?_
      refine aw_g_has C O dL_act_230 (by decide +kernel) (by decide +kernel) ?_
      refine aw_iload C dL_act_233 Lk4 ?_
      refine aw_il C A1 hkm dL_act_235 ?_
      rw [hf k hkm]
      refine aw_icmp_eq C dL_act_236 (tgt := 254) (by decide) (fun c_236 => ?_) (fun c_236 => absurd (by rw [hxh]) c_236)
      refine aw_iconst C dL_act_254 (x := nI 1) (by decide) ?_
      exact same 255 dL_act_255 _ rfl
    have hxh2 : ¬ nI xw = nI (h k) := fun z => hxh (nI_inj (by omega) (by have := WL.2.1 k hkm; omega) z)
    have hok : ∀ p, p < (L k).length → rf k p = nI ((L k).getD p 0) ∧ (L k).getD p 0 < 2 ^ 31 := fun p hp => ⟨hrk p hp, by have := ((WL.2.2.2 k hkm).1 p hp).1; omega⟩
    have cfind : aChk rmX4_find 3 rmL_act [some (.ref (ac 44)), some (.ref bs), some (.int x), some (.int (nI m)), some (.int (nI k)), some (.int (nI (L k).length)), none, none, some (.int (nI xw)), some (.int (nI i))] 10 0 0 0 0 [] = true := rfl
    by_cases hex : ∃ p, p < (L k).length ∧ (L k).getD p 0 = xw
    · skip
      have hfd := rFind_at (x := xw) (by omega) hok hex
      have hlt := (ow_spec (h := fun p => (L k).getD p 0) hex).1
      refine aw_istore C dL_act_225 St9 rfl ?_
      refine aw_iload C dL_act_227 Lk8 ?_
      refine aw_aload_n C dL_act_229 Lk1 ?_
      refine aw_g_has C O dL_act_230 (by decide +kernel) (by decide +kernel) ?_
      refine aw_iload C dL_act_233 Lk4 ?_
      refine aw_il C A1 hkm dL_act_235 ?_
      rw [hf k hkm]
      refine aw_icmp_eq C dL_act_236 (tgt := 254) (by decide) (fun c_236 => absurd c_236 hxh2) (fun c_236 => ?_)
      refine aw_aload_n C dL_act_239 Lk1 ?_
      refine aw_g_lists C O dL_act_240 (by decide +kernel) (by decide +kernel) ?_
      refine aw_iload C dL_act_243 Lk4 ?_
      refine aw_rl C R1 hkm (hg k hkm) dL_act_245 ?_
      refine aw_iload C dL_act_246 Lk8 ?_
      refine aw_find C dL_act_248 gL_act_X4_find B0 cfind ?_
      rw [hfd]
      refine aw_if_lt C dL_act_251 (tgt := 256) (by decide) (fun c_251 => absurd c_251 (nI_pos (by omega))) (fun c_251 => ?_)
      refine aw_iconst C dL_act_254 (x := nI 1) (by decide) ?_
      exact same 255 dL_act_255 _ rfl
    have hne : ∀ p, p < (L k).length → (L k).getD p 0 ≠ xw := fun p hp z => hex ⟨p, hp, z⟩
    have hfd := rFind_no (x := xw) (by omega) hok hne
    obtain ⟨σ', H', hMc⟩ := f_wish (l := l) (D := D) (cI := cI) (cZ := cZ) (cR := cR) (cJ := cJ) (a := ac) H hkm hxw (i := i) (by omega) ⟨hxh, hne⟩
    refine aw_istore C dL_act_225 St9 rfl ?_
    refine aw_iload C dL_act_227 Lk8 ?_
    refine aw_aload_n C dL_act_229 Lk1 ?_
    refine aw_g_has C O dL_act_230 (by decide +kernel) (by decide +kernel) ?_
    refine aw_iload C dL_act_233 Lk4 ?_
    refine aw_il C A1 hkm dL_act_235 ?_
    rw [hf k hkm]
    refine aw_icmp_eq C dL_act_236 (tgt := 254) (by decide) (fun c_236 => absurd c_236 hxh2) (fun c_236 => ?_)
    refine aw_aload_n C dL_act_239 Lk1 ?_
    refine aw_g_lists C O dL_act_240 (by decide +kernel) (by decide +kernel) ?_
    refine aw_iload C dL_act_243 Lk4 ?_
    refine aw_rl C R1 hkm (hg k hkm) dL_act_245 ?_
    refine aw_iload C dL_act_246 Lk8 ?_
    refine aw_find C dL_act_248 gL_act_X4_find B0 cfind ?_
    rw [hfd]
    refine aw_if_lt C dL_act_251 (tgt := 256) (by decide) (fun c_251 => ?_) (fun c_251 => absurd (by decide) c_251)
    refine aw_aload_n C dL_act_256 Lk1 ?_
    refine aw_g_lists C O dL_act_257 (by decide +kernel) (by decide +kernel) ?_
    refine aw_iload C dL_act_260 Lk4 ?_
    refine aw_aload_n C dL_act_262 Lk1 ?_
    refine aw_g_lists C O dL_act_263 (by decide +kernel) (by decide +kernel) ?_
    refine aw_iload C dL_act_266 Lk4 ?_
    refine aw_rl C R1 hkm (hg k hkm) dL_act_268 ?_
    refine aw_iload C dL_act_269 Lk9 ?_
    refine aw_iload C dL_act_271 Lk8 ?_
    refine gw_blS3 (o := 49 + (3 + k)) (mN := 1) CG gA_H dL_act_273 gL_act_X4_with sX4_with rfl (by omega) (fun r n' a' v' h9 => by have := h9.1; omega) (c_X4_with (B0.us (o := 49 + (3 + k)) (q := 0) (by omega)) hlk (by omega)) (fun r n' a' v' hp => ?_)
    refine gw_new (by omega) hp (fun a2 v2 ha2 hv2 f' B1 hf' => ?_)
    have O := O.gr (n' := 49 + (3 + m) + 1) ha2 hv2 (by omega)
    have A1 := A1.gr (n' := 49 + (3 + m) + 1) ha2 hv2 (by omega)
    have R1 := R1.gr (n' := 49 + (3 + m) + 1) ha2 hv2 (by omega)
    have hRa := fun (q : Nat) (hq : q < m) => (hRa q hq).gr (n' := 49 + (3 + m) + 1) ha2 hv2 (by omega)
    have K4 := K.gr (n' := 49 + (3 + m) + 1) ha2 hv2 (by omega)
    refine bw_rs C hO R1 hkm B1 dL_act_276 (fun v3 hv3 R1 => ?_)
    have O := O.sv hv3 (by omega)
    have A1 := A1.sv hv3 (by omega)
    have hRa := fun (q : Nat) (hq : q < m) => (hRa q hq).sv hv3 (by omega)
    have B1 := B1.sv hv3 (by omega)
    have K4 := K4.sv hv3 (by omega)
    refine aw_aload_n C dL_act_277 Lk0 ?_
    refine aw_iload C dL_act_278 Lk4 ?_
    refine aw_iload C dL_act_280 Lk9 ?_
    refine aw_iload C dL_act_282 Lk8 ?_
    refine aw_clm3 C dL_act_284 gL_act_X3_wish sX3_wish (rm := rmX3_wish) rfl K4 hMc (fun v4 K4 hv4 => ?_)
    have O := O.to (n' := 49 + (3 + m) + 1) (by omega) rfl (hv4 _ (by omega))
    have A1 := A1.to (n' := 49 + (3 + m) + 1) (by omega) rfl (hv4 _ (by omega))
    have R1 := R1.to (n' := 49 + (3 + m) + 1) (by omega) rfl (hv4 _ (by omega))
    have hRa := fun (q : Nat) (hq : q < m) => (hRa q hq).to (n' := 49 + (3 + m) + 1) (by omega) rfl (hv4 _ (by omega))
    have B1 := B1.to (n' := 49 + (3 + m) + 1) (by omega) rfl (hv4 _ (by omega))
    refine aw_iload C dL_act_287 Lk5 ?_
    refine aw_iconst C dL_act_289 (x := nI 1) (by decide) ?_
    refine aw_iadd C dL_act_290 ?_
    rw [nI_add]
    refine aw_icmp_ne C dL_act_291 (tgt := 298) (by decide) (fun c_291 => absurd c_291 (fun z => z rfl)) (fun c_291 => ?_)
    refine aw_iconst C dL_act_294 (x := nI 1) (by decide) ?_
    refine aw_goto C dL_act_295 (tgt := 299) (by decide) ?_
    refine aW_perm (n' := 49 + (3 + m)) (a' := fun j => a2 (pmR (49 + k) (49 + (3 + m)) j)) (v' := fun j => v4 (pmR (49 + k) (49 + (3 + m)) j)) (f := pmR (49 + k) (49 + (3 + m))) (fun j hj => by simp only [pmR]; split <;> omega) (fun _ _ => rfl) (fun i j hi hj e => by simp only [pmR] at e; split at e <;> split at e <;> omega) (fun _ _ => rfl) ?_
    have hpe : ∀ q, q < m → q ≠ k → pmR (49 + k) (49 + (3 + m)) (49 + (3 + q)) = 49 + (3 + q) := fun q _ hq => pmR_n (by omega)
    have hpk : pmR (49 + k) (49 + (3 + m)) (49 + (3 + k)) = 49 + (3 + m) := by rw [show 49 + (3 + k) = 3 + (49 + k) by omega]; exact pmR_e
    have hps : ∀ j, j < 52 → pmR (49 + k) (49 + (3 + m)) j = j := fun j hj => pmR_n (by omega)
    refine gw_zret C hA9 dL_act_299 rfl (by omega) (by omega) ⟨rfl, σ', m, h, updL L k (insL (L k) i xw), Nat.le_refl m, rfl, ⟨by omega, fun j hj => ?_, fun j hj => ?_⟩, ?_, ⟨hm, ⟨x2, x3, x4, x5, ?_⟩, ⟨f, ?_, hf⟩, ⟨va_up g k (some (a2 (49 + (3 + m)))), ?_, fun q hq => ?_⟩, fun q => if q = k then f' else rf q, fun q hq => ?_⟩, H'⟩
    · show a2 (pmR _ _ j) = _; rw [hps j (by omega)]; exact K4.2.1 j hj
    · show v4 (pmR _ _ j) = _; rw [hps j (by omega)]; exact K4.2.2 j hj
    · show a2 (pmR _ _ 49) = _; rw [hps 49 (by omega)]; exact O.2.1
    · refine ⟨by omega, rfl, ?_⟩
      show v4 (pmR _ _ 49) = .inr (4, [.ref (a2 (pmR _ _ 50)), .ref (a2 (pmR _ _ 51)), x2, x3, x4, x5])
      rw [hps 49 (by omega), hps 50 (by omega), hps 51 (by omega), A1.2.1, R1.2.1]
      exact O.2.2
    · exact ⟨by omega, rfl, by show v4 (pmR _ _ 50) = _; rw [hps 50 (by omega)]; exact A1.2.2.1, A1.2.2.2⟩
    · exact ⟨by omega, rfl, by show v4 (pmR _ _ 51) = _; rw [hps 51 (by omega)]; exact R1.2.2.1, R1.2.2.2⟩
    · show va_up g k (some (a2 (49 + (3 + m)))) q = some (a2 (pmR (49 + k) (49 + (3 + m)) (49 + (3 + q))))
      by_cases c : q = k
      · subst c; rw [hpk]; simp [va_up]
      · simp only [va_up, if_neg c]
        rw [hpe q hq c, (hRa q hq).2.1]
        exact hg q hq
    · by_cases c : q = k
      · subst c
        have hlen : (updL L q (insL (L q) i xw) q).length = (L q).length + 1 := by simp only [updL, if_true]; exact insL_len (Nat.le_of_lt_succ hi)
        rw [hlen]
        simp only [if_true]
        have h8 := WF.len H'.1 hq
        rw [hlen] at h8
        refine ⟨⟨by omega, rfl, ?_, B1.2.2.2⟩, by omega, fun p hp => ?_⟩
        · show v4 (pmR (49 + q) (49 + (3 + m)) (49 + (3 + q))) = _
          rw [hpk]; exact B1.2.2.1
        · simp only [updL, if_true]
          rw [hf' p hp, insL_at (Nat.le_of_lt_succ hi)]
          by_cases c : p < i
          · rw [if_pos c, if_pos c]; exact hrk p (by omega)
          · rw [if_neg c, if_neg c]
            by_cases c2 : p = i
            · rw [if_pos c2, if_pos c2]
            · rw [if_neg c2, if_neg c2]; exact hrk (p - 1) (by omega)
      · rw [show updL L k (insL (L k) i xw) q = L q from if_neg c]
        simp only [if_neg c]
        refine ⟨⟨by omega, rfl, ?_, (hRa q hq).2.2.2⟩, (hR q hq).2⟩
        show v4 (pmR (49 + k) (49 + (3 + m)) (49 + (3 + q))) = _
        rw [hpe q hq c]; exact (hRa q hq).2.2.1
  rcases Nat.eq_zero_or_pos m with hm0 | hm0
  · skip
    refine aw_aload_n C dL_act_0 Lk1 ?_
    refine aw_g_has C O dL_act_1 (by decide +kernel) (by decide +kernel) ?_
    refine aw_al C A1 dL_act_4 ?_
    refine aw_istore_n C dL_act_5 St3 rfl ?_
    refine aw_iload_n C dL_act_6 Lk3 ?_
    refine aw_if_ne C dL_act_7 (tgt := 14) (by decide) (fun c_7 => absurd c_7 (fun z => z (by rw [hm0]; rfl))) (fun c_7 => ?_)
    refine aw_iconst C dL_act_10 (x := nI 0) (by decide) ?_
    refine aw_goto C dL_act_11 (tgt := 19) (by decide) ?_
    refine aw_istore C dL_act_19 St4 rfl ?_
    refine aw_iload_n C dL_act_21 Lk3 ?_
    refine aw_if_ne C dL_act_22 (tgt := 29) (by decide) (fun c_22 => absurd c_22 (fun z => z (by rw [hm0]; rfl))) (fun c_22 => ?_)
    refine aw_iconst C dL_act_25 (x := nI 0) (by decide) ?_
    refine aw_goto C dL_act_26 (tgt := 37) (by decide) ?_
    refine aw_istore C dL_act_37 St5 rfl ?_
    refine aw_iload_n C dL_act_39 Lk3 ?_
    refine aw_iconst C dL_act_40 (x := nI 2) (by decide) ?_
    refine aw_icmp_ge C dL_act_41 (tgt := 48) (by decide) (fun c_41 => absurd c_41 (nI_ge (by omega) (by omega))) (fun c_41 => ?_)
    refine aw_iconst C dL_act_44 (x := nI 0) (by decide) ?_
    refine aw_goto C dL_act_45 (tgt := 57) (by decide) ?_
    refine aw_tableIn C dL_act_57 (tgt := 84) (by decide) (by decide) rfl (by decide) ?_
    exact aW_wk h84 (Wk.k (Wk.k (Wk.k (Wk.k (Wk.d (Wk.d (Wk.d (Wk.d (Wk.d (Wk.d Wk.n))))))))))
  · skip
    refine aw_aload_n C dL_act_0 Lk1 ?_
    refine aw_g_has C O dL_act_1 (by decide +kernel) (by decide +kernel) ?_
    refine aw_al C A1 dL_act_4 ?_
    refine aw_istore_n C dL_act_5 St3 rfl ?_
    refine aw_iload_n C dL_act_6 Lk3 ?_
    refine aw_if_ne C dL_act_7 (tgt := 14) (by decide) (fun c_7 => ?_) (fun c_7 => absurd (nI_ne0 hm0 (by omega)) c_7)
    refine aw_iload_n C dL_act_14 Lk2 ?_
    refine aw_iload_n C dL_act_15 Lk3 ?_
    obtain ⟨k, hkm, hB16⟩ := c_L_below (l := l) (D := D) (cI := cI) (cZ := cZ) (cR := cR) (cJ := cJ) (v := x) (m := m) hm0 (by omega)
    refine aw_subS (As := [.int x, .int (nI (m))]) (n0 := 0) (a0 := a) (v0 := v) (v0' := v) (v1 := v) (f := fun k => k) C dL_act_16 gL_act_L_below sL_below (rm := rmL_below) rfl (fun k hk => absurd hk (by omega)) (fun k hk => absurd hk (by omega)) (fun i j hi _ _ => absurd hi (by omega)) (fun k hk => absurd hk (by omega)) (fun k hk => absurd hk (by omega)) (fun _ _ _ => rfl) (hB16 a v) ?_
    by_cases hm2 : 2 ≤ m
    · skip
      refine aw_istore C dL_act_19 St4 rfl ?_
      refine aw_iload_n C dL_act_21 Lk3 ?_
      refine aw_if_ne C dL_act_22 (tgt := 29) (by decide) (fun c_22 => ?_) (fun c_22 => absurd (nI_ne0 hm0 (by omega)) c_22)
      refine aw_aload_n C dL_act_29 Lk1 ?_
      refine aw_g_lists C O dL_act_30 (by decide +kernel) (by decide +kernel) ?_
      refine aw_iload C dL_act_33 Lk4 ?_
      refine aw_rl C R1 hkm (hg k hkm) dL_act_35 ?_
      refine aw_al C (hRa k hkm) dL_act_36 ?_
      refine aw_istore C dL_act_37 St5 rfl ?_
      refine aw_iload_n C dL_act_39 Lk3 ?_
      refine aw_iconst C dL_act_40 (x := nI 2) (by decide) ?_
      refine aw_icmp_ge C dL_act_41 (tgt := 48) (by decide) (fun c_41 => ?_) (fun c_41 => absurd (nI_le hm2 (by omega)) c_41)
      refine aw_iload_n C dL_act_48 Lk2 ?_
      refine aw_bipush C dL_act_49 (x := nI 9) (by decide) ?_
      refine aw_ishr C dL_act_51 (fun w51 => ?_)
      refine aw_bipush C dL_act_52 (x := nI 14) (by decide) ?_
      obtain ⟨cs, hcs, hB54⟩ := c_L_below (l := l) (D := D) (cI := cI) (cZ := cZ) (cR := cR) (cJ := cJ) (v := w51) (m := 14) (by omega) (by omega)
      refine aw_subS (As := [.int w51, .int (nI (14))]) (n0 := 0) (a0 := a) (v0 := v) (v0' := v) (v1 := v) (f := fun k => k) C dL_act_54 gL_act_L_below sL_below (rm := rmL_below) rfl (fun k hk => absurd hk (by omega)) (fun k hk => absurd hk (by omega)) (fun i j hi _ _ => absurd hi (by omega)) (fun k hk => absurd hk (by omega)) (fun k hk => absurd hk (by omega)) (fun _ _ _ => rfl) (hB54 a v) ?_
      exact hrest k hkm hm2 cs hcs
    · skip
      refine aw_istore C dL_act_19 St4 rfl ?_
      refine aw_iload_n C dL_act_21 Lk3 ?_
      refine aw_if_ne C dL_act_22 (tgt := 29) (by decide) (fun c_22 => ?_) (fun c_22 => absurd (nI_ne0 hm0 (by omega)) c_22)
      refine aw_aload_n C dL_act_29 Lk1 ?_
      refine aw_g_lists C O dL_act_30 (by decide +kernel) (by decide +kernel) ?_
      refine aw_iload C dL_act_33 Lk4 ?_
      refine aw_rl C R1 hkm (hg k hkm) dL_act_35 ?_
      refine aw_al C (hRa k hkm) dL_act_36 ?_
      refine aw_istore C dL_act_37 St5 rfl ?_
      refine aw_iload_n C dL_act_39 Lk3 ?_
      refine aw_iconst C dL_act_40 (x := nI 2) (by decide) ?_
      refine aw_icmp_ge C dL_act_41 (tgt := 48) (by decide) (fun c_41 => absurd c_41 (nI_ge (by omega) (by omega))) (fun c_41 => ?_)
      refine aw_iconst C dL_act_44 (x := nI 0) (by decide) ?_
      refine aw_goto C dL_act_45 (tgt := 57) (by decide) ?_
      refine aw_tableIn C dL_act_57 (tgt := 84) (by decide) (by decide) rfl (by decide) ?_
      exact aW_wk h84 (Wk.k (Wk.k (Wk.k (Wk.k (Wk.d (Wk.d (Wk.d (Wk.d (Wk.d (Wk.d Wk.n))))))))))
end ACT
