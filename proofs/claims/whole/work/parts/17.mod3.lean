/-! HutRingsModel: one round, and all of them -/
theorem lpF_n {p : Nat → Bool} {val old : Nat → Int32} {n : Nat} (h : ∀ q, p q = true → q < n) : lpF p val old n = fun q => if p q = true then val q else old q := by
  funext q
  simp only [lpF]
  by_cases c : p q = true
  · rw [if_pos ⟨h q c, c⟩, if_pos c]
  · rw [if_neg (fun z => c z.2), if_neg c]
theorem lpF_in {p : Nat → Bool} {val old : Nat → Int32} {i q : Nat} (h : q < i) (hp : p q = true) : lpF p val old i q = val q := if_pos ⟨h, hp⟩
theorem eR_same {i : Nat} {e0 : Nat → Int32} {th : Nat → Bool} (h : e0 i = bI (th i)) : eR (i + 1) e0 th = eR i e0 th := by
  funext q
  simp only [eR]
  by_cases c : q < i
  · rw [if_pos c, if_pos (by omega)]
  · rw [if_neg c]
    by_cases e : q = i
    · rw [if_pos (by omega), e, h]
    · rw [if_neg (by omega)]
theorem eR_lo {i q : Nat} {e0 : Nat → Int32} {th : Nat → Bool} (h : ¬ q < i) : eR i e0 th q = e0 q := if_neg h
theorem eR_eR {n : Nat} {e0 : Nat → Int32} {th th' : Nat → Bool} : eR n (eR n e0 th) th' = eR n e0 th' := by
  funext q
  simp only [eR]
  by_cases c : q < n
  · rw [if_pos c, if_pos c]
  · rw [if_neg c, if_neg c, if_neg c]
theorem nI_mx {x y : Nat} (hx : x < 2 ^ 31) (hy : y < 2 ^ 31) : (if nI x < nI y then nI y else nI x) = nI (if x < y then y else x) := by
  by_cases c : x < y
  · rw [if_pos c, if_pos (nI_lt c hy)]
  · rw [if_neg c, if_neg (nI_nlt (by omega) hx)]
theorem mxF_le {p : Nat → Bool} {v : Nat → Nat} {a m : Nat} (ha : a ≤ m) (hv : ∀ i, v i ≤ m) : ∀ i, mxF p v a i ≤ m := by
  intro i
  induction i with
  | zero => exact ha
  | succ i ih =>
    simp only [mxF]
    have := hv i
    cases p i
    · exact ih
    · simp only [if_true]
      by_cases c : mxF p v a i < v i
      · rw [if_pos c]; exact this
      · rw [if_neg c]; exact ih
theorem grR_le {T : Nat → List Nat} {t0 : Nat → Bool} {n : Nat} : ∀ r, grR T t0 n r ≤ 10 := by
  intro r
  induction r with
  | zero => exact Nat.zero_le _
  | succ r ih => exact mxF_le ih (fun i => cy_le _ _) n
theorem amF_in {T : Nat → List Nat} {th : Nat → Bool} {n q : Nat} {m : Nat → Int32} (h : q < n) (ht : th q = true) : amF T th n m q = nI (fT T th q) := by
  rw [amF, if_pos h, ht]; rfl
theorem ldR_eq {T : Nat → List Nat} {t0 : Nat → Bool} {r i : Nat} (h : clR T t0 r i = true) : ldR T t0 r i = (decide (1 < cyR T t0 r i) && lsB (faR T t0 r) i (cyR T t0 r i)) := by
  simp only [ldR, h, Bool.true_and, lsB]
theorem anG_any {T : Nat → List Nat} {t0 : Nat → Bool} {n r : Nat} : anG (thR T t0 r) n 0 = anyT T t0 n r := by
  apply Bool.eq_iff_iff.mpr
  rw [anG_iff, anyT_iff]
  constructor
  · rintro ⟨k, -, h1, h2⟩; exact ⟨k, by omega, h2⟩
  · rintro ⟨k, h1, h2⟩; exact ⟨k, Nat.zero_le _, by omega, h2⟩
/-- the reference behind r rounds -/
def smR (τ : MS) (n : Nat) (T : Nat → List Nat) (t0 : Nat → Bool) (h : Nat → Nat) (g0 d0 z0 m0 e0 : Nat → Int32) (r : Nat) : MS :=
  mST τ (gtR T t0 h g0 r) (dnR T t0 d0 r) (zmR T t0 z0 r) (mA T t0 n m0 r) (eR n e0 (thR T t0 r)) (nI r) (nI (rmR T t0 n r)) (nI (grR T t0 n r))
section MOD3
variable {l : Launch} {D : va_G} {cI cZ cR cJ : ClassId} {b : Nat → Nat}
set_option maxHeartbeats 4000000 in
set_option maxRecDepth 100000 in
theorem c_X4_roundOn {τ : MS} {n : Nat} {h : Nat → Nat} {T : Nat → List Nat} {t0 : Nat → Bool} (H : MRun τ n h T t0) (ht0 : tOK t0 n) {r : Nat} (hr : r < 10) {g0 d0 z0 m e0 : Nat → Int32} : aM l D (cTys cI cZ cR cJ) 9 b yX4_roundOn wsX4_roundOn rmX4_roundOn [.ref (b 0)] (mv cI cZ b (mST τ (gtR T t0 h g0 r) (dnR T t0 d0 r) (zmR T t0 z0 r) m (eR n e0 (thR T t0 r)) (nI r) (nI (rmR T t0 n r)) (nI (grR T t0 n r)))) (none) (mv cI cZ b (mST τ (gtR T t0 h g0 (r + 1)) (dnR T t0 d0 (r + 1)) (zmR T t0 z0 (r + 1)) (amF T (thR T t0 r) n m) (eR n e0 (thR T t0 (r + 1))) (nI (r + 1)) (nI (rmR T t0 n (r + 1))) (nI (grR T t0 n (r + 1))))) := by
  obtain ⟨hn, h1, hh, hgo, hL⟩ := id H
  refine aM_of sX4_roundOn (lv0 := [some (.ref (b 0)), none, none, none, none]) (j := 4) rfl rfl ?_
  intro pM eM sM mM argsM belowM methM cM AM C
  refine aw_aload_n C dX4_roundOn_0 Lk0 ?_
  refine aw_dup C dX4_roundOn_1 rfl ?_
  refine aw_gX4_last C  dX4_roundOn_2 (by decide +kernel) (by decide +kernel) ?_
  rw [mST_la]
  refine aw_iconst C dX4_roundOn_5 (x := nI 1) (by decide) ?_
  refine aw_iadd C dX4_roundOn_6 ?_
  rw [nI_add]
  refine aw_pX4_last C  dX4_roundOn_7 (by decide +kernel) (by decide +kernel) ?_
  rw [mST_sla]
  refine aw_aload_n C dX4_roundOn_10 Lk0 ?_
  refine aw_cV0v C dX4_roundOn_11 gX4_roundOn_X4_aimAll sX4_aimAll (rm := rmX4_aimAll) rfl recMod (c_X4_aimAll H (th := thR T t0 r) (fun q hq => eR_at hq)) ?_
  refine aw_iconst C dX4_roundOn_14 (x := nI 0) (by decide) ?_
  refine aw_istore_n C dX4_roundOn_15 St1 rfl ?_
  refine aw_iconst C dX4_roundOn_16 (x := nI 0) (by decide) ?_
  refine aw_istore_n C dX4_roundOn_17 St2 rfl ?_
  have hl_18 : ∀ (j i : Nat) (hj : i + j = n), aW pM l eM rmX4_roundOn sM mM argsM belowM methM cM (MQ belowM (aQ D 9 b (mv cI cZ b (mST τ (gtR T t0 h g0 (r + 1)) (dnR T t0 d0 (r + 1)) (zmR T t0 z0 (r + 1)) (amF T (thR T t0 r) n m) (eR n e0 (thR T t0 (r + 1))) (nI (r + 1)) (nI (rmR T t0 n (r + 1))) (nI (grR T t0 n (r + 1))))) (none) AM) argsM sM 0 0 AM) D AM 0 0 9 b (mv cI cZ b (mST τ (lpF (clR T t0 r) (fun q => nI (h (faR T t0 r q))) (gtR T t0 h g0 r) (i)) (lpF (clR T t0 r) (fun _ => nI (r + 1)) (dnR T t0 d0 r) (i)) (lpF (thR T t0 r) (fun q => nI (cyR T t0 r q)) (zmR T t0 z0 r) (i)) (amF T (thR T t0 r) n m) (eR n e0 (thR T t0 r)) (nI (r + 1)) (nI (rmR T t0 n r)) (nI (mxF (clR T t0 r) (cyR T t0 r) (grR T t0 n r) (i))))) 18 [some (.ref (b 0)), some (.int (nI (fb_ct (ldR T t0 r) i))), some (.int (nI i)), none, none] [] := by
    intro j
    induction j with
    | zero =>
      intro i hj
      have hin : i = n := by omega
      rw [hin, lpF_n (fun q hq => thR_lt ht0 (clR_th hq).1), lpF_n (fun q hq => thR_lt ht0 (clR_th hq).1), lpF_n (fun q hq => thR_lt ht0 hq)]
      refine aw_iload_n C dX4_roundOn_18 Lk2 ?_
      refine aw_aload_n C dX4_roundOn_19 Lk0 ?_
      refine aw_gX4_keepers C  dX4_roundOn_20 (by decide +kernel) (by decide +kernel) ?_
      rw [mST_n, h1]
      refine aw_icmp_ge C dX4_roundOn_23 (tgt := 192) (by decide) (fun c_23 => ?_) (fun c_23 => absurd (nI_le (Nat.le_refl _) (by omega)) c_23)
      refine aw_aload_n C dX4_roundOn_192 Lk0 ?_
      refine aw_dup C dX4_roundOn_193 rfl ?_
      refine aw_gX4_rings C  dX4_roundOn_194 (by decide +kernel) (by decide +kernel) ?_
      rw [mST_ri]
      refine aw_iload_n C dX4_roundOn_197 Lk1 ?_
      refine aw_iadd C dX4_roundOn_198 ?_
      rw [nI_add]
      refine aw_pX4_rings C  dX4_roundOn_199 (by decide +kernel) (by decide +kernel) ?_
      rw [mST_sri]
      refine aw_iconst C dX4_roundOn_202 (x := nI 0) (by decide) ?_
      refine aw_istore_n C dX4_roundOn_203 St2 rfl ?_
      have hl_204 : ∀ (j i : Nat) (hj : i + j = n), aW pM l eM rmX4_roundOn sM mM argsM belowM methM cM (MQ belowM (aQ D 9 b (mv cI cZ b (mST τ (gtR T t0 h g0 (r + 1)) (dnR T t0 d0 (r + 1)) (zmR T t0 z0 (r + 1)) (amF T (thR T t0 r) n m) (eR n e0 (thR T t0 (r + 1))) (nI (r + 1)) (nI (rmR T t0 n (r + 1))) (nI (grR T t0 n (r + 1))))) (none) AM) argsM sM 0 0 AM) D AM 0 0 9 b (mv cI cZ b (mST τ (gtR T t0 h g0 (r + 1)) (dnR T t0 d0 (r + 1)) (zmR T t0 z0 (r + 1)) (amF T (thR T t0 r) n m) (eR (i) (eR n e0 (thR T t0 r)) (thR T t0 (r + 1))) (nI (r + 1)) (nI (rmR T t0 n (r + 1))) (nI (grR T t0 n (r + 1))))) 204 [some (.ref (b 0)), some (.int (nI (fb_ct (ldR T t0 r) n))), some (.int (nI i)), none, none] [] := by
        intro j
        induction j with
        | zero =>
          intro i hj
          have hin : i = n := by omega
          rw [hin]
          refine aw_iload_n C dX4_roundOn_204 Lk2 ?_
          refine aw_aload_n C dX4_roundOn_205 Lk0 ?_
          refine aw_gX4_keepers C  dX4_roundOn_206 (by decide +kernel) (by decide +kernel) ?_
          rw [mST_n, h1]
          refine aw_icmp_ge C dX4_roundOn_209 (tgt := 243) (by decide) (fun c_209 => ?_) (fun c_209 => absurd (nI_le (Nat.le_refl _) (by omega)) c_209)
          exact aw_vend C dX4_roundOn_243 (by rw [eR_eR]) rfl
        | succ j ih =>
          intro i hj
          have hi : i < n := by omega
          refine aw_iload_n C dX4_roundOn_204 Lk2 ?_
          refine aw_aload_n C dX4_roundOn_205 Lk0 ?_
          refine aw_gX4_keepers C  dX4_roundOn_206 (by decide +kernel) (by decide +kernel) ?_
          rw [mST_n, h1]
          refine aw_icmp_ge C dX4_roundOn_209 (tgt := 243) (by decide) (fun c_209 => absurd c_209 (nI_ge hi (by omega))) (fun c_209 => ?_)
          refine aw_aload_n C dX4_roundOn_212 Lk0 ?_
          refine aw_gX4_there C  dX4_roundOn_213 (by decide +kernel) (by decide +kernel) ?_
          refine aw_iload_n C dX4_roundOn_216 Lk2 ?_
          refine aw_ilX4n_8 C dX4_roundOn_217 (by omega) ?_
          rw [mST_e, eR_lo (Nat.lt_irrefl i), eR_at hi]
          refine aw_if_eq C dX4_roundOn_218 (tgt := 237) (by decide) (fun c_218 => ?_) (fun c_218 => ?_)
          · skip
            have hb : thR T t0 r i = false := bI_0.mp c_218
            have hsm : thR T t0 r i = thR T t0 (r + 1) i := by
              rw [hb]
              cases e9 : thR T t0 (r + 1) i
              · rfl
              · rw [thR_le e9] at hb; cases hb
            refine aw_iinc C dX4_roundOn_237 Lk2 (nI_1 _) St2 rfl ?_
            refine aw_goto C dX4_roundOn_240 (tgt := 204) (by decide) ?_
            have hq := ih (i + 1) (by omega)
            rw [eR_same (by rw [eR_at hi]; exact bI_eq hsm)] at hq
            exact hq
          · skip
            have hb : thR T t0 r i = true := by cases e9 : thR T t0 r i <;> first | rfl | (rw [e9] at c_218; exact absurd rfl c_218)
            refine aw_aload_n C dX4_roundOn_221 Lk0 ?_
            refine aw_gX4_ring C  dX4_roundOn_222 (by decide +kernel) (by decide +kernel) ?_
            refine aw_iload_n C dX4_roundOn_225 Lk2 ?_
            refine aw_ilX4n_6 C dX4_roundOn_226 (by omega) ?_
            rw [mST_z, show zmR T t0 z0 (r + 1) i = nI (cyR T t0 r i) by (simp only [zmR, hb]; rfl)]
            refine aw_if_le C dX4_roundOn_227 (tgt := 237) (by decide) (fun c_227 => ?_) (fun c_227 => ?_)
            · skip
              have hc0 : cyR T t0 r i = 0 := by
                have h9 : cyR T t0 r i ≤ 10 := cy_le _ _
                rcases Nat.eq_zero_or_pos (cyR T t0 r i) with q | q
                · exact q
                · exact absurd c_227 (nI_nle q (by omega))
              have hsm : thR T t0 r i = thR T t0 (r + 1) i := by
                have h9 := thR_cl (T := T) (t0 := t0) (r := r) (k := i)
                rw [show clR T t0 r i = false by (simp only [clR, hb, hc0]; rfl), Bool.or_false] at h9
                exact h9
              refine aw_iinc C dX4_roundOn_237 Lk2 (nI_1 _) St2 rfl ?_
              refine aw_goto C dX4_roundOn_240 (tgt := 204) (by decide) ?_
              have hq := ih (i + 1) (by omega)
              rw [eR_same (by rw [eR_at hi]; exact bI_eq hsm)] at hq
              exact hq
            · skip
              have hcl : clR T t0 r i = true := clR_of hb (fun z9 => c_227 (by rw [z9]; decide))
              have hnt : thR T t0 (r + 1) i = false := (clR_th hcl).2.2
              refine aw_aload_n C dX4_roundOn_230 Lk0 ?_
              refine aw_gX4_there C  dX4_roundOn_231 (by decide +kernel) (by decide +kernel) ?_
              refine aw_iload_n C dX4_roundOn_234 Lk2 ?_
              refine aw_iconst C dX4_roundOn_235 (x := nI 0) (by decide) ?_
              refine aw_isX4n_8 C rfl dX4_roundOn_236 (by omega) ?_
              rw [mST_se]
              refine aw_iinc C dX4_roundOn_237 Lk2 (nI_1 _) St2 rfl ?_
              refine aw_goto C dX4_roundOn_240 (tgt := 204) (by decide) ?_
              have hq := ih (i + 1) (by omega)
              rw [← eR_s, hnt] at hq
              exact hq
      have hq := hl_204 n 0 (by omega)
      rw [eR_0] at hq
      exact aW_wk hq (by repeat' (first | exact Wk.n | apply Wk.k | apply Wk.d))
    | succ j ih =>
      intro i hj
      have hi : i < n := by omega
      refine aw_iload_n C dX4_roundOn_18 Lk2 ?_
      refine aw_aload_n C dX4_roundOn_19 Lk0 ?_
      refine aw_gX4_keepers C  dX4_roundOn_20 (by decide +kernel) (by decide +kernel) ?_
      rw [mST_n, h1]
      refine aw_icmp_ge C dX4_roundOn_23 (tgt := 192) (by decide) (fun c_23 => absurd c_23 (nI_ge hi (by omega))) (fun c_23 => ?_)
      refine aw_aload_n C dX4_roundOn_26 Lk0 ?_
      refine aw_gX4_ring C  dX4_roundOn_27 (by decide +kernel) (by decide +kernel) ?_
      refine aw_iload_n C dX4_roundOn_30 Lk2 ?_
      refine aw_aload_n C dX4_roundOn_31 Lk0 ?_
      refine aw_gX4_there C  dX4_roundOn_32 (by decide +kernel) (by decide +kernel) ?_
      refine aw_iload_n C dX4_roundOn_35 Lk2 ?_
      refine aw_ilX4n_8 C dX4_roundOn_36 (by omega) ?_
      rw [mST_e, eR_at hi]
      refine aw_if_eq C dX4_roundOn_37 (tgt := 48) (by decide) (fun c_37 => ?_) (fun c_37 => ?_)
      · skip
        have hb : thR T t0 r i = false := bI_0.mp c_37
        refine aw_aload_n C dX4_roundOn_48 Lk0 ?_
        refine aw_gX4_ring C  dX4_roundOn_49 (by decide +kernel) (by decide +kernel) ?_
        refine aw_iload_n C dX4_roundOn_52 Lk2 ?_
        refine aw_ilX4n_6 C dX4_roundOn_53 (by omega) ?_
        rw [mST_z]
        refine aw_isX4n_6 C dX4_roundOn_54 (by omega) ?_
        rw [mST_sz, upd_self]
        refine aw_aload_n C dX4_roundOn_55 Lk0 ?_
        refine aw_gX4_there C  dX4_roundOn_56 (by decide +kernel) (by decide +kernel) ?_
        refine aw_iload_n C dX4_roundOn_59 Lk2 ?_
        refine aw_ilX4n_8 C dX4_roundOn_60 (by omega) ?_
        rw [mST_e, eR_at hi, hb]
        refine aw_if_eq C dX4_roundOn_61 (tgt := 186) (by decide) (fun c_61 => ?_) (fun c_61 => absurd rfl c_61)
        refine aw_iinc C dX4_roundOn_186 Lk2 (nI_1 _) St2 rfl ?_
        refine aw_goto C dX4_roundOn_189 (tgt := 18) (by decide) ?_
        have hcf : clR T t0 r i = false := by simp only [clR, hb]; rfl
        have hmx : mxF (clR T t0 r) (cyR T t0 r) (grR T t0 n r) (i + 1) = mxF (clR T t0 r) (cyR T t0 r) (grR T t0 n r) i := by simp only [mxF, hcf]; rfl
        have hld : fb_ct (ldR T t0 r) (i + 1) = fb_ct (ldR T t0 r) i := ldR_skip (Or.inl hb)
        have hq := ih (i + 1) (by omega)
        rw [lpF_f hcf, lpF_f hcf, lpF_f hb, hmx, hld] at hq
        exact aW_wk hq (by repeat' (first | exact Wk.n | apply Wk.k | apply Wk.d))
      · skip
        have hb : thR T t0 r i = true := by cases e9 : thR T t0 r i <;> first | rfl | (rw [e9] at c_37; exact absurd rfl c_37)
        refine aw_aload_n C dX4_roundOn_40 Lk0 ?_
        refine aw_iload_n C dX4_roundOn_41 Lk2 ?_
        refine aw_cV1 C dX4_roundOn_42 gX4_roundOn_X4_around sX4_around (rm := rmX4_around) rfl recMod (c_X4_around H (f := faR T t0 r) (P := fun q => thR T t0 r q = true) (fun q hq => ⟨thR_lt ht0 hq, amF_in (thR_lt ht0 hq) hq, faR_th hq⟩) hb) ?_
        rw [cR_fuel ht0 hn hb (Nat.le_succ n)]
        refine aw_goto C dX4_roundOn_45 (tgt := 54) (by decide) ?_
        refine aw_isX4n_6 C dX4_roundOn_54 (by omega) ?_
        rw [mST_sz, lpF_t (val := fun q => nI (cyR T t0 r q)) hb]
        refine aw_aload_n C dX4_roundOn_55 Lk0 ?_
        refine aw_gX4_there C  dX4_roundOn_56 (by decide +kernel) (by decide +kernel) ?_
        refine aw_iload_n C dX4_roundOn_59 Lk2 ?_
        refine aw_ilX4n_8 C dX4_roundOn_60 (by omega) ?_
        rw [mST_e, eR_at hi, hb]
        refine aw_if_eq C dX4_roundOn_61 (tgt := 186) (by decide) (fun c_61 => absurd c_61 (by decide)) (fun c_61 => ?_)
        refine aw_aload_n C dX4_roundOn_64 Lk0 ?_
        refine aw_gX4_ring C  dX4_roundOn_65 (by decide +kernel) (by decide +kernel) ?_
        refine aw_iload_n C dX4_roundOn_68 Lk2 ?_
        refine aw_ilX4n_6 C dX4_roundOn_69 (by omega) ?_
        rw [mST_z, lpF_in (Nat.lt_succ_self i) hb]
        refine aw_if_ne C dX4_roundOn_70 (tgt := 76) (by decide) (fun c_70 => ?_) (fun c_70 => ?_)
        · skip
          have hcl : clR T t0 r i = true := clR_of hb (fun z9 => c_70 (congrArg nI z9))
          have hfn : faR T t0 r i < n := thR_lt ht0 (faR_th hb)
          have hcle : cyR T t0 r i ≤ 10 := cy_le _ _
          have hgl := mxF_le (p := clR T t0 r) (v := cyR T t0 r) (grR_le (T := T) (t0 := t0) (n := n) r) (fun q => cy_le (faR T t0 r) q) i
          refine aw_aload_n C dX4_roundOn_76 Lk0 ?_
          refine aw_gX4_gets C  dX4_roundOn_77 (by decide +kernel) (by decide +kernel) ?_
          refine aw_iload_n C dX4_roundOn_80 Lk2 ?_
          refine aw_aload_n C dX4_roundOn_81 Lk0 ?_
          refine aw_gX4_has C  dX4_roundOn_82 (by decide +kernel) (by decide +kernel) ?_
          refine aw_aload_n C dX4_roundOn_85 Lk0 ?_
          refine aw_gX4_aims C  dX4_roundOn_86 (by decide +kernel) (by decide +kernel) ?_
          refine aw_iload_n C dX4_roundOn_89 Lk2 ?_
          refine aw_ilX4n_7 C dX4_roundOn_90 (by omega) ?_
          rw [mST_m, amF_in hi hb, show fT T (thR T t0 r) i = faR T t0 r i from rfl]
          refine aw_ilX4n_1 C dX4_roundOn_91 (by omega) ?_
          rw [mST_h, hh _ hfn]
          refine aw_isX4n_4 C dX4_roundOn_92 (by omega) ?_
          rw [mST_sg, lpF_t (val := fun q => nI (h (faR T t0 r q))) hcl]
          refine aw_aload_n C dX4_roundOn_93 Lk0 ?_
          refine aw_gX4_rounds C  dX4_roundOn_94 (by decide +kernel) (by decide +kernel) ?_
          refine aw_iload_n C dX4_roundOn_97 Lk2 ?_
          refine aw_aload_n C dX4_roundOn_98 Lk0 ?_
          refine aw_gX4_last C  dX4_roundOn_99 (by decide +kernel) (by decide +kernel) ?_
          rw [mST_la]
          refine aw_isX4n_5 C dX4_roundOn_102 (by omega) ?_
          rw [mST_sd, lpF_t (val := fun _ => nI (r + 1)) hcl]
          refine aw_aload_n C dX4_roundOn_103 Lk0 ?_
          refine aw_aload_n C dX4_roundOn_104 Lk0 ?_
          refine aw_gX4_greatest C  dX4_roundOn_105 (by decide +kernel) (by decide +kernel) ?_
          rw [mST_gr]
          refine aw_aload_n C dX4_roundOn_108 Lk0 ?_
          refine aw_gX4_ring C  dX4_roundOn_109 (by decide +kernel) (by decide +kernel) ?_
          refine aw_iload_n C dX4_roundOn_112 Lk2 ?_
          refine aw_ilX4n_6 C dX4_roundOn_113 (by omega) ?_
          rw [mST_z, lpF_in (Nat.lt_succ_self i) hb]
          refine aw_mmax C dX4_roundOn_114 rfl (by decide +kernel) (by decide +kernel) (by decide +kernel) (by decide +kernel) (Nat.le_of_ble_eq_true rfl) (Nat.le_of_ble_eq_true rfl) ⟨Nat.le_refl _, Nat.le_refl _⟩ ?_
          rw [nI_mx (by omega) (by omega)]
          refine aw_pX4_greatest C  dX4_roundOn_117 (by decide +kernel) (by decide +kernel) ?_
          rw [mST_sgr, show (if mxF (clR T t0 r) (cyR T t0 r) (grR T t0 n r) i < cyR T t0 r i then cyR T t0 r i else mxF (clR T t0 r) (cyR T t0 r) (grR T t0 n r) i) = mxF (clR T t0 r) (cyR T t0 r) (grR T t0 n r) (i + 1) by (simp only [mxF, hcl]; rfl)]
          refine aw_iconst C dX4_roundOn_120 (x := nI 1) (by decide) ?_
          refine aw_istore_n C dX4_roundOn_121 St3 rfl ?_
          refine aw_aload_n C dX4_roundOn_122 Lk0 ?_
          refine aw_gX4_aims C  dX4_roundOn_123 (by decide +kernel) (by decide +kernel) ?_
          refine aw_iload_n C dX4_roundOn_126 Lk2 ?_
          refine aw_ilX4n_7 C dX4_roundOn_127 (by omega) ?_
          rw [mST_m, amF_in hi hb, show fT T (thR T t0 r) i = itF (faR T t0 r) 1 i from rfl]
          refine aw_istore C dX4_roundOn_128 St4 rfl ?_
          have hl_130 : ∀ (j9 s : Nat) (hj9 : s + j9 = cyR T t0 r i) (hs1 : 1 ≤ s), aW pM l eM rmX4_roundOn sM mM argsM belowM methM cM (MQ belowM (aQ D 9 b (mv cI cZ b (mST τ (gtR T t0 h g0 (r + 1)) (dnR T t0 d0 (r + 1)) (zmR T t0 z0 (r + 1)) (amF T (thR T t0 r) n m) (eR n e0 (thR T t0 (r + 1))) (nI (r + 1)) (nI (rmR T t0 n (r + 1))) (nI (grR T t0 n (r + 1))))) (none) AM) argsM sM 0 0 AM) D AM 0 0 9 b (mv cI cZ b (mST τ (lpF (clR T t0 r) (fun q => nI (h (faR T t0 r q))) (gtR T t0 h g0 r) (i + 1)) (lpF (clR T t0 r) (fun _ => nI (r + 1)) (dnR T t0 d0 r) (i + 1)) (lpF (thR T t0 r) (fun q => nI (cyR T t0 r q)) (zmR T t0 z0 r) (i + 1)) (amF T (thR T t0 r) n m) (eR n e0 (thR T t0 r)) (nI (r + 1)) (nI (rmR T t0 n r)) (nI (mxF (clR T t0 r) (cyR T t0 r) (grR T t0 n r) (i + 1))))) 130 [some (.ref (b 0)), some (.int (nI (fb_ct (ldR T t0 r) i))), some (.int (nI i)), some (.int (bI (lsB (faR T t0 r) i s))), some (.int (nI (itF (faR T t0 r) s i)))] [] := by
            intro j9
            induction j9 with
            | zero =>
              intro s hj9 hs1
              have hsc : s = cyR T t0 r i := by omega
              have hsi : itF (faR T t0 r) s i = i := by rw [hsc]; exact (cy_pos (clR_th hcl).2.1).2.2.1
              refine aw_iload C dX4_roundOn_130 Lk4 ?_
              refine aw_iload_n C dX4_roundOn_132 Lk2 ?_
              refine aw_icmp_eq C dX4_roundOn_133 (tgt := 164) (by decide) (fun c_133 => ?_) (fun c_133 => absurd (congrArg nI hsi) c_133)
              refine aw_iload_n C dX4_roundOn_164 Lk1 ?_
              refine aw_iload_n C dX4_roundOn_165 Lk3 ?_
              refine aw_if_eq C dX4_roundOn_166 (tgt := 183) (by decide) (fun c_166 => ?_) (fun c_166 => ?_)
              · skip
                have hlb : lsB (faR T t0 r) i (cyR T t0 r i) = false := by rw [← hsc]; exact bI_0.mp c_166
                have hld : ldR T t0 r i = false := by rw [ldR_eq hcl, hlb, Bool.and_false]
                refine aw_iconst C dX4_roundOn_183 (x := nI 0) (by decide) ?_
                refine aw_iadd C dX4_roundOn_184 ?_
                rw [nI_add, show fb_ct (ldR T t0 r) i + 0 = fb_ct (ldR T t0 r) (i + 1) by (rw [fb_ct_succ, hld]; rfl)]
                refine aw_istore_n C dX4_roundOn_185 St1 rfl ?_
                refine aw_iinc C dX4_roundOn_186 Lk2 (nI_1 _) St2 rfl ?_
                refine aw_goto C dX4_roundOn_189 (tgt := 18) (by decide) ?_
                exact aW_wk (ih (i + 1) (by omega)) (by repeat' (first | exact Wk.n | apply Wk.k | apply Wk.d))
              · skip
                have hlb : lsB (faR T t0 r) i (cyR T t0 r i) = true := by
                  rw [← hsc]
                  cases e9 : lsB (faR T t0 r) i s <;> first | rfl | (rw [e9] at c_166; exact absurd rfl c_166)
                refine aw_aload_n C dX4_roundOn_169 Lk0 ?_
                refine aw_gX4_ring C  dX4_roundOn_170 (by decide +kernel) (by decide +kernel) ?_
                refine aw_iload_n C dX4_roundOn_173 Lk2 ?_
                refine aw_ilX4n_6 C dX4_roundOn_174 (by omega) ?_
                rw [mST_z, lpF_in (Nat.lt_succ_self i) hb]
                refine aw_iconst C dX4_roundOn_175 (x := nI 1) (by decide) ?_
                refine aw_icmp_le C dX4_roundOn_176 (tgt := 183) (by decide) (fun c_176 => ?_) (fun c_176 => ?_)
                · skip
                  have hc1 : ¬ 1 < cyR T t0 r i := fun z9 => nI_ge z9 (by omega) c_176
                  have hld : ldR T t0 r i = false := by rw [ldR_eq hcl, decide_eq_false hc1, Bool.false_and]
                  refine aw_iconst C dX4_roundOn_183 (x := nI 0) (by decide) ?_
                  refine aw_iadd C dX4_roundOn_184 ?_
                  rw [nI_add, show fb_ct (ldR T t0 r) i + 0 = fb_ct (ldR T t0 r) (i + 1) by (rw [fb_ct_succ, hld]; rfl)]
                  refine aw_istore_n C dX4_roundOn_185 St1 rfl ?_
                  refine aw_iinc C dX4_roundOn_186 Lk2 (nI_1 _) St2 rfl ?_
                  refine aw_goto C dX4_roundOn_189 (tgt := 18) (by decide) ?_
                  exact aW_wk (ih (i + 1) (by omega)) (by repeat' (first | exact Wk.n | apply Wk.k | apply Wk.d))
                · skip
                  have hc1 : 1 < cyR T t0 r i := Nat.lt_of_not_le (fun z9 => c_176 (nI_le z9 (by omega)))
                  have hld : ldR T t0 r i = true := by rw [ldR_eq hcl, decide_eq_true hc1, hlb]; rfl
                  refine aw_iconst C dX4_roundOn_179 (x := nI 1) (by decide) ?_
                  refine aw_goto C dX4_roundOn_180 (tgt := 184) (by decide) ?_
                  refine aw_iadd C dX4_roundOn_184 ?_
                  rw [nI_add, show fb_ct (ldR T t0 r) i + 1 = fb_ct (ldR T t0 r) (i + 1) by (rw [fb_ct_succ, hld]; rfl)]
                  refine aw_istore_n C dX4_roundOn_185 St1 rfl ?_
                  refine aw_iinc C dX4_roundOn_186 Lk2 (nI_1 _) St2 rfl ?_
                  refine aw_goto C dX4_roundOn_189 (tgt := 18) (by decide) ?_
                  exact aW_wk (ih (i + 1) (by omega)) (by repeat' (first | exact Wk.n | apply Wk.k | apply Wk.d))
            | succ j9 ih9 =>
              intro s hj9 hs1
              have hst := itF_th hb s
              have hsn := thR_lt ht0 hst
              have hsne : ¬ itF (faR T t0 r) s i = i := (cy_pos (clR_th hcl).2.1).2.2.2 s hs1 (show s < cyR T t0 r i by omega)
              refine aw_iload C dX4_roundOn_130 Lk4 ?_
              refine aw_iload_n C dX4_roundOn_132 Lk2 ?_
              refine aw_icmp_eq C dX4_roundOn_133 (tgt := 164) (by decide) (fun c_133 => absurd c_133 (fun z9 => hsne (nI_inj (by omega) (by omega) z9))) (fun c_133 => ?_)
              refine aw_iload_n C dX4_roundOn_136 Lk3 ?_
              refine aw_if_eq C dX4_roundOn_137 (tgt := 150) (by decide) (fun c_137 => ?_) (fun c_137 => ?_)
              · skip
                have hls : lsB (faR T t0 r) i (s + 1) = false := by rw [lsB_s hs1, bI_0.mp c_137, Bool.false_and]
                refine aw_iconst C dX4_roundOn_150 (x := nI 0) (by decide) ?_
                refine aw_istore_n C dX4_roundOn_151 St3 rfl ?_
                refine aw_aload_n C dX4_roundOn_152 Lk0 ?_
                refine aw_gX4_aims C  dX4_roundOn_153 (by decide +kernel) (by decide +kernel) ?_
                refine aw_iload C dX4_roundOn_156 Lk4 ?_
                refine aw_ilX4n_7 C dX4_roundOn_158 (by omega) ?_
                rw [mST_m, amF_in hsn hst, show fT T (thR T t0 r) (itF (faR T t0 r) s i) = itF (faR T t0 r) (s + 1) i from rfl]
                refine aw_istore C dX4_roundOn_159 St4 rfl ?_
                refine aw_goto C dX4_roundOn_161 (tgt := 130) (by decide) ?_
                have hq := ih9 (s + 1) (by omega) (by omega)
                rw [hls] at hq
                exact hq
              · skip
                have hl0 : lsB (faR T t0 r) i s = true := by cases e9 : lsB (faR T t0 r) i s <;> first | rfl | (rw [e9] at c_137; exact absurd rfl c_137)
                refine aw_iload C dX4_roundOn_140 Lk4 ?_
                refine aw_iload_n C dX4_roundOn_142 Lk2 ?_
                refine aw_icmp_le C dX4_roundOn_143 (tgt := 150) (by decide) (fun c_143 => ?_) (fun c_143 => ?_)
                · skip
                  have hls : lsB (faR T t0 r) i (s + 1) = false := by rw [lsB_s hs1, decide_eq_false (fun z9 => nI_ge z9 (by omega) c_143), Bool.and_false]
                  refine aw_iconst C dX4_roundOn_150 (x := nI 0) (by decide) ?_
                  refine aw_istore_n C dX4_roundOn_151 St3 rfl ?_
                  refine aw_aload_n C dX4_roundOn_152 Lk0 ?_
                  refine aw_gX4_aims C  dX4_roundOn_153 (by decide +kernel) (by decide +kernel) ?_
                  refine aw_iload C dX4_roundOn_156 Lk4 ?_
                  refine aw_ilX4n_7 C dX4_roundOn_158 (by omega) ?_
                  rw [mST_m, amF_in hsn hst, show fT T (thR T t0 r) (itF (faR T t0 r) s i) = itF (faR T t0 r) (s + 1) i from rfl]
                  refine aw_istore C dX4_roundOn_159 St4 rfl ?_
                  refine aw_goto C dX4_roundOn_161 (tgt := 130) (by decide) ?_
                  have hq := ih9 (s + 1) (by omega) (by omega)
                  rw [hls] at hq
                  exact hq
                · skip
                  have hls : lsB (faR T t0 r) i (s + 1) = true := by rw [lsB_s hs1, hl0, decide_eq_true (Nat.lt_of_not_le (fun z9 => c_143 (nI_le z9 (by omega))))]; rfl
                  refine aw_iconst C dX4_roundOn_146 (x := nI 1) (by decide) ?_
                  refine aw_goto C dX4_roundOn_147 (tgt := 151) (by decide) ?_
                  refine aw_istore_n C dX4_roundOn_151 St3 rfl ?_
                  refine aw_aload_n C dX4_roundOn_152 Lk0 ?_
                  refine aw_gX4_aims C  dX4_roundOn_153 (by decide +kernel) (by decide +kernel) ?_
                  refine aw_iload C dX4_roundOn_156 Lk4 ?_
                  refine aw_ilX4n_7 C dX4_roundOn_158 (by omega) ?_
                  rw [mST_m, amF_in hsn hst, show fT T (thR T t0 r) (itF (faR T t0 r) s i) = itF (faR T t0 r) (s + 1) i from rfl]
                  refine aw_istore C dX4_roundOn_159 St4 rfl ?_
                  refine aw_goto C dX4_roundOn_161 (tgt := 130) (by decide) ?_
                  have hq := ih9 (s + 1) (by omega) (by omega)
                  rw [hls] at hq
                  exact hq
          have hq := hl_130 (cyR T t0 r i - 1) 1 (by have := (cy_pos (clR_th hcl).2.1).1; simp only [cyR]; omega) (Nat.le_refl 1)
          rw [lsB_1] at hq
          exact hq
        · skip
          have hc0 : cyR T t0 r i = 0 := by
            have h9 : cyR T t0 r i ≤ 10 := cy_le _ _
            exact nI_inj (by omega) (by omega) (Classical.not_not.mp c_70)
          refine aw_goto C dX4_roundOn_73 (tgt := 186) (by decide) ?_
          refine aw_iinc C dX4_roundOn_186 Lk2 (nI_1 _) St2 rfl ?_
          refine aw_goto C dX4_roundOn_189 (tgt := 18) (by decide) ?_
          have hcf : clR T t0 r i = false := by simp only [clR, hb, hc0]; rfl
          have hmx : mxF (clR T t0 r) (cyR T t0 r) (grR T t0 n r) (i + 1) = mxF (clR T t0 r) (cyR T t0 r) (grR T t0 n r) i := by simp only [mxF, hcf]; rfl
          have hld : fb_ct (ldR T t0 r) (i + 1) = fb_ct (ldR T t0 r) i := ldR_skip (Or.inr (Or.inr hc0))
          have hq := ih (i + 1) (by omega)
          rw [lpF_f hcf, lpF_f hcf, hmx, hld] at hq
          exact aW_wk hq (by repeat' (first | exact Wk.n | apply Wk.k | apply Wk.d))
  have hq := hl_18 n 0 (by omega)
  rw [lpF_0, lpF_0, lpF_0] at hq
  exact aW_wk hq (by repeat' (first | exact Wk.n | apply Wk.k | apply Wk.d))
set_option maxHeartbeats 4000000 in
set_option maxRecDepth 100000 in
theorem c_X4_solve {τ : MS} {n : Nat} {h : Nat → Nat} {T : Nat → List Nat} {t0 : Nat → Bool} (H : MRun τ n h T t0) (ht0 : tOK t0 n) : aM l D (cTys cI cZ cR cJ) 9 b yX4_solve wsX4_solve rmX4_solve [.ref (b 0)] (mv cI cZ b (τ)) (none) (mv cI cZ b (smR τ n T t0 h (τ.2 4) (τ.2 5) (τ.2 6) (τ.2 7) (τ.2 8) (rn T t0 n))) := by
  obtain ⟨hn, h1, hh, hgo, hL⟩ := id H
  have hbe := c_X4_begin (l := l) (D := D) (cI := cI) (cZ := cZ) (cR := cR) (cJ := cJ) (b := b) H (g := τ.2 4) (d := τ.2 5) (z := τ.2 6) (m := τ.2 7) (e := τ.2 8) (la := τ.1 10) (ri := τ.1 11) (gr := τ.1 12)
  rw [mST_self] at hbe
  have hrn := rn_le (T := T) (t0 := t0) (n := n)
  refine aM_of sX4_solve (lv0 := [some (.ref (b 0))]) (j := 0) rfl rfl ?_
  intro pM eM sM mM argsM belowM methM cM AM C
  refine aw_aload_n C dX4_solve_0 Lk0 ?_
  refine aw_cV0v C dX4_solve_1 gX4_solve_X4_begin sX4_begin (rm := rmX4_begin) rfl recMod hbe ?_
  have hl_4 : ∀ (j r : Nat) (hj : r + j = rn T t0 n), aW pM l eM rmX4_solve sM mM argsM belowM methM cM (MQ belowM (aQ D 9 b (mv cI cZ b (smR τ n T t0 h (τ.2 4) (τ.2 5) (τ.2 6) (τ.2 7) (τ.2 8) (rn T t0 n))) (none) AM) argsM sM 0 0 AM) D AM 0 0 9 b (mv cI cZ b (smR τ n T t0 h (τ.2 4) (τ.2 5) (τ.2 6) (τ.2 7) (τ.2 8) r)) 4 [some (.ref (b 0))] [] := by
    intro j
    induction j with
    | zero =>
      intro r hj
      have hin : r = rn T t0 n := by omega
      rw [hin]
      refine aw_aload_n C dX4_solve_4 Lk0 ?_
      refine aw_cV0 C dX4_solve_5 gX4_solve_X4_isAnybody sX4_isAnybody (rm := rmX4_isAnybody) rfl recMod (c_X4_isAnybody hn (by exact h1) (th := thR T t0 (rn T t0 n)) (fun q hq => eR_at hq)) ?_
      rw [anG_any, rn_end ht0 hn]
      refine aw_if_eq C dX4_solve_8 (tgt := 18) (by decide) (fun c_8 => ?_) (fun c_8 => absurd rfl c_8)
      exact aw_vend C dX4_solve_18 rfl rfl
    | succ j ih =>
      intro r hj
      have hany := rn_lt (T := T) (t0 := t0) (n := n) (r := r) (by omega)
      refine aw_aload_n C dX4_solve_4 Lk0 ?_
      refine aw_cV0 C dX4_solve_5 gX4_solve_X4_isAnybody sX4_isAnybody (rm := rmX4_isAnybody) rfl recMod (c_X4_isAnybody hn (by exact h1) (th := thR T t0 r) (fun q hq => eR_at hq)) ?_
      rw [anG_any]
      refine aw_if_eq C dX4_solve_8 (tgt := 18) (by decide) (fun c_8 => absurd c_8 (fun z9 => by rw [hany] at z9; exact absurd z9 (by decide))) (fun c_8 => ?_)
      refine aw_aload_n C dX4_solve_11 Lk0 ?_
      refine aw_cV0v C dX4_solve_12 gX4_solve_X4_roundOn sX4_roundOn (rm := rmX4_roundOn) rfl recMod (c_X4_roundOn H ht0 (by omega)) ?_
      refine aw_goto C dX4_solve_15 (tgt := 4) (by decide) ?_
      exact ih (r + 1) (by omega)
  exact hl_4 (rn T t0 n) 0 (by omega)
end MOD3
