/-! the law's own rounds (Sim.trade): they come to what the class's rounds come to -/
def amv (T : Nat → List Nat) (t0 : Nat → Bool) (r k c : Nat) : Int32 := if c < r ∧ thR T t0 c k = true then nI (faR T t0 c k) else -1
/-- whom k points at, of the first p of the list -/
def fP (T : Nat → List Nat) (th : Nat → Bool) (k p : Nat) : Nat := (((T k).take p).find? th).getD k
section TRM
variable {T : Nat → List Nat} {t0 : Nat → Bool} {th : Nat → Bool} {r k c p m : Nat}
theorem amv_t (h : thR T t0 r k = true) : amv T t0 (r + 1) k r = nI (faR T t0 r k) := by
  simp only [amv]; rw [if_pos ⟨Nat.lt_succ_self r, h⟩]
theorem amv_f (h : thR T t0 r k = false) : amv T t0 (r + 1) k c = amv T t0 r k c := by
  simp only [amv]
  by_cases e : c < r ∧ thR T t0 c k = true
  · rw [if_pos e, if_pos ⟨by omega, e.2⟩]
  · rw [if_neg e, if_neg]
    rintro ⟨z1, z2⟩
    rcases Nat.lt_or_ge c r with q | q
    · exact e ⟨q, z2⟩
    · rw [show c = r by omega, h] at z2
      cases z2
theorem amv_n (h : c ≠ r) : amv T t0 (r + 1) k c = amv T t0 r k c := by
  simp only [amv]
  by_cases e : c < r ∧ thR T t0 c k = true
  · rw [if_pos e, if_pos ⟨by omega, e.2⟩]
  · rw [if_neg e, if_neg (fun z => e ⟨by omega, z.2⟩)]
theorem amv_m (h : thR T t0 r k = false) : amv T t0 (r + 1) k r = -1 := by
  simp only [amv]; rw [if_neg (fun z => by rw [h] at z; cases z.2)]
theorem fP_0 : fP T th k 0 = k := by simp [fP]
theorem fP_l (h : (T k).length ≤ p) : fP T th k p = fT T th k := by simp only [fP, fT]; rw [List.take_of_length_le h]
theorem fd_take : ∀ (l : List Nat) (p : Nat), p < l.length → (l.take (p + 1)).find? th = ((l.take p).find? th).or (if th (l.getD p 0) then some (l.getD p 0) else none) := by
  intro l p hp
  rw [List.take_succ, List.find?_append]
  have e : l[p]?.toList = [l.getD p 0] := by
    rw [List.getD_eq_getElem?_getD, List.getElem?_eq_getElem hp]
    rfl
  rw [e, List.find?_cons]
  cases h : th (l.getD p 0)
  · simp
  · simp
theorem fP_y (hp : p < (T k).length) (h : fP T th k p ≠ k) : fP T th k (p + 1) = fP T th k p := by
  simp only [fP] at h ⊢
  rw [fd_take (T k) p hp]
  cases e : ((T k).take p).find? th with
  | none => rw [e] at h; exact absurd rfl h
  | some q => rfl
theorem fP_f (hp : p < (T k).length) (h : th ((T k).getD p 0) = false) : fP T th k (p + 1) = fP T th k p := by
  simp only [fP]
  rw [fd_take (T k) p hp, h]
  simp
theorem fP_t (hp : p < (T k).length) (hne : ∀ j, j < (T k).length → (T k).getD j 0 ≠ k) (he : fP T th k p = k) (h : th ((T k).getD p 0) = true) : fP T th k (p + 1) = (T k).getD p 0 := by
  simp only [fP] at he ⊢
  rw [fd_take (T k) p hp, h]
  cases e : ((T k).take p).find? th with
  | none => rfl
  | some q =>
    rw [e] at he
    obtain ⟨i, i1, i2, -, -⟩ := fd_some e
    have hi : i < p := by
      have : ((T k).take p).length ≤ p := by simp; omega
      omega
    have hi2 : ((T k).take p).getD i 0 = (T k).getD i 0 := by
      rw [List.getD_eq_getElem?_getD, List.getD_eq_getElem?_getD, List.getElem?_take_of_lt hi]
    exact absurd (hi2.symm.trans (i2.trans he)) (hne i (by omega))
theorem ct_next : fb_ct (thR T t0 (r + 1)) m + fb_ct (clR T t0 r) m = fb_ct (thR T t0 r) m := by
  rw [← fb_ct_or (fun k _ hk => by
    have := (clR_th hk.2).2.2
    rw [hk.1] at this
    cases this)]
  exact fb_ct_cong (fun k _ => thR_cl.symm)
theorem ct_cl (k : Nat) : fb_ct (clR T t0 r) k ≤ fb_ct (thR T t0 r) k := fb_ct_sub (fun q _ hq => (clR_th hq).1)
theorem clR_no (h : thR T t0 r k = false) : clR T t0 r k = false := by
  cases e : clR T t0 r k
  · rfl
  · rw [(clR_th e).1] at h; cases h
end TRM
/-- what the law's trade leaves: the land as it was, and what all get, the rounds, the rings, whom they point at -/
def TradeP (cI cJ : ClassId) (a : Nat → Nat) (v : Nat → va_E) (m : Nat) (h : Nat → Nat) (L : Nat → List Nat) : Option Value → Nat → (Nat → Nat) → (Nat → va_E) → Prop := fun r n' a' v' =>
  r = some (.ref (a 0)) ∧ n' = 3 + m + 1 + 1 + 1 + 1 + m ∧ (∀ j, j < 3 + m → a' j = a j) ∧ (∀ j, 0 < j → j < 3 + m → v' j = v j) ∧
    Ob n' a' v' 0 (a 0) [.ref (a 1), .ref (a 2), .ref (a' (3 + m)), .ref (a' (3 + m + 1)), .ref (a' (3 + m + 1 + 1)), .ref (a' (3 + m + 1 + 1 + 1))] ∧
    (∃ gv, Ar cI n' a' v' (3 + m) (a' (3 + m)) m gv ∧ ∀ k, k < m → gv k = FG (TL h m L) (t0A m) m h k) ∧
    (∃ dv, Ar cI n' a' v' (3 + m + 1) (a' (3 + m + 1)) m dv ∧ ∀ k, k < m → dv k = FD (TL h m L) (t0A m) m k) ∧
    (∃ zv, Ar cI n' a' v' (3 + m + 1 + 1) (a' (3 + m + 1 + 1)) m zv ∧ ∀ k, k < m → zv k = FZ (TL h m L) (t0A m) m k) ∧
    ∃ (ar : Nat → Option Nat) (af : Nat → Nat → Int32), Rr cJ n' a' v' (3 + m + 1 + 1 + 1) (a' (3 + m + 1 + 1 + 1)) m ar ∧ (∀ k, k < m → ar k = some (a' (3 + m + 1 + 1 + 1 + 1 + k))) ∧ ∀ k, k < m → Ar cI n' a' v' (3 + m + 1 + 1 + 1 + 1 + k) (a' (3 + m + 1 + 1 + 1 + 1 + k)) m (af k) ∧ ∀ c, c < m → af k c = ptP m h L k c
section SITR
variable {l : Launch} {D : va_G} {cI cZ cR cJ : ClassId}
set_option maxHeartbeats 8000000 in
set_option maxRecDepth 100000 in
theorem c_X4_trade {G : (Nat → Prop) → State → Prop} (hGO : ∀ A s, G A s → aO s) {m : Nat} {a : Nat → Nat} {v : Nat → va_E} {h : Nat → Nat} {L : Nat → List Nat} (WL : WF m h L) (S : SimAt cI cJ (3 + m) a v m h L) : gM l D (cTys cI cZ cR cJ) yX4_trade wsX4_trade rmX4_trade G (3 + m) a v [.ref (a 0), .int (-1), .int (-1), .null] 30 300 (TradeP cI cJ a v m h L) := by
  obtain ⟨hm, ⟨x2, x3, x4, x5, O⟩, ⟨f, A1, hf⟩, ⟨g, R1, hg⟩, rf, hR⟩ := S
  have hRa := fun (k : Nat) (hk : k < m) => (hR k hk).1
  have hmm : m * m ≤ 100 := Nat.mul_le_mul hm hm
  refine gM_of sX4_trade (lv0 := [some (.ref (a 0)), some (.int (-1)), some (.int (-1)), some .null, none, none, none, none, none, none, none, none, none, none, none]) (j := 11) rfl rfl ?_
  intro pM eM sM mM argsM belowM methM cM AM szM CG hA9
  have C := CG.1
  have hO := hGO _ _ CG.2
  have hAa : ∀ j, j < 3 + m → a j = a j := fun _ _ => rfl
  have hVv : ∀ j, 0 < j → j < 3 + m → v j = v j := fun _ _ _ => rfl
  refine aw_aload_n C dX4_trade_0 Lk0 ?_
  refine aw_g_has C O dX4_trade_1 (by decide +kernel) (by decide +kernel) ?_
  refine aw_al C A1 dX4_trade_4 ?_
  refine aw_istore C dX4_trade_5 St4 rfl ?_
  refine aw_aload_n C dX4_trade_7 Lk0 ?_
  refine aw_iload C dX4_trade_8 Lk4 ?_
  refine bw_ni C (by decide +kernel) (by omega) (by show 0 + 1 ≤ 30; omega) (by show 0 + m ≤ 300; omega) dX4_trade_10 (fun a1 v1 ha1 hv1 Gt => ?_)
  have O := O.gr (n' := 3 + m + 1) ha1 hv1 (by omega)
  have A1 := A1.gr (n' := 3 + m + 1) ha1 hv1 (by omega)
  have R1 := R1.gr (n' := 3 + m + 1) ha1 hv1 (by omega)
  have hRa := fun (k : Nat) (hk : k < m) => (hRa k hk).gr (n' := 3 + m + 1) ha1 hv1 (by omega)
  have hAa := fun (j : Nat) (hj : j < 3 + m) => (ha1 j (by omega)).trans (hAa j hj)
  have hVv := fun (j : Nat) (h0 : 0 < j) (hj : j < 3 + m) => (hv1 j (by omega)).trans (hVv j h0 hj)
  refine bw_p_gets C O dX4_trade_12 (by decide +kernel) (by decide +kernel) (fun u1 hu1 O => ?_)
  have A1 := A1.sv hu1 (by omega)
  have R1 := R1.sv hu1 (by omega)
  have hRa := fun (k : Nat) (hk : k < m) => (hRa k hk).sv hu1 (by omega)
  have hVv := fun (j : Nat) (h0 : 0 < j) (hj : j < 3 + m) => (hu1 j (by omega)).trans (hVv j h0 hj)
  have Gt := Gt.sv hu1 (by omega)
  refine aw_aload_n C dX4_trade_15 Lk0 ?_
  refine aw_iload C dX4_trade_16 Lk4 ?_
  refine bw_ni C (by decide +kernel) (by omega) (by show 0 + 1 + 1 ≤ 30; omega) (by show 0 + m + m ≤ 300; omega) dX4_trade_18 (fun a2 v2 ha2 hv2 Ro => ?_)
  have O := O.gr (n' := 3 + m + 1 + 1) ha2 hv2 (by omega)
  have A1 := A1.gr (n' := 3 + m + 1 + 1) ha2 hv2 (by omega)
  have R1 := R1.gr (n' := 3 + m + 1 + 1) ha2 hv2 (by omega)
  have hRa := fun (k : Nat) (hk : k < m) => (hRa k hk).gr (n' := 3 + m + 1 + 1) ha2 hv2 (by omega)
  have hAa := fun (j : Nat) (hj : j < 3 + m) => (ha2 j (by omega)).trans (hAa j hj)
  have hVv := fun (j : Nat) (h0 : 0 < j) (hj : j < 3 + m) => (hv2 j (by omega)).trans (hVv j h0 hj)
  have Gt := Gt.gr (n' := 3 + m + 1 + 1) ha2 hv2 (by omega)
  refine bw_p_rounds C O dX4_trade_20 (by decide +kernel) (by decide +kernel) (fun u2 hu2 O => ?_)
  have A1 := A1.sv hu2 (by omega)
  have R1 := R1.sv hu2 (by omega)
  have hRa := fun (k : Nat) (hk : k < m) => (hRa k hk).sv hu2 (by omega)
  have hVv := fun (j : Nat) (h0 : 0 < j) (hj : j < 3 + m) => (hu2 j (by omega)).trans (hVv j h0 hj)
  have Gt := Gt.sv hu2 (by omega)
  have Ro := Ro.sv hu2 (by omega)
  refine aw_aload_n C dX4_trade_23 Lk0 ?_
  refine aw_iload C dX4_trade_24 Lk4 ?_
  refine bw_ni C (by decide +kernel) (by omega) (by show 0 + 1 + 1 + 1 ≤ 30; omega) (by show 0 + m + m + m ≤ 300; omega) dX4_trade_26 (fun a3 v3 ha3 hv3 Ri => ?_)
  have O := O.gr (n' := 3 + m + 1 + 1 + 1) ha3 hv3 (by omega)
  have A1 := A1.gr (n' := 3 + m + 1 + 1 + 1) ha3 hv3 (by omega)
  have R1 := R1.gr (n' := 3 + m + 1 + 1 + 1) ha3 hv3 (by omega)
  have hRa := fun (k : Nat) (hk : k < m) => (hRa k hk).gr (n' := 3 + m + 1 + 1 + 1) ha3 hv3 (by omega)
  have hAa := fun (j : Nat) (hj : j < 3 + m) => (ha3 j (by omega)).trans (hAa j hj)
  have hVv := fun (j : Nat) (h0 : 0 < j) (hj : j < 3 + m) => (hv3 j (by omega)).trans (hVv j h0 hj)
  have Gt := Gt.gr (n' := 3 + m + 1 + 1 + 1) ha3 hv3 (by omega)
  have Ro := Ro.gr (n' := 3 + m + 1 + 1 + 1) ha3 hv3 (by omega)
  refine bw_p_rings C O dX4_trade_28 (by decide +kernel) (by decide +kernel) (fun u3 hu3 O => ?_)
  have A1 := A1.sv hu3 (by omega)
  have R1 := R1.sv hu3 (by omega)
  have hRa := fun (k : Nat) (hk : k < m) => (hRa k hk).sv hu3 (by omega)
  have hVv := fun (j : Nat) (h0 : 0 < j) (hj : j < 3 + m) => (hu3 j (by omega)).trans (hVv j h0 hj)
  have Gt := Gt.sv hu3 (by omega)
  have Ro := Ro.sv hu3 (by omega)
  have Ri := Ri.sv hu3 (by omega)
  refine aw_aload_n C dX4_trade_31 Lk0 ?_
  refine aw_iload C dX4_trade_32 Lk4 ?_
  refine aw_iload C dX4_trade_34 Lk4 ?_
  refine aw_mna (N := m) (M := m) C hO (by decide +kernel) (by decide +kernel) (by omega) (by omega) (by show 0 + 1 + 1 + 1 + (1 + m) ≤ 30; omega) (by show 0 + m + m + m + (m + m * m) ≤ 300; omega) dX4_trade_36 (fun a4 v4 ha4 hv4 e4 r4 => ?_)
  have O := O.gr (n' := 3 + m + 1 + 1 + 1 + 1 + m) ha4 hv4 (by omega)
  have A1 := A1.gr (n' := 3 + m + 1 + 1 + 1 + 1 + m) ha4 hv4 (by omega)
  have R1 := R1.gr (n' := 3 + m + 1 + 1 + 1 + 1 + m) ha4 hv4 (by omega)
  have hRa := fun (k : Nat) (hk : k < m) => (hRa k hk).gr (n' := 3 + m + 1 + 1 + 1 + 1 + m) ha4 hv4 (by omega)
  have hAa := fun (j : Nat) (hj : j < 3 + m) => (ha4 j (by omega)).trans (hAa j hj)
  have hVv := fun (j : Nat) (h0 : 0 < j) (hj : j < 3 + m) => (hv4 j (by omega)).trans (hVv j h0 hj)
  have Gt := Gt.gr (n' := 3 + m + 1 + 1 + 1 + 1 + m) ha4 hv4 (by omega)
  have Ro := Ro.gr (n' := 3 + m + 1 + 1 + 1 + 1 + m) ha4 hv4 (by omega)
  have Ri := Ri.gr (n' := 3 + m + 1 + 1 + 1 + 1 + m) ha4 hv4 (by omega)
  have Ai : Rr cJ (3 + m + 1 + 1 + 1 + 1 + m) a4 v4 (3 + m + 1 + 1 + 1) (a4 (3 + m + 1 + 1 + 1)) m (fun i => if i < m then some (a4 (3 + m + 1 + 1 + 1 + 1 + i)) else none) := ⟨by omega, rfl, e4, by omega⟩
  have hAi : ∀ k, k < m → Ar cI (3 + m + 1 + 1 + 1 + 1 + m) a4 v4 (3 + m + 1 + 1 + 1 + 1 + k) (a4 (3 + m + 1 + 1 + 1 + 1 + k)) m (fun _ => 0) := fun k hk => ⟨by omega, rfl, r4 k hk, by omega⟩
  refine bw_p_aims C O dX4_trade_40 (by decide +kernel) (by decide +kernel) (fun u4 hu4 O => ?_)
  have A1 := A1.sv hu4 (by omega)
  have R1 := R1.sv hu4 (by omega)
  have hRa := fun (k : Nat) (hk : k < m) => (hRa k hk).sv hu4 (by omega)
  have hVv := fun (j : Nat) (h0 : 0 < j) (hj : j < 3 + m) => (hu4 j (by omega)).trans (hVv j h0 hj)
  have Gt := Gt.sv hu4 (by omega)
  have Ro := Ro.sv hu4 (by omega)
  have Ri := Ri.sv hu4 (by omega)
  have Ai := Ai.sv hu4 (by omega)
  have hAi := fun (k : Nat) (hk : k < m) => (hAi k hk).sv hu4 (by omega)
  refine aw_iload C dX4_trade_43 Lk4 ?_
  refine bw_nz C (by decide +kernel) (by omega) (by show 0 + 1 + 1 + 1 + 1 + m + 1 ≤ 30; omega) (by show 0 + m + m + m + m + m * m + m ≤ 300; omega) dX4_trade_45 (fun a5 v5 ha5 hv5 Dn => ?_)
  have O := O.gr (n' := 3 + m + 1 + 1 + 1 + 1 + m + 1) ha5 hv5 (by omega)
  have A1 := A1.gr (n' := 3 + m + 1 + 1 + 1 + 1 + m + 1) ha5 hv5 (by omega)
  have R1 := R1.gr (n' := 3 + m + 1 + 1 + 1 + 1 + m + 1) ha5 hv5 (by omega)
  have hRa := fun (k : Nat) (hk : k < m) => (hRa k hk).gr (n' := 3 + m + 1 + 1 + 1 + 1 + m + 1) ha5 hv5 (by omega)
  have hAa := fun (j : Nat) (hj : j < 3 + m) => (ha5 j (by omega)).trans (hAa j hj)
  have hVv := fun (j : Nat) (h0 : 0 < j) (hj : j < 3 + m) => (hv5 j (by omega)).trans (hVv j h0 hj)
  have Gt := Gt.gr (n' := 3 + m + 1 + 1 + 1 + 1 + m + 1) ha5 hv5 (by omega)
  have Ro := Ro.gr (n' := 3 + m + 1 + 1 + 1 + 1 + m + 1) ha5 hv5 (by omega)
  have Ri := Ri.gr (n' := 3 + m + 1 + 1 + 1 + 1 + m + 1) ha5 hv5 (by omega)
  have Ai := Ai.gr (n' := 3 + m + 1 + 1 + 1 + 1 + m + 1) ha5 hv5 (by omega)
  have hAi := fun (k : Nat) (hk : k < m) => (hAi k hk).gr (n' := 3 + m + 1 + 1 + 1 + 1 + m + 1) ha5 hv5 (by omega)
  refine aw_widen (k := 15) (n9 := 160) (by omega) (by omega) ?_
  refine aw_astore C dX4_trade_47 St5 rfl ?_
  refine aw_iload C dX4_trade_49 Lk4 ?_
  refine aw_istore C dX4_trade_51 St6 rfl ?_
  refine aw_iload_n C dX4_trade_53 Lk1 ?_
  refine aw_if_lt C dX4_trade_54 (tgt := 65) (by decide) (fun c_54 => ?_) (fun c_54 => absurd (by decide) c_54)
  refine aw_iconst C dX4_trade_65 (x := nI 0) (by decide) ?_
  refine aw_istore C dX4_trade_66 St7 rfl ?_
  have hTne : ∀ k, k < m → ∀ j, j < (TL h m L k).length → (TL h m L k).getD j 0 ≠ k := fun k hk j hj e => by
    rw [TL_len] at hj
    rw [TL_at hj] at e
    have h9 := (WL.2.2.2 k hk).1 j hj
    exact h9.2 (by rw [← (WL.ow h9.1).2, e])
  have hrn := rn_le (T := TL h m L) (t0 := t0A m) (n := m)
  have hM : ∀ (j r : Nat), r + j = (rn (TL h m L) (t0A m) m) → ∀ (aa : Nat → Nat) (vv : Nat → va_E) (gv dv zv dn : Nat → Int32) (af : Nat → Nat → Int32), (Ob (3 + m + 1 + 1 + 1 + 1 + m + 1) aa vv 0 (a 0) [.ref (a 1), .ref (a 2), .ref (a1 (3 + m)), .ref (a2 (3 + m + 1)), .ref (a3 (3 + m + 1 + 1)), .ref (a4 (3 + m + 1 + 1 + 1))]) → (Ar cI (3 + m + 1 + 1 + 1 + 1 + m + 1) aa vv 1 (a 1) m f) → (Rr cJ (3 + m + 1 + 1 + 1 + 1 + m + 1) aa vv 2 (a 2) m g) → (∀ k, k < m → Ar cI (3 + m + 1 + 1 + 1 + 1 + m + 1) aa vv (3 + k) (a (3 + k)) (L k).length (rf k)) → (∀ j, j < 3 + m → aa j = a j) → (∀ j, 0 < j → j < 3 + m → vv j = v j) → (Ar cI (3 + m + 1 + 1 + 1 + 1 + m + 1) aa vv (3 + m) (a1 (3 + m)) m gv) → (Ar cI (3 + m + 1 + 1 + 1 + 1 + m + 1) aa vv (3 + m + 1) (a2 (3 + m + 1)) m dv) → (Ar cI (3 + m + 1 + 1 + 1 + 1 + m + 1) aa vv (3 + m + 1 + 1) (a3 (3 + m + 1 + 1)) m zv) → (Rr cJ (3 + m + 1 + 1 + 1 + 1 + m + 1) aa vv (3 + m + 1 + 1 + 1) (a4 (3 + m + 1 + 1 + 1)) m (fun i => if i < m then some (a4 (3 + m + 1 + 1 + 1 + 1 + i)) else none)) → (∀ k, k < m → Ar cI (3 + m + 1 + 1 + 1 + 1 + m + 1) aa vv (3 + m + 1 + 1 + 1 + 1 + k) (a4 (3 + m + 1 + 1 + 1 + 1 + k)) m (af k)) → (Ar cZ (3 + m + 1 + 1 + 1 + 1 + m + 1) aa vv (3 + m + 1 + 1 + 1 + 1 + m) (a5 (3 + m + 1 + 1 + 1 + 1 + m)) m dn) → (∀ k, k < m → gv k = gtR (TL h m L) (t0A m) h (fun _ => 0) r k) → (∀ k, k < m → dv k = dnR (TL h m L) (t0A m) (fun _ => 0) r k) → (∀ k, k < m → zv k = zrR (TL h m L) (t0A m) (fun _ => 0) r k) → (∀ k, k < m → dn k = if thR (TL h m L) (t0A m) r k then 0 else 1) → (∀ k, k < m → ∀ c, c < m → af k c = amv (TL h m L) (t0A m) r k c) → aW pM l eM rmX4_trade sM mM argsM belowM methM cM (MQ belowM (gQ D (3 + m) a szM (TradeP cI cJ a v m h L)) argsM sM 30 300 AM) D AM (15 + r) (160 + 10 * r) (3 + m + 1 + 1 + 1 + 1 + m + 1) aa vv 111 [some (.ref (a 0)), some (.int (-1)), some (.int (-1)), some (.null), some (.int (nI m)), some (.ref (a5 (3 + m + 1 + 1 + 1 + 1 + m))), some (.int (nI (fb_ct (thR (TL h m L) (t0A m) r) m))), some (.int (nI r)), none, none, none, none, none, none, none] [] := by
    intro j
    induction j with
    | zero =>
      intro r hr aa vv gv dv zv dn af O A1 R1 hRa hAa hVv Gt Ro Ri Ai hAi Dn hgv hdv hzv hdn haf
      have hr9 : r = (rn (TL h m L) (t0A m) m) := by omega
      have hno := anyT_no t0A_ok (rn_end (T := TL h m L) t0A_ok WL.1)
      have hz : fb_ct (thR (TL h m L) (t0A m) r) m = 0 := by rw [hr9]; exact fb_ct_zero.mpr (fun k _ => hno k)
      refine aw_iload C dX4_trade_111 Lk6 ?_
      refine aw_if_le C dX4_trade_113 (tgt := 382) (by decide) (fun c_113 => ?_) (fun c_113 => absurd (by rw [hz]; decide) c_113)
      refine aw_aload_n C dX4_trade_382 Lk0 ?_
      refine aW_drop (n' := 3 + m + 1 + 1 + 1 + 1 + m) (by omega) ?_
      have eg := Gt.2.1
      have er := Ro.2.1
      have ei := Ri.2.1
      have ea := Ai.2.1
      refine gw_aret C hA9 dX4_trade_383 (by omega) (by omega) ⟨rfl, rfl, hAa, hVv, ?_, ⟨gv, ?_, fun k hk => ?_⟩, ⟨dv, ?_, fun k hk => ?_⟩, ⟨zv, ?_, fun k hk => ?_⟩, (fun i => if i < m then some (a4 (3 + m + 1 + 1 + 1 + 1 + i)) else none), af, ?_, fun k hk => ?_, fun k hk => ⟨?_, fun c hc => ?_⟩⟩
      · rw [eg, er, ei, ea]; exact O.dr (by omega)
      · rw [eg]; exact Gt.dr (by omega)
      · rw [hgv k hk, hr9]; exact FG_of t0A_ok WL.1 (t0A_t hk) _
      · rw [er]; exact Ro.dr (by omega)
      · rw [hdv k hk, hr9]; exact FD_of t0A_ok WL.1 (t0A_t hk) _
      · rw [ei]; exact Ri.dr (by omega)
      · rw [hzv k hk, hr9]; exact FZ_of t0A_ok WL.1 (t0A_t hk) _
      · rw [ea]; exact Ai.dr (by omega)
      · rw [(hAi k hk).2.1]; exact if_pos hk
      · rw [(hAi k hk).2.1]; exact (hAi k hk).dr (by omega)
      · rw [haf k hk c hc]
        simp only [amv, ptP]
        by_cases e : (thR (TL h m L) (t0A m) c k) = true
        · rw [if_pos e, if_pos ⟨(by
            rcases Nat.lt_or_ge c r with q | q
            · exact q
            · rw [th_f (show rn (TL h m L) (t0A m) m ≤ c by omega) (hno k)] at e
              cases e), e⟩]
        · rw [if_neg e, if_neg (fun z => e z.2)]
    | succ j ih =>
      intro r hr aa vv gv dv zv dn af O A1 R1 hRa hAa hVv Gt Ro Ri Ai hAi Dn hgv hdv hzv hdn haf
      obtain ⟨k0, hk0, ht0⟩ := anyT_iff.mp (rn_lt (T := TL h m L) (t0 := t0A m) (n := m) (r := r) (by omega))
      have hcp : 0 < fb_ct (thR (TL h m L) (t0A m) r) m := fb_ct_pos.mpr ⟨k0, hk0, ht0⟩
      have hrm : r < m := by
        have h9 := thR_cnt (T := TL h m L) (t0 := t0A m) (n := m) t0A_ok WL.1 r ⟨k0, ht0⟩
        omega
      have hcm := fb_ct_le (thR (TL h m L) (t0A m) r) m
      refine aw_iload C dX4_trade_111 Lk6 ?_
      refine aw_if_le C dX4_trade_113 (tgt := 382) (by decide) (fun c_113 => absurd c_113 (nI_nle hcp (by omega))) (fun c_113 => ?_)
      refine aw_iload C dX4_trade_116 Lk4 ?_
      refine bw_ni C (by decide +kernel) (by omega) (by show 15 + r + 1 ≤ 30; omega) (by show 160 + 10 * r + m ≤ 300; omega) dX4_trade_118 (fun a6 v6 ha6 hv6 To => ?_)
      have O := O.gr (n' := 3 + m + 1 + 1 + 1 + 1 + m + 1 + 1) ha6 hv6 (by omega)
      have A1 := A1.gr (n' := 3 + m + 1 + 1 + 1 + 1 + m + 1 + 1) ha6 hv6 (by omega)
      have R1 := R1.gr (n' := 3 + m + 1 + 1 + 1 + 1 + m + 1 + 1) ha6 hv6 (by omega)
      have hRa := fun (k : Nat) (hk : k < m) => (hRa k hk).gr (n' := 3 + m + 1 + 1 + 1 + 1 + m + 1 + 1) ha6 hv6 (by omega)
      have hAa := fun (j : Nat) (hj : j < 3 + m) => (ha6 j (by omega)).trans (hAa j hj)
      have hVv := fun (j : Nat) (h0 : 0 < j) (hj : j < 3 + m) => (hv6 j (by omega)).trans (hVv j h0 hj)
      have Gt := Gt.gr (n' := 3 + m + 1 + 1 + 1 + 1 + m + 1 + 1) ha6 hv6 (by omega)
      have Ro := Ro.gr (n' := 3 + m + 1 + 1 + 1 + 1 + m + 1 + 1) ha6 hv6 (by omega)
      have Ri := Ri.gr (n' := 3 + m + 1 + 1 + 1 + 1 + m + 1 + 1) ha6 hv6 (by omega)
      have Ai := Ai.gr (n' := 3 + m + 1 + 1 + 1 + 1 + m + 1 + 1) ha6 hv6 (by omega)
      have hAi := fun (k : Nat) (hk : k < m) => (hAi k hk).gr (n' := 3 + m + 1 + 1 + 1 + 1 + m + 1 + 1) ha6 hv6 (by omega)
      have Dn := Dn.gr (n' := 3 + m + 1 + 1 + 1 + 1 + m + 1 + 1) ha6 hv6 (by omega)
      have hE : ∀ (tof : Nat → Int32) (af : Nat → Nat → Int32), (∀ q, q < m → (thR (TL h m L) (t0A m) r q) = true → tof q = nI (faR (TL h m L) (t0A m) r q)) → (∀ k, k < m → ∀ c, c < m → af k c = amv (TL h m L) (t0A m) (r + 1) k c) → ∀ (j2 k : Nat), k + j2 = m → ∀ (vv : Nat → va_E) (gv dv zv dn : Nat → Int32), (Ob (3 + m + 1 + 1 + 1 + 1 + m + 1 + 1) a6 vv 0 (a 0) [.ref (a 1), .ref (a 2), .ref (a1 (3 + m)), .ref (a2 (3 + m + 1)), .ref (a3 (3 + m + 1 + 1)), .ref (a4 (3 + m + 1 + 1 + 1))]) → (Ar cI (3 + m + 1 + 1 + 1 + 1 + m + 1 + 1) a6 vv 1 (a 1) m f) → (Rr cJ (3 + m + 1 + 1 + 1 + 1 + m + 1 + 1) a6 vv 2 (a 2) m g) → (∀ k, k < m → Ar cI (3 + m + 1 + 1 + 1 + 1 + m + 1 + 1) a6 vv (3 + k) (a (3 + k)) (L k).length (rf k)) → (∀ j, j < 3 + m → a6 j = a j) → (∀ j, 0 < j → j < 3 + m → vv j = v j) → (Ar cI (3 + m + 1 + 1 + 1 + 1 + m + 1 + 1) a6 vv (3 + m) (a1 (3 + m)) m gv) → (Ar cI (3 + m + 1 + 1 + 1 + 1 + m + 1 + 1) a6 vv (3 + m + 1) (a2 (3 + m + 1)) m dv) → (Ar cI (3 + m + 1 + 1 + 1 + 1 + m + 1 + 1) a6 vv (3 + m + 1 + 1) (a3 (3 + m + 1 + 1)) m zv) → (Rr cJ (3 + m + 1 + 1 + 1 + 1 + m + 1 + 1) a6 vv (3 + m + 1 + 1 + 1) (a4 (3 + m + 1 + 1 + 1)) m (fun i => if i < m then some (a4 (3 + m + 1 + 1 + 1 + 1 + i)) else none)) → (∀ k, k < m → Ar cI (3 + m + 1 + 1 + 1 + 1 + m + 1 + 1) a6 vv (3 + m + 1 + 1 + 1 + 1 + k) (a4 (3 + m + 1 + 1 + 1 + 1 + k)) m (af k)) → (Ar cZ (3 + m + 1 + 1 + 1 + 1 + m + 1 + 1) a6 vv (3 + m + 1 + 1 + 1 + 1 + m) (a5 (3 + m + 1 + 1 + 1 + 1 + m)) m dn) → (Ar cI (3 + m + 1 + 1 + 1 + 1 + m + 1 + 1) a6 vv (3 + m + 1 + 1 + 1 + 1 + m + 1) (a6 (3 + m + 1 + 1 + 1 + 1 + m + 1)) m tof) → (∀ q, q < m → gv q = gtR (TL h m L) (t0A m) h (fun _ => 0) (if q < k then r + 1 else r) q) → (∀ q, q < m → dv q = dnR (TL h m L) (t0A m) (fun _ => 0) (if q < k then r + 1 else r) q) → (∀ q, q < m → zv q = zrR (TL h m L) (t0A m) (fun _ => 0) (if q < k then r + 1 else r) q) → (∀ q, q < m → dn q = if thR (TL h m L) (t0A m) (if q < k then r + 1 else r) q then 0 else 1) → aW pM l eM rmX4_trade sM mM argsM belowM methM cM (MQ belowM (gQ D (3 + m) a szM (TradeP cI cJ a v m h L)) argsM sM 30 300 AM) D AM (15 + r + 1) (160 + 10 * r + m) (3 + m + 1 + 1 + 1 + 1 + m + 1 + 1) a6 vv 260 [some (.ref (a 0)), some (.int (-1)), some (.int (-1)), some (.null), some (.int (nI m)), some (.ref (a5 (3 + m + 1 + 1 + 1 + 1 + m))), some (.int (nI (fb_ct (thR (TL h m L) (t0A m) r) m - fb_ct (clR (TL h m L) (t0A m) r) k))), some (.int (nI r)), some (.ref (a6 (3 + m + 1 + 1 + 1 + 1 + m + 1))), some (.int (nI k)), none, none, none, none, none] [] := by
        intro tof af htof haf j2
        induction j2 with
        | zero =>
          intro k hk2 vv gv dv zv dn O A1 R1 hRa hAa hVv Gt Ro Ri Ai hAi Dn To hgv hdv hzv hdn
          have hkm : k = m := by omega
          have eif : ∀ q, q < m → (if q < k then r + 1 else r) = r + 1 := fun q hq => if_pos (by omega)
          refine aw_iload C dX4_trade_260 Lk9 ?_
          refine aw_iload C dX4_trade_262 Lk4 ?_
          refine aw_icmp_ge C dX4_trade_264 (tgt := 376) (by decide) (fun c_264 => ?_) (fun c_264 => absurd (nI_le (by omega) (by omega)) c_264)
          refine aw_iinc C dX4_trade_376 Lk7 (nI_1 _) St7 rfl ?_
          refine aw_goto C dX4_trade_379 (tgt := 111) (by decide) ?_
          refine aW_drop (n' := 3 + m + 1 + 1 + 1 + 1 + m + 1) (by omega) ?_
          have O := O.dr (n' := 3 + m + 1 + 1 + 1 + 1 + m + 1) (by omega)
          have A1 := A1.dr (n' := 3 + m + 1 + 1 + 1 + 1 + m + 1) (by omega)
          have R1 := R1.dr (n' := 3 + m + 1 + 1 + 1 + 1 + m + 1) (by omega)
          have hRa := fun (k : Nat) (hk : k < m) => (hRa k hk).dr (n' := 3 + m + 1 + 1 + 1 + 1 + m + 1) (by omega)
          have Gt := Gt.dr (n' := 3 + m + 1 + 1 + 1 + 1 + m + 1) (by omega)
          have Ro := Ro.dr (n' := 3 + m + 1 + 1 + 1 + 1 + m + 1) (by omega)
          have Ri := Ri.dr (n' := 3 + m + 1 + 1 + 1 + 1 + m + 1) (by omega)
          have Ai := Ai.dr (n' := 3 + m + 1 + 1 + 1 + 1 + m + 1) (by omega)
          have hAi := fun (k : Nat) (hk : k < m) => (hAi k hk).dr (n' := 3 + m + 1 + 1 + 1 + 1 + m + 1) (by omega)
          have Dn := Dn.dr (n' := 3 + m + 1 + 1 + 1 + 1 + m + 1) (by omega)
          have h9 := ih (r + 1) (by omega) a6 vv gv dv zv dn af O A1 R1 hRa hAa hVv Gt Ro Ri Ai hAi Dn (fun q hq => by rw [hgv q hq, eif q hq]) (fun q hq => by rw [hdv q hq, eif q hq]) (fun q hq => by rw [hzv q hq, eif q hq]) (fun q hq => by rw [hdn q hq, eif q hq]) haf
          have e9 : fb_ct (thR (TL h m L) (t0A m) r) m - fb_ct (clR (TL h m L) (t0A m) r) k = fb_ct (thR (TL h m L) (t0A m) (r + 1)) m := by
            have := ct_next (T := TL h m L) (t0 := t0A m) (r := r) (m := m)
            rw [hkm]
            omega
          rw [e9]
          exact aw_widen (by omega) (by omega) (aW_wk h9 (Wk.k (Wk.k (Wk.k (Wk.k (Wk.k (Wk.k (Wk.k (Wk.k (Wk.d (Wk.d (Wk.d (Wk.d (Wk.d (Wk.d (Wk.d Wk.n))))))))))))))))
        | succ j2 ih2 =>
          intro k hk2 vv gv dv zv dn O A1 R1 hRa hAa hVv Gt Ro Ri Ai hAi Dn To hgv hdv hzv hdn
          have hkm : k < m := by omega
          have eif : ∀ q, q ≠ k → (if q < k + 1 then r + 1 else r) = (if q < k then r + 1 else r) := fun q hq => by
            by_cases c : q < k
            · rw [if_pos c, if_pos (by omega)]
            · rw [if_neg c, if_neg (by omega)]
          have ek1 : (if k < k + 1 then r + 1 else r) = r + 1 := if_pos (by omega)
          have ek0 : (if k < k then r + 1 else r) = r := if_neg (by omega)
          have hskip : clR (TL h m L) (t0A m) r k = false → aW pM l eM rmX4_trade sM mM argsM belowM methM cM (MQ belowM (gQ D (3 + m) a szM (TradeP cI cJ a v m h L)) argsM sM 30 300 AM) D AM (15 + r + 1) (160 + 10 * r + m) (3 + m + 1 + 1 + 1 + 1 + m + 1 + 1) a6 vv 370 [some (.ref (a 0)), some (.int (-1)), some (.int (-1)), some (.null), some (.int (nI m)), some (.ref (a5 (3 + m + 1 + 1 + 1 + 1 + m))), some (.int (nI (fb_ct (thR (TL h m L) (t0A m) r) m - fb_ct (clR (TL h m L) (t0A m) r) k))), some (.int (nI r)), some (.ref (a6 (3 + m + 1 + 1 + 1 + 1 + m + 1))), some (.int (nI k)), none, none, none, none, none] [] := fun hc => by
            refine aw_iinc C dX4_trade_370 Lk9 (nI_1 _) St9 rfl ?_
            refine aw_goto C dX4_trade_373 (tgt := 260) (by decide) ?_
            have h9 := ih2 (k + 1) (by omega) vv gv dv zv dn O A1 R1 hRa hAa hVv Gt Ro Ri Ai hAi Dn To (fun q hq => by
              by_cases c : q = k
              · subst c; rw [hgv q hq, ek1, ek0]; simp [gtR, hc]
              · rw [hgv q hq, eif q c]) (fun q hq => by
              by_cases c : q = k
              · subst c; rw [hdv q hq, ek1, ek0]; simp [dnR, hc]
              · rw [hdv q hq, eif q c]) (fun q hq => by
              by_cases c : q = k
              · subst c; rw [hzv q hq, ek1, ek0]; simp [zrR, hc]
              · rw [hzv q hq, eif q c]) (fun q hq => by
              by_cases c : q = k
              · subst c
                have e8 : thR (TL h m L) (t0A m) (r + 1) q = thR (TL h m L) (t0A m) r q := by
                  have h8 := thR_cl (T := TL h m L) (t0 := t0A m) (r := r) (k := q)
                  rw [hc, Bool.or_false] at h8
                  exact h8.symm
                rw [hdn q hq, ek1, ek0, e8]
              · rw [hdn q hq, eif q c])
            rw [fb_ct_succ, hc] at h9
            exact h9
          cases hth : (thR (TL h m L) (t0A m) r k)
          · skip
            refine aw_iload C dX4_trade_260 Lk9 ?_
            refine aw_iload C dX4_trade_262 Lk4 ?_
            refine aw_icmp_ge C dX4_trade_264 (tgt := 376) (by decide) (fun c_264 => absurd c_264 (nI_ge hkm (by omega))) (fun c_264 => ?_)
            refine aw_aload_n C dX4_trade_267 Lk0 ?_
            refine aw_g_aims C O dX4_trade_268 (by decide +kernel) (by decide +kernel) ?_
            refine aw_iload C dX4_trade_271 Lk9 ?_
            refine aw_rl C Ai hkm (if_pos hkm) dX4_trade_273 ?_
            refine aw_iload C dX4_trade_274 Lk7 ?_
            refine aw_il C (hAi k hkm) hrm dX4_trade_276 ?_
            rw [haf k hkm r hrm, amv_m hth]
            refine aw_if_ge C dX4_trade_277 (tgt := 283) (by decide) (fun c_277 => absurd c_277 (by decide)) (fun c_277 => ?_)
            refine aw_goto C dX4_trade_280 (tgt := 370) (by decide) ?_
            exact hskip (clR_no hth)
          · skip
            have hin : ∀ s, thR (TL h m L) (t0A m) r (itF (faR (TL h m L) (t0A m) r) s k) = true := fun s => itF_th hth s
            have hlt9 : ∀ s, itF (faR (TL h m L) (t0A m) r) s k < m := fun s => thR_lt t0A_ok (hin s)
            have hcy := cR_fuel (T := TL h m L) (t0 := t0A m) (n := m) t0A_ok WL.1 hth (Nat.le_refl m)
            have h314f : ∀ (s y : Nat), y < m → y ≠ k → clR (TL h m L) (t0A m) r k = false → aW pM l eM rmX4_trade sM mM argsM belowM methM cM (MQ belowM (gQ D (3 + m) a szM (TradeP cI cJ a v m h L)) argsM sM 30 300 AM) D AM (15 + r + 1) (160 + 10 * r + m) (3 + m + 1 + 1 + 1 + 1 + m + 1 + 1) a6 vv 314 [some (.ref (a 0)), some (.int (-1)), some (.int (-1)), some (.null), some (.int (nI m)), some (.ref (a5 (3 + m + 1 + 1 + 1 + 1 + m))), some (.int (nI (fb_ct (thR (TL h m L) (t0A m) r) m - fb_ct (clR (TL h m L) (t0A m) r) k))), some (.int (nI r)), some (.ref (a6 (3 + m + 1 + 1 + 1 + 1 + m + 1))), some (.int (nI k)), some (.int (nI s)), some (.int (nI y)), none, none, none] [] := fun s y hy hyk hc => by
              refine aw_iload C dX4_trade_314 Lk11 ?_
              refine aw_iload C dX4_trade_316 Lk9 ?_
              refine aw_icmp_eq C dX4_trade_318 (tgt := 324) (by decide) (fun c_318 => absurd c_318 (fun z => hyk (nI_inj (by omega) (by omega) z))) (fun c_318 => ?_)
              refine aw_goto C dX4_trade_321 (tgt := 370) (by decide) ?_
              exact aW_wk (hskip hc) (Wk.k (Wk.k (Wk.k (Wk.k (Wk.k (Wk.k (Wk.k (Wk.k (Wk.k (Wk.k (Wk.d (Wk.d (Wk.d (Wk.d (Wk.d Wk.n)))))))))))))))
            have h314t : clR (TL h m L) (t0A m) r k = true → aW pM l eM rmX4_trade sM mM argsM belowM methM cM (MQ belowM (gQ D (3 + m) a szM (TradeP cI cJ a v m h L)) argsM sM 30 300 AM) D AM (15 + r + 1) (160 + 10 * r + m) (3 + m + 1 + 1 + 1 + 1 + m + 1 + 1) a6 vv 314 [some (.ref (a 0)), some (.int (-1)), some (.int (-1)), some (.null), some (.int (nI m)), some (.ref (a5 (3 + m + 1 + 1 + 1 + 1 + m))), some (.int (nI (fb_ct (thR (TL h m L) (t0A m) r) m - fb_ct (clR (TL h m L) (t0A m) r) k))), some (.int (nI r)), some (.ref (a6 (3 + m + 1 + 1 + 1 + 1 + m + 1))), some (.int (nI k)), some (.int (nI (cyR (TL h m L) (t0A m) r k))), some (.int (nI k)), none, none, none] [] := fun hc => by
              have hfk : (faR (TL h m L) (t0A m) r k) < m := hlt9 1
              refine aw_iload C dX4_trade_314 Lk11 ?_
              refine aw_iload C dX4_trade_316 Lk9 ?_
              refine aw_icmp_eq C dX4_trade_318 (tgt := 324) (by decide) (fun c_318 => ?_) (fun c_318 => absurd rfl c_318)
              refine aw_aload_n C dX4_trade_324 Lk0 ?_
              refine aw_g_gets C O dX4_trade_325 (by decide +kernel) (by decide +kernel) ?_
              refine aw_iload C dX4_trade_328 Lk9 ?_
              refine aw_aload_n C dX4_trade_330 Lk0 ?_
              refine aw_g_has C O dX4_trade_331 (by decide +kernel) (by decide +kernel) ?_
              refine aw_aload C dX4_trade_334 Lk8 ?_
              refine aw_iload C dX4_trade_336 Lk9 ?_
              refine aw_il C To hkm dX4_trade_338 ?_
              rw [htof k hkm hth]
              refine aw_il C A1 hfk dX4_trade_339 ?_
              rw [hf _ hfk]
              refine bw_is C Gt hkm dX4_trade_340 (fun y1 hy1 Gt => ?_)
              have O := O.sv hy1 (by omega)
              have A1 := A1.sv hy1 (by omega)
              have R1 := R1.sv hy1 (by omega)
              have hRa := fun (k : Nat) (hk : k < m) => (hRa k hk).sv hy1 (by omega)
              have hVv := fun (j : Nat) (h0 : 0 < j) (hj : j < 3 + m) => (hy1 j (by omega)).trans (hVv j h0 hj)
              have Ro := Ro.sv hy1 (by omega)
              have Ri := Ri.sv hy1 (by omega)
              have Ai := Ai.sv hy1 (by omega)
              have hAi := fun (k : Nat) (hk : k < m) => (hAi k hk).sv hy1 (by omega)
              have Dn := Dn.sv hy1 (by omega)
              have To := To.sv hy1 (by omega)
              refine aw_aload_n C dX4_trade_341 Lk0 ?_
              refine aw_g_rounds C O dX4_trade_342 (by decide +kernel) (by decide +kernel) ?_
              refine aw_iload C dX4_trade_345 Lk9 ?_
              refine aw_iload C dX4_trade_347 Lk7 ?_
              refine aw_iconst C dX4_trade_349 (x := nI 1) (by decide) ?_
              refine aw_iadd C dX4_trade_350 ?_
              rw [nI_add]
              refine bw_is C Ro hkm dX4_trade_351 (fun y2 hy2 Ro => ?_)
              have O := O.sv hy2 (by omega)
              have A1 := A1.sv hy2 (by omega)
              have R1 := R1.sv hy2 (by omega)
              have hRa := fun (k : Nat) (hk : k < m) => (hRa k hk).sv hy2 (by omega)
              have hVv := fun (j : Nat) (h0 : 0 < j) (hj : j < 3 + m) => (hy2 j (by omega)).trans (hVv j h0 hj)
              have Gt := Gt.sv hy2 (by omega)
              have Ri := Ri.sv hy2 (by omega)
              have Ai := Ai.sv hy2 (by omega)
              have hAi := fun (k : Nat) (hk : k < m) => (hAi k hk).sv hy2 (by omega)
              have Dn := Dn.sv hy2 (by omega)
              have To := To.sv hy2 (by omega)
              refine aw_aload_n C dX4_trade_352 Lk0 ?_
              refine aw_g_rings C O dX4_trade_353 (by decide +kernel) (by decide +kernel) ?_
              refine aw_iload C dX4_trade_356 Lk9 ?_
              refine aw_iload C dX4_trade_358 Lk10 ?_
              refine bw_is C Ri hkm dX4_trade_360 (fun y3 hy3 Ri => ?_)
              have O := O.sv hy3 (by omega)
              have A1 := A1.sv hy3 (by omega)
              have R1 := R1.sv hy3 (by omega)
              have hRa := fun (k : Nat) (hk : k < m) => (hRa k hk).sv hy3 (by omega)
              have hVv := fun (j : Nat) (h0 : 0 < j) (hj : j < 3 + m) => (hy3 j (by omega)).trans (hVv j h0 hj)
              have Gt := Gt.sv hy3 (by omega)
              have Ro := Ro.sv hy3 (by omega)
              have Ai := Ai.sv hy3 (by omega)
              have hAi := fun (k : Nat) (hk : k < m) => (hAi k hk).sv hy3 (by omega)
              have Dn := Dn.sv hy3 (by omega)
              have To := To.sv hy3 (by omega)
              refine aw_aload C dX4_trade_361 Lk5 ?_
              refine aw_iload C dX4_trade_363 Lk9 ?_
              refine aw_iconst C dX4_trade_365 (x := nI 1) (by decide) ?_
              refine bw_zs C Dn hkm (by decide) dX4_trade_366 (fun y4 hy4 Dn => ?_)
              have O := O.sv hy4 (by omega)
              have A1 := A1.sv hy4 (by omega)
              have R1 := R1.sv hy4 (by omega)
              have hRa := fun (k : Nat) (hk : k < m) => (hRa k hk).sv hy4 (by omega)
              have hVv := fun (j : Nat) (h0 : 0 < j) (hj : j < 3 + m) => (hy4 j (by omega)).trans (hVv j h0 hj)
              have Gt := Gt.sv hy4 (by omega)
              have Ro := Ro.sv hy4 (by omega)
              have Ri := Ri.sv hy4 (by omega)
              have Ai := Ai.sv hy4 (by omega)
              have hAi := fun (k : Nat) (hk : k < m) => (hAi k hk).sv hy4 (by omega)
              have To := To.sv hy4 (by omega)
              have hle9 : fb_ct (clR (TL h m L) (t0A m) r) k + 1 ≤ fb_ct (thR (TL h m L) (t0A m) r) m := by
                have h1 := fb_ct_mono (clR (TL h m L) (t0A m) r) (show k + 1 ≤ m by omega)
                rw [fb_ct_succ, hc] at h1
                have h2 := ct_cl (T := TL h m L) (t0 := t0A m) (r := r) m
                simp only [if_true] at h1
                omega
              obtain ⟨w9, hw9⟩ : ∃ w, fb_ct (thR (TL h m L) (t0A m) r) m - fb_ct (clR (TL h m L) (t0A m) r) k = w + 1 := ⟨_, (Nat.sub_add_cancel (show 1 ≤ fb_ct (thR (TL h m L) (t0A m) r) m - fb_ct (clR (TL h m L) (t0A m) r) k by omega)).symm⟩
              rw [hw9]
              refine aw_iinc C dX4_trade_367 Lk6 (pk_m1 _) St6 rfl ?_
              refine aw_iinc C dX4_trade_370 Lk9 (nI_1 _) St9 rfl ?_
              refine aw_goto C dX4_trade_373 (tgt := 260) (by decide) ?_
              have h9 := ih2 (k + 1) (by omega) y4 _ _ _ _ O A1 R1 hRa hAa hVv Gt Ro Ri Ai hAi Dn To (fun q hq => by
                by_cases c : q = k
                · subst c; rw [pk_us, ek1]; simp [gtR, hc]
                · rw [pk_un c, hgv q hq, eif q c]) (fun q hq => by
                by_cases c : q = k
                · subst c; rw [pk_us, ek1]; simp [dnR, hc]
                · rw [pk_un c, hdv q hq, eif q c]) (fun q hq => by
                by_cases c : q = k
                · subst c; rw [pk_us, ek1]; simp [zrR, hc]
                · rw [pk_un c, hzv q hq, eif q c]) (fun q hq => by
                by_cases c : q = k
                · subst c; rw [pk_us, ek1, (clR_th hc).2.2]; rfl
                · rw [pk_un c, hdn q hq, eif q c])
              rw [fb_ct_succ, hc] at h9
              simp only [if_true] at h9
              rw [show fb_ct (thR (TL h m L) (t0A m) r) m - (fb_ct (clR (TL h m L) (t0A m) r) k + 1) = w9 by omega] at h9
              exact aW_wk h9 (Wk.k (Wk.k (Wk.k (Wk.k (Wk.k (Wk.k (Wk.k (Wk.k (Wk.k (Wk.k (Wk.d (Wk.d (Wk.d (Wk.d (Wk.d Wk.n)))))))))))))))
            have h290 : ∀ (j3 s : Nat), s + j3 + 1 = m → (∀ i, 1 ≤ i → i ≤ s → itF (faR (TL h m L) (t0A m) r) i k ≠ k) → aW pM l eM rmX4_trade sM mM argsM belowM methM cM (MQ belowM (gQ D (3 + m) a szM (TradeP cI cJ a v m h L)) argsM sM 30 300 AM) D AM (15 + r + 1) (160 + 10 * r + m) (3 + m + 1 + 1 + 1 + 1 + m + 1 + 1) a6 vv 290 [some (.ref (a 0)), some (.int (-1)), some (.int (-1)), some (.null), some (.int (nI m)), some (.ref (a5 (3 + m + 1 + 1 + 1 + 1 + m))), some (.int (nI (fb_ct (thR (TL h m L) (t0A m) r) m - fb_ct (clR (TL h m L) (t0A m) r) k))), some (.int (nI r)), some (.ref (a6 (3 + m + 1 + 1 + 1 + 1 + m + 1))), some (.int (nI k)), some (.int (nI s)), some (.int (nI (itF (faR (TL h m L) (t0A m) r) s k))), none, none, none] [] := by
              intro j3
              induction j3 with
              | zero =>
                intro s hs hno
                have hfs : tof (itF (faR (TL h m L) (t0A m) r) s k) = nI (itF (faR (TL h m L) (t0A m) r) (s + 1) k) := htof _ (hlt9 s) (hin s)
                by_cases e : itF (faR (TL h m L) (t0A m) r) (s + 1) k = k
                · skip
                  refine aw_aload C dX4_trade_290 Lk8 ?_
                  refine aw_iload C dX4_trade_292 Lk11 ?_
                  refine aw_il C To (hlt9 s) dX4_trade_294 ?_
                  rw [hfs]
                  refine aw_istore C dX4_trade_295 St11 rfl ?_
                  refine aw_iinc C dX4_trade_297 Lk10 (nI_1 _) St10 rfl ?_
                  refine aw_iload C dX4_trade_300 Lk11 ?_
                  refine aw_iload C dX4_trade_302 Lk9 ?_
                  refine aw_icmp_eq C dX4_trade_304 (tgt := 314) (by decide) (fun c_304 => ?_) (fun c_304 => absurd (by rw [e]) c_304)
                  have hc1 : cyR (TL h m L) (t0A m) r k = s + 1 := by rw [← hcy]; exact cyG_is (by omega) (by omega) e (fun i h1 h2 => hno i h1 (by omega))
                  have h9 := h314t (clR_of hth (by omega))
                  rw [hc1] at h9
                  rw [e]
                  exact h9
                · skip
                  refine aw_aload C dX4_trade_290 Lk8 ?_
                  refine aw_iload C dX4_trade_292 Lk11 ?_
                  refine aw_il C To (hlt9 s) dX4_trade_294 ?_
                  rw [hfs]
                  refine aw_istore C dX4_trade_295 St11 rfl ?_
                  refine aw_iinc C dX4_trade_297 Lk10 (nI_1 _) St10 rfl ?_
                  refine aw_iload C dX4_trade_300 Lk11 ?_
                  refine aw_iload C dX4_trade_302 Lk9 ?_
                  refine aw_icmp_eq C dX4_trade_304 (tgt := 314) (by decide) (fun c_304 => absurd c_304 (fun z => e (nI_inj (by have := hlt9 (s + 1); omega) (by omega) z))) (fun c_304 => ?_)
                  refine aw_iload C dX4_trade_307 Lk10 ?_
                  refine aw_iload C dX4_trade_309 Lk4 ?_
                  refine aw_icmp_lt C dX4_trade_311 (tgt := 290) (by decide) (fun c_311 => absurd c_311 (nI_nlt (by omega) (by omega))) (fun c_311 => ?_)
                  have hc0 : cyR (TL h m L) (t0A m) r k = 0 := by
                    rw [← hcy]
                    rcases cyG1 (faR (TL h m L) (t0A m) r) k m with ⟨z, -⟩ | ⟨z1, z2, z3, -⟩
                    · exact z
                    · exfalso
                      by_cases c9 : cyG (faR (TL h m L) (t0A m) r) k m 1 k = s + 1
                      · rw [c9] at z3; exact e z3
                      · exact hno _ z1 (by omega) z3
                  exact h314f (s + 1) _ (hlt9 (s + 1)) e (by simp only [clR, hc0]; simp)
              | succ j3 ih3 =>
                intro s hs hno
                have hfs : tof (itF (faR (TL h m L) (t0A m) r) s k) = nI (itF (faR (TL h m L) (t0A m) r) (s + 1) k) := htof _ (hlt9 s) (hin s)
                by_cases e : itF (faR (TL h m L) (t0A m) r) (s + 1) k = k
                · skip
                  refine aw_aload C dX4_trade_290 Lk8 ?_
                  refine aw_iload C dX4_trade_292 Lk11 ?_
                  refine aw_il C To (hlt9 s) dX4_trade_294 ?_
                  rw [hfs]
                  refine aw_istore C dX4_trade_295 St11 rfl ?_
                  refine aw_iinc C dX4_trade_297 Lk10 (nI_1 _) St10 rfl ?_
                  refine aw_iload C dX4_trade_300 Lk11 ?_
                  refine aw_iload C dX4_trade_302 Lk9 ?_
                  refine aw_icmp_eq C dX4_trade_304 (tgt := 314) (by decide) (fun c_304 => ?_) (fun c_304 => absurd (by rw [e]) c_304)
                  have hc1 : cyR (TL h m L) (t0A m) r k = s + 1 := by rw [← hcy]; exact cyG_is (by omega) (by omega) e (fun i h1 h2 => hno i h1 (by omega))
                  have h9 := h314t (clR_of hth (by omega))
                  rw [hc1] at h9
                  rw [e]
                  exact h9
                · skip
                  refine aw_aload C dX4_trade_290 Lk8 ?_
                  refine aw_iload C dX4_trade_292 Lk11 ?_
                  refine aw_il C To (hlt9 s) dX4_trade_294 ?_
                  rw [hfs]
                  refine aw_istore C dX4_trade_295 St11 rfl ?_
                  refine aw_iinc C dX4_trade_297 Lk10 (nI_1 _) St10 rfl ?_
                  refine aw_iload C dX4_trade_300 Lk11 ?_
                  refine aw_iload C dX4_trade_302 Lk9 ?_
                  refine aw_icmp_eq C dX4_trade_304 (tgt := 314) (by decide) (fun c_304 => absurd c_304 (fun z => e (nI_inj (by have := hlt9 (s + 1); omega) (by omega) z))) (fun c_304 => ?_)
                  refine aw_iload C dX4_trade_307 Lk10 ?_
                  refine aw_iload C dX4_trade_309 Lk4 ?_
                  refine aw_icmp_lt C dX4_trade_311 (tgt := 290) (by decide) (fun c_311 => ?_) (fun c_311 => absurd (nI_lt (by omega) (by omega)) c_311)
                  exact ih3 (s + 1) (by omega) (fun i h1 h2 => by
                    by_cases c9 : i = s + 1
                    · rw [c9]; exact e
                    · exact hno i h1 (by omega))
            refine aw_iload C dX4_trade_260 Lk9 ?_
            refine aw_iload C dX4_trade_262 Lk4 ?_
            refine aw_icmp_ge C dX4_trade_264 (tgt := 376) (by decide) (fun c_264 => absurd c_264 (nI_ge hkm (by omega))) (fun c_264 => ?_)
            refine aw_aload_n C dX4_trade_267 Lk0 ?_
            refine aw_g_aims C O dX4_trade_268 (by decide +kernel) (by decide +kernel) ?_
            refine aw_iload C dX4_trade_271 Lk9 ?_
            refine aw_rl C Ai hkm (if_pos hkm) dX4_trade_273 ?_
            refine aw_iload C dX4_trade_274 Lk7 ?_
            refine aw_il C (hAi k hkm) hrm dX4_trade_276 ?_
            rw [haf k hkm r hrm, amv_t hth]
            refine aw_if_ge C dX4_trade_277 (tgt := 283) (by decide) (fun c_277 => ?_) (fun c_277 => absurd (nI_pos' (by have := hlt9 1; have e9 : (faR (TL h m L) (t0A m) r k) = itF (faR (TL h m L) (t0A m) r) 1 k := rfl; omega)) c_277)
            refine aw_iconst C dX4_trade_283 (x := nI 0) (by decide) ?_
            refine aw_istore C dX4_trade_284 St10 rfl ?_
            refine aw_iload C dX4_trade_286 Lk9 ?_
            refine aw_istore C dX4_trade_288 St11 rfl ?_
            exact h290 (m - 1) 0 (by omega) (fun i h1 h2 => by omega)
      have hC : ∀ (j2 k : Nat), k + j2 = m → ∀ (vv : Nat → va_E) (tof : Nat → Int32) (af : Nat → Nat → Int32), (Ob (3 + m + 1 + 1 + 1 + 1 + m + 1 + 1) a6 vv 0 (a 0) [.ref (a 1), .ref (a 2), .ref (a1 (3 + m)), .ref (a2 (3 + m + 1)), .ref (a3 (3 + m + 1 + 1)), .ref (a4 (3 + m + 1 + 1 + 1))]) → (Ar cI (3 + m + 1 + 1 + 1 + 1 + m + 1 + 1) a6 vv 1 (a 1) m f) → (Rr cJ (3 + m + 1 + 1 + 1 + 1 + m + 1 + 1) a6 vv 2 (a 2) m g) → (∀ k, k < m → Ar cI (3 + m + 1 + 1 + 1 + 1 + m + 1 + 1) a6 vv (3 + k) (a (3 + k)) (L k).length (rf k)) → (∀ j, j < 3 + m → a6 j = a j) → (∀ j, 0 < j → j < 3 + m → vv j = v j) → (Ar cI (3 + m + 1 + 1 + 1 + 1 + m + 1 + 1) a6 vv (3 + m) (a1 (3 + m)) m gv) → (Ar cI (3 + m + 1 + 1 + 1 + 1 + m + 1 + 1) a6 vv (3 + m + 1) (a2 (3 + m + 1)) m dv) → (Ar cI (3 + m + 1 + 1 + 1 + 1 + m + 1 + 1) a6 vv (3 + m + 1 + 1) (a3 (3 + m + 1 + 1)) m zv) → (Rr cJ (3 + m + 1 + 1 + 1 + 1 + m + 1 + 1) a6 vv (3 + m + 1 + 1 + 1) (a4 (3 + m + 1 + 1 + 1)) m (fun i => if i < m then some (a4 (3 + m + 1 + 1 + 1 + 1 + i)) else none)) → (∀ k, k < m → Ar cI (3 + m + 1 + 1 + 1 + 1 + m + 1 + 1) a6 vv (3 + m + 1 + 1 + 1 + 1 + k) (a4 (3 + m + 1 + 1 + 1 + 1 + k)) m (af k)) → (Ar cZ (3 + m + 1 + 1 + 1 + 1 + m + 1 + 1) a6 vv (3 + m + 1 + 1 + 1 + 1 + m) (a5 (3 + m + 1 + 1 + 1 + 1 + m)) m dn) → (Ar cI (3 + m + 1 + 1 + 1 + 1 + m + 1 + 1) a6 vv (3 + m + 1 + 1 + 1 + 1 + m + 1) (a6 (3 + m + 1 + 1 + 1 + 1 + m + 1)) m tof) → (∀ q, q < k → (thR (TL h m L) (t0A m) r q) = true → tof q = nI (faR (TL h m L) (t0A m) r q)) → (∀ q, q < m → ∀ c, c < m → af q c = amv (TL h m L) (t0A m) (if q < k then r + 1 else r) q c) → aW pM l eM rmX4_trade sM mM argsM belowM methM cM (MQ belowM (gQ D (3 + m) a szM (TradeP cI cJ a v m h L)) argsM sM 30 300 AM) D AM (15 + r + 1) (160 + 10 * r + m) (3 + m + 1 + 1 + 1 + 1 + m + 1 + 1) a6 vv 125 [some (.ref (a 0)), some (.int (-1)), some (.int (-1)), some (.null), some (.int (nI m)), some (.ref (a5 (3 + m + 1 + 1 + 1 + 1 + m))), some (.int (nI (fb_ct (thR (TL h m L) (t0A m) r) m))), some (.int (nI r)), some (.ref (a6 (3 + m + 1 + 1 + 1 + 1 + m + 1))), some (.int (nI k)), none, none, none, none, none] [] := by
        intro j2
        induction j2 with
        | zero =>
          intro k hk2 vv tof af O A1 R1 hRa hAa hVv Gt Ro Ri Ai hAi Dn To htof haf
          refine aw_iload C dX4_trade_125 Lk9 ?_
          refine aw_iload C dX4_trade_127 Lk4 ?_
          refine aw_icmp_ge C dX4_trade_129 (tgt := 257) (by decide) (fun c_129 => ?_) (fun c_129 => absurd (nI_le (by omega) (by omega)) c_129)
          refine aw_iconst C dX4_trade_257 (x := nI 0) (by decide) ?_
          refine aw_istore C dX4_trade_258 St9 rfl ?_
          have h9 := hE tof af (fun q hq => htof q (by omega)) (fun q hq c hc => by rw [haf q hq c hc, if_pos (show q < k by omega)]) m 0 (by omega) vv gv dv zv dn O A1 R1 hRa hAa hVv Gt Ro Ri Ai hAi Dn To (fun q hq => by rw [if_neg (show ¬ q < 0 by omega)]; exact hgv q hq) (fun q hq => by rw [if_neg (show ¬ q < 0 by omega)]; exact hdv q hq) (fun q hq => by rw [if_neg (show ¬ q < 0 by omega)]; exact hzv q hq) (fun q hq => by rw [if_neg (show ¬ q < 0 by omega)]; exact hdn q hq)
          exact h9
        | succ j2 ih2 =>
          intro k hk2 vv tof af O A1 R1 hRa hAa hVv Gt Ro Ri Ai hAi Dn To htof haf
          have hkm : k < m := by omega
          have eif : ∀ q, q ≠ k → (if q < k + 1 then r + 1 else r) = (if q < k then r + 1 else r) := fun q hq => by
            by_cases c : q < k
            · rw [if_pos c, if_pos (by omega)]
            · rw [if_neg c, if_neg (by omega)]
          have ek1 : (if k < k + 1 then r + 1 else r) = r + 1 := if_pos (by omega)
          have ek0 : (if k < k then r + 1 else r) = r := if_neg (by omega)
          cases hth : (thR (TL h m L) (t0A m) r k)
          · skip
            refine aw_iload C dX4_trade_125 Lk9 ?_
            refine aw_iload C dX4_trade_127 Lk4 ?_
            refine aw_icmp_ge C dX4_trade_129 (tgt := 257) (by decide) (fun c_129 => absurd c_129 (nI_ge hkm (by omega))) (fun c_129 => ?_)
            refine aw_aload C dX4_trade_132 Lk5 ?_
            refine aw_iload C dX4_trade_134 Lk9 ?_
            refine aw_zl C Dn hkm dX4_trade_136 ?_
            rw [hdn k hkm, hth]
            refine aw_if_eq C dX4_trade_137 (tgt := 143) (by decide) (fun c_137 => absurd c_137 (by decide)) (fun c_137 => ?_)
            refine aw_goto C dX4_trade_140 (tgt := 251) (by decide) ?_
            refine aw_iinc C dX4_trade_251 Lk9 (nI_1 _) St9 rfl ?_
            refine aw_goto C dX4_trade_254 (tgt := 125) (by decide) ?_
            exact ih2 (k + 1) (by omega) vv tof af O A1 R1 hRa hAa hVv Gt Ro Ri Ai hAi Dn To (fun q hq h9 => by
              by_cases c : q = k
              · subst c; rw [hth] at h9; cases h9
              · exact htof q (by omega) h9) (fun q hq c hc => by
              by_cases e : q = k
              · subst e; rw [haf q hq c hc, ek1, ek0, amv_f hth]
              · rw [haf q hq c hc, eif q e])
          · skip
            have hlen := hR k hkm
            have hTl : (TL h m L k).length = (L k).length := TL_len
            have hD : ∀ (j3 p : Nat), p + j3 = (L k).length → ∀ (vv : Nat → va_E) (tof : Nat → Int32), (Ob (3 + m + 1 + 1 + 1 + 1 + m + 1 + 1) a6 vv 0 (a 0) [.ref (a 1), .ref (a 2), .ref (a1 (3 + m)), .ref (a2 (3 + m + 1)), .ref (a3 (3 + m + 1 + 1)), .ref (a4 (3 + m + 1 + 1 + 1))]) → (Ar cI (3 + m + 1 + 1 + 1 + 1 + m + 1 + 1) a6 vv 1 (a 1) m f) → (Rr cJ (3 + m + 1 + 1 + 1 + 1 + m + 1 + 1) a6 vv 2 (a 2) m g) → (∀ k, k < m → Ar cI (3 + m + 1 + 1 + 1 + 1 + m + 1 + 1) a6 vv (3 + k) (a (3 + k)) (L k).length (rf k)) → (∀ j, j < 3 + m → a6 j = a j) → (∀ j, 0 < j → j < 3 + m → vv j = v j) → (Ar cI (3 + m + 1 + 1 + 1 + 1 + m + 1 + 1) a6 vv (3 + m) (a1 (3 + m)) m gv) → (Ar cI (3 + m + 1 + 1 + 1 + 1 + m + 1 + 1) a6 vv (3 + m + 1) (a2 (3 + m + 1)) m dv) → (Ar cI (3 + m + 1 + 1 + 1 + 1 + m + 1 + 1) a6 vv (3 + m + 1 + 1) (a3 (3 + m + 1 + 1)) m zv) → (Rr cJ (3 + m + 1 + 1 + 1 + 1 + m + 1 + 1) a6 vv (3 + m + 1 + 1 + 1) (a4 (3 + m + 1 + 1 + 1)) m (fun i => if i < m then some (a4 (3 + m + 1 + 1 + 1 + 1 + i)) else none)) → (∀ k, k < m → Ar cI (3 + m + 1 + 1 + 1 + 1 + m + 1 + 1) a6 vv (3 + m + 1 + 1 + 1 + 1 + k) (a4 (3 + m + 1 + 1 + 1 + 1 + k)) m (af k)) → (Ar cZ (3 + m + 1 + 1 + 1 + 1 + m + 1 + 1) a6 vv (3 + m + 1 + 1 + 1 + 1 + m) (a5 (3 + m + 1 + 1 + 1 + 1 + m)) m dn) → (Ar cI (3 + m + 1 + 1 + 1 + 1 + m + 1 + 1) a6 vv (3 + m + 1 + 1 + 1 + 1 + m + 1) (a6 (3 + m + 1 + 1 + 1 + 1 + m + 1)) m tof) → tof k = nI (fP (TL h m L) (thR (TL h m L) (t0A m) r) k p) → (∀ q, q < k → (thR (TL h m L) (t0A m) r q) = true → tof q = nI (faR (TL h m L) (t0A m) r q)) → aW pM l eM rmX4_trade sM mM argsM belowM methM cM (MQ belowM (gQ D (3 + m) a szM (TradeP cI cJ a v m h L)) argsM sM 30 300 AM) D AM (15 + r + 1) (160 + 10 * r + m) (3 + m + 1 + 1 + 1 + 1 + m + 1 + 1) a6 vv 177 [some (.ref (a 0)), some (.int (-1)), some (.int (-1)), some (.null), some (.int (nI m)), some (.ref (a5 (3 + m + 1 + 1 + 1 + 1 + m))), some (.int (nI (fb_ct (thR (TL h m L) (t0A m) r) m))), some (.int (nI r)), some (.ref (a6 (3 + m + 1 + 1 + 1 + 1 + m + 1))), some (.int (nI k)), some (.ref (a (3 + k))), some (.int (nI (L k).length)), some (.int (nI p)), none, none] [] := by
              intro j3
              induction j3 with
              | zero =>
                intro p hp3 vv tof O A1 R1 hRa hAa hVv Gt Ro Ri Ai hAi Dn To htk htof
                refine aw_iload C dX4_trade_177 Lk12 ?_
                refine aw_iload C dX4_trade_179 Lk11 ?_
                refine aw_icmp_ge C dX4_trade_181 (tgt := 236) (by decide) (fun c_181 => ?_) (fun c_181 => absurd (nI_le (by omega) (by omega)) c_181)
                refine aw_aload_n C dX4_trade_236 Lk0 ?_
                refine aw_g_aims C O dX4_trade_237 (by decide +kernel) (by decide +kernel) ?_
                refine aw_iload C dX4_trade_240 Lk9 ?_
                refine aw_rl C Ai hkm (if_pos hkm) dX4_trade_242 ?_
                refine aw_iload C dX4_trade_243 Lk7 ?_
                refine aw_aload C dX4_trade_245 Lk8 ?_
                refine aw_iload C dX4_trade_247 Lk9 ?_
                refine aw_il C To hkm dX4_trade_249 ?_
                rw [htk, fP_l (by omega)]
                refine bw_is C (hAi k hkm) hrm dX4_trade_250 (fun y1 hy1 H1 => ?_)
                have hAi := fam_st hAi hy1 H1
                have O := O.sv hy1 (by omega)
                have A1 := A1.sv hy1 (by omega)
                have R1 := R1.sv hy1 (by omega)
                have hRa := fun (k : Nat) (hk : k < m) => (hRa k hk).sv hy1 (by omega)
                have hVv := fun (j : Nat) (h0 : 0 < j) (hj : j < 3 + m) => (hy1 j (by omega)).trans (hVv j h0 hj)
                have Gt := Gt.sv hy1 (by omega)
                have Ro := Ro.sv hy1 (by omega)
                have Ri := Ri.sv hy1 (by omega)
                have Ai := Ai.sv hy1 (by omega)
                have Dn := Dn.sv hy1 (by omega)
                have To := To.sv hy1 (by omega)
                refine aw_iinc C dX4_trade_251 Lk9 (nI_1 _) St9 rfl ?_
                refine aw_goto C dX4_trade_254 (tgt := 125) (by decide) ?_
                have h9 := ih2 (k + 1) (by omega) y1 tof _ O A1 R1 hRa hAa hVv Gt Ro Ri Ai hAi Dn To (fun q hq h8 => by
                  by_cases c : q = k
                  · subst c; rw [htk, fP_l (by omega)]; rfl
                  · exact htof q (by omega) h8) (fun q hq c hc => by
                  by_cases e : q = k
                  · subst e
                    rw [famS_e, ek1]
                    by_cases e2 : c = r
                    · subst e2; rw [pk_us, amv_t hth]; rfl
                    · rw [pk_un e2, haf q hq c hc, ek0, amv_n e2]
                  · rw [famS_n e, haf q hq c hc, eif q e])
                exact aW_wk h9 (Wk.k (Wk.k (Wk.k (Wk.k (Wk.k (Wk.k (Wk.k (Wk.k (Wk.k (Wk.k (Wk.d (Wk.d (Wk.d (Wk.d (Wk.d Wk.n)))))))))))))))
              | succ j3 ih3 =>
                intro p hp3 vv tof O A1 R1 hRa hAa hVv Gt Ro Ri Ai hAi Dn To htk htof
                have hpl : p < (L k).length := by omega
                have hx := (WL.2.2.2 k hkm).1 p hpl
                have ho := WL.ow hx.1
                have hTp : (TL h m L k).getD p 0 = ow h m ((L k).getD p 0) := TL_at hpl
                generalize hxe : (L k).getD p 0 = x at hx ho hTp
                have hfind : rFind f (nI x) m 0 = nI (ow h m x) := WL.find hf hx.1
                cases hto : (thR (TL h m L) (t0A m) r (ow h m x))
                · skip
                  refine aw_iload C dX4_trade_177 Lk12 ?_
                  refine aw_iload C dX4_trade_179 Lk11 ?_
                  refine aw_icmp_ge C dX4_trade_181 (tgt := 236) (by decide) (fun c_181 => absurd c_181 (nI_ge hpl (by omega))) (fun c_181 => ?_)
                  refine aw_aload C dX4_trade_184 Lk10 ?_
                  refine aw_iload C dX4_trade_186 Lk12 ?_
                  refine aw_il C (hRa k hkm) hpl dX4_trade_188 ?_
                  rw [hlen.2.2 p hpl, hxe]
                  refine aw_istore C dX4_trade_189 St13 rfl ?_
                  refine aw_aload_n C dX4_trade_191 Lk0 ?_
                  refine aw_g_has C O dX4_trade_192 (by decide +kernel) (by decide +kernel) ?_
                  refine aw_iload C dX4_trade_195 Lk13 ?_
                  refine aw_find C dX4_trade_197 gX4_trade_X4_find A1 (aChk_mk rfl (by show 15 + r + 1 + 0 ≤ 30; omega) (by show 160 + 10 * r + m + 0 ≤ 300; omega)) ?_
                  rw [hfind]
                  refine aw_istore C dX4_trade_200 St14 rfl ?_
                  refine aw_aload C dX4_trade_202 Lk5 ?_
                  refine aw_iload C dX4_trade_204 Lk14 ?_
                  refine aw_zl C Dn ho.1 dX4_trade_206 ?_
                  rw [hdn _ ho.1, hto]
                  refine aw_if_ne C dX4_trade_207 (tgt := 230) (by decide) (fun c_207 => ?_) (fun c_207 => absurd (by decide) c_207)
                  refine aw_iinc C dX4_trade_230 Lk12 (nI_1 _) St12 rfl ?_
                  refine aw_goto C dX4_trade_233 (tgt := 177) (by decide) ?_
                  exact aW_wk (ih3 (p + 1) (by omega) vv tof O A1 R1 hRa hAa hVv Gt Ro Ri Ai hAi Dn To (by rw [htk, fP_f (by omega) (by rw [hTp]; exact hto)]) htof) (Wk.k (Wk.k (Wk.k (Wk.k (Wk.k (Wk.k (Wk.k (Wk.k (Wk.k (Wk.k (Wk.k (Wk.k (Wk.k (Wk.d (Wk.d Wk.n)))))))))))))))
                · skip
                  by_cases hfp : fP (TL h m L) (thR (TL h m L) (t0A m) r) k p = k
                  · skip
                    refine aw_iload C dX4_trade_177 Lk12 ?_
                    refine aw_iload C dX4_trade_179 Lk11 ?_
                    refine aw_icmp_ge C dX4_trade_181 (tgt := 236) (by decide) (fun c_181 => absurd c_181 (nI_ge hpl (by omega))) (fun c_181 => ?_)
                    refine aw_aload C dX4_trade_184 Lk10 ?_
                    refine aw_iload C dX4_trade_186 Lk12 ?_
                    refine aw_il C (hRa k hkm) hpl dX4_trade_188 ?_
                    rw [hlen.2.2 p hpl, hxe]
                    refine aw_istore C dX4_trade_189 St13 rfl ?_
                    refine aw_aload_n C dX4_trade_191 Lk0 ?_
                    refine aw_g_has C O dX4_trade_192 (by decide +kernel) (by decide +kernel) ?_
                    refine aw_iload C dX4_trade_195 Lk13 ?_
                    refine aw_find C dX4_trade_197 gX4_trade_X4_find A1 (aChk_mk rfl (by show 15 + r + 1 + 0 ≤ 30; omega) (by show 160 + 10 * r + m + 0 ≤ 300; omega)) ?_
                    rw [hfind]
                    refine aw_istore C dX4_trade_200 St14 rfl ?_
                    refine aw_aload C dX4_trade_202 Lk5 ?_
                    refine aw_iload C dX4_trade_204 Lk14 ?_
                    refine aw_zl C Dn ho.1 dX4_trade_206 ?_
                    rw [hdn _ ho.1, hto]
                    refine aw_if_ne C dX4_trade_207 (tgt := 230) (by decide) (fun c_207 => absurd c_207 (by decide)) (fun c_207 => ?_)
                    refine aw_aload C dX4_trade_210 Lk8 ?_
                    refine aw_iload C dX4_trade_212 Lk9 ?_
                    refine aw_il C To hkm dX4_trade_214 ?_
                    rw [htk, hfp]
                    refine aw_iload C dX4_trade_215 Lk9 ?_
                    refine aw_icmp_eq C dX4_trade_217 (tgt := 223) (by decide) (fun c_217 => ?_) (fun c_217 => absurd rfl c_217)
                    refine aw_aload C dX4_trade_223 Lk8 ?_
                    refine aw_iload C dX4_trade_225 Lk9 ?_
                    refine aw_iload C dX4_trade_227 Lk14 ?_
                    refine bw_is C To hkm dX4_trade_229 (fun y1 hy1 To => ?_)
                    have O := O.sv hy1 (by omega)
                    have A1 := A1.sv hy1 (by omega)
                    have R1 := R1.sv hy1 (by omega)
                    have hRa := fun (k : Nat) (hk : k < m) => (hRa k hk).sv hy1 (by omega)
                    have hVv := fun (j : Nat) (h0 : 0 < j) (hj : j < 3 + m) => (hy1 j (by omega)).trans (hVv j h0 hj)
                    have Gt := Gt.sv hy1 (by omega)
                    have Ro := Ro.sv hy1 (by omega)
                    have Ri := Ri.sv hy1 (by omega)
                    have Ai := Ai.sv hy1 (by omega)
                    have hAi := fun (k : Nat) (hk : k < m) => (hAi k hk).sv hy1 (by omega)
                    have Dn := Dn.sv hy1 (by omega)
                    refine aw_iinc C dX4_trade_230 Lk12 (nI_1 _) St12 rfl ?_
                    refine aw_goto C dX4_trade_233 (tgt := 177) (by decide) ?_
                    exact aW_wk (ih3 (p + 1) (by omega) y1 _ O A1 R1 hRa hAa hVv Gt Ro Ri Ai hAi Dn To (by rw [pk_us, fP_t (by omega) (hTne k hkm) hfp (by rw [hTp]; exact hto), hTp]) (fun q hq h8 => by rw [pk_un (by omega)]; exact htof q hq h8)) (Wk.k (Wk.k (Wk.k (Wk.k (Wk.k (Wk.k (Wk.k (Wk.k (Wk.k (Wk.k (Wk.k (Wk.k (Wk.k (Wk.d (Wk.d Wk.n)))))))))))))))
                  · skip
                    have hfm : fP (TL h m L) (thR (TL h m L) (t0A m) r) k p < m := by
                      simp only [fP]
                      cases e8 : ((TL h m L k).take p).find? (thR (TL h m L) (t0A m) r) with
                      | none => exact hkm
                      | some q => exact thR_lt t0A_ok (List.find?_some e8)
                    refine aw_iload C dX4_trade_177 Lk12 ?_
                    refine aw_iload C dX4_trade_179 Lk11 ?_
                    refine aw_icmp_ge C dX4_trade_181 (tgt := 236) (by decide) (fun c_181 => absurd c_181 (nI_ge hpl (by omega))) (fun c_181 => ?_)
                    refine aw_aload C dX4_trade_184 Lk10 ?_
                    refine aw_iload C dX4_trade_186 Lk12 ?_
                    refine aw_il C (hRa k hkm) hpl dX4_trade_188 ?_
                    rw [hlen.2.2 p hpl, hxe]
                    refine aw_istore C dX4_trade_189 St13 rfl ?_
                    refine aw_aload_n C dX4_trade_191 Lk0 ?_
                    refine aw_g_has C O dX4_trade_192 (by decide +kernel) (by decide +kernel) ?_
                    refine aw_iload C dX4_trade_195 Lk13 ?_
                    refine aw_find C dX4_trade_197 gX4_trade_X4_find A1 (aChk_mk rfl (by show 15 + r + 1 + 0 ≤ 30; omega) (by show 160 + 10 * r + m + 0 ≤ 300; omega)) ?_
                    rw [hfind]
                    refine aw_istore C dX4_trade_200 St14 rfl ?_
                    refine aw_aload C dX4_trade_202 Lk5 ?_
                    refine aw_iload C dX4_trade_204 Lk14 ?_
                    refine aw_zl C Dn ho.1 dX4_trade_206 ?_
                    rw [hdn _ ho.1, hto]
                    refine aw_if_ne C dX4_trade_207 (tgt := 230) (by decide) (fun c_207 => absurd c_207 (by decide)) (fun c_207 => ?_)
                    refine aw_aload C dX4_trade_210 Lk8 ?_
                    refine aw_iload C dX4_trade_212 Lk9 ?_
                    refine aw_il C To hkm dX4_trade_214 ?_
                    rw [htk]
                    refine aw_iload C dX4_trade_215 Lk9 ?_
                    refine aw_icmp_eq C dX4_trade_217 (tgt := 223) (by decide) (fun c_217 => absurd c_217 (fun z => hfp (nI_inj (by omega) (by omega) z))) (fun c_217 => ?_)
                    refine aw_goto C dX4_trade_220 (tgt := 230) (by decide) ?_
                    refine aw_iinc C dX4_trade_230 Lk12 (nI_1 _) St12 rfl ?_
                    refine aw_goto C dX4_trade_233 (tgt := 177) (by decide) ?_
                    exact aW_wk (ih3 (p + 1) (by omega) vv tof O A1 R1 hRa hAa hVv Gt Ro Ri Ai hAi Dn To (by rw [htk, fP_y (by omega) hfp]) htof) (Wk.k (Wk.k (Wk.k (Wk.k (Wk.k (Wk.k (Wk.k (Wk.k (Wk.k (Wk.k (Wk.k (Wk.k (Wk.k (Wk.d (Wk.d Wk.n)))))))))))))))
            refine aw_iload C dX4_trade_125 Lk9 ?_
            refine aw_iload C dX4_trade_127 Lk4 ?_
            refine aw_icmp_ge C dX4_trade_129 (tgt := 257) (by decide) (fun c_129 => absurd c_129 (nI_ge hkm (by omega))) (fun c_129 => ?_)
            refine aw_aload C dX4_trade_132 Lk5 ?_
            refine aw_iload C dX4_trade_134 Lk9 ?_
            refine aw_zl C Dn hkm dX4_trade_136 ?_
            rw [hdn k hkm, hth]
            refine aw_if_eq C dX4_trade_137 (tgt := 143) (by decide) (fun c_137 => ?_) (fun c_137 => absurd (by decide) c_137)
            refine aw_aload C dX4_trade_143 Lk8 ?_
            refine aw_iload C dX4_trade_145 Lk9 ?_
            refine aw_iload C dX4_trade_147 Lk9 ?_
            refine bw_is C To hkm dX4_trade_149 (fun y1 hy1 To => ?_)
            have O := O.sv hy1 (by omega)
            have A1 := A1.sv hy1 (by omega)
            have R1 := R1.sv hy1 (by omega)
            have hRa := fun (k : Nat) (hk : k < m) => (hRa k hk).sv hy1 (by omega)
            have hVv := fun (j : Nat) (h0 : 0 < j) (hj : j < 3 + m) => (hy1 j (by omega)).trans (hVv j h0 hj)
            have Gt := Gt.sv hy1 (by omega)
            have Ro := Ro.sv hy1 (by omega)
            have Ri := Ri.sv hy1 (by omega)
            have Ai := Ai.sv hy1 (by omega)
            have hAi := fun (k : Nat) (hk : k < m) => (hAi k hk).sv hy1 (by omega)
            have Dn := Dn.sv hy1 (by omega)
            refine aw_iload C dX4_trade_150 Lk9 ?_
            refine aw_iload_n C dX4_trade_152 Lk2 ?_
            refine aw_icmp_ne C dX4_trade_153 (tgt := 160) (by decide) (fun c_153 => ?_) (fun c_153 => absurd (nI_ne_m1 (by omega)) c_153)
            refine aw_aload_n C dX4_trade_160 Lk0 ?_
            refine aw_g_lists C O dX4_trade_161 (by decide +kernel) (by decide +kernel) ?_
            refine aw_iload C dX4_trade_164 Lk9 ?_
            refine aw_rl C R1 hkm (hg k hkm) dX4_trade_166 ?_
            refine aw_astore C dX4_trade_167 St10 rfl ?_
            refine aw_aload C dX4_trade_169 Lk10 ?_
            refine aw_al C (hRa k hkm) dX4_trade_171 ?_
            refine aw_istore C dX4_trade_172 St11 rfl ?_
            refine aw_iconst C dX4_trade_174 (x := nI 0) (by decide) ?_
            refine aw_istore C dX4_trade_175 St12 rfl ?_
            exact hD (L k).length 0 (by omega) y1 _ O A1 R1 hRa hAa hVv Gt Ro Ri Ai hAi Dn To (by rw [pk_us, fP_0]) (fun q hq h8 => by rw [pk_un (by omega)]; exact htof q hq h8)
      refine aw_astore C dX4_trade_120 St8 rfl ?_
      refine aw_iconst C dX4_trade_122 (x := nI 0) (by decide) ?_
      refine aw_istore C dX4_trade_123 St9 rfl ?_
      exact hC m 0 (by omega) v6 _ af O A1 R1 hRa hAa hVv Gt Ro Ri Ai hAi Dn To (fun q hq => absurd hq (by omega)) (fun q hq c hc => by rw [if_neg (show ¬ q < 0 by omega)]; exact haf q hq c hc)
  have hA : ∀ (j i : Nat), i + j = m → ∀ (vv : Nat → va_E) (af : Nat → Nat → Int32), (Ob (3 + m + 1 + 1 + 1 + 1 + m + 1) a5 vv 0 (a 0) [.ref (a 1), .ref (a 2), .ref (a1 (3 + m)), .ref (a2 (3 + m + 1)), .ref (a3 (3 + m + 1 + 1)), .ref (a4 (3 + m + 1 + 1 + 1))]) → (Ar cI (3 + m + 1 + 1 + 1 + 1 + m + 1) a5 vv 1 (a 1) m f) → (Rr cJ (3 + m + 1 + 1 + 1 + 1 + m + 1) a5 vv 2 (a 2) m g) → (∀ k, k < m → Ar cI (3 + m + 1 + 1 + 1 + 1 + m + 1) a5 vv (3 + k) (a (3 + k)) (L k).length (rf k)) → (∀ j, j < 3 + m → a5 j = a j) → (∀ j, 0 < j → j < 3 + m → vv j = v j) → (Ar cI (3 + m + 1 + 1 + 1 + 1 + m + 1) a5 vv (3 + m) (a1 (3 + m)) m (fun _ => 0)) → (Ar cI (3 + m + 1 + 1 + 1 + 1 + m + 1) a5 vv (3 + m + 1) (a2 (3 + m + 1)) m (fun _ => 0)) → (Ar cI (3 + m + 1 + 1 + 1 + 1 + m + 1) a5 vv (3 + m + 1 + 1) (a3 (3 + m + 1 + 1)) m (fun _ => 0)) → (Rr cJ (3 + m + 1 + 1 + 1 + 1 + m + 1) a5 vv (3 + m + 1 + 1 + 1) (a4 (3 + m + 1 + 1 + 1)) m (fun i => if i < m then some (a4 (3 + m + 1 + 1 + 1 + 1 + i)) else none)) → (∀ k, k < m → Ar cI (3 + m + 1 + 1 + 1 + 1 + m + 1) a5 vv (3 + m + 1 + 1 + 1 + 1 + k) (a4 (3 + m + 1 + 1 + 1 + 1 + k)) m (af k)) → (Ar cZ (3 + m + 1 + 1 + 1 + 1 + m + 1) a5 vv (3 + m + 1 + 1 + 1 + 1 + m) (a5 (3 + m + 1 + 1 + 1 + 1 + m)) m (fun _ => 0)) → (∀ q, q < i → ∀ c, c < m → af q c = -1) → aW pM l eM rmX4_trade sM mM argsM belowM methM cM (MQ belowM (gQ D (3 + m) a szM (TradeP cI cJ a v m h L)) argsM sM 30 300 AM) D AM (15) (160) (3 + m + 1 + 1 + 1 + 1 + m + 1) a5 vv 68 [some (.ref (a 0)), some (.int (-1)), some (.int (-1)), some (.null), some (.int (nI m)), some (.ref (a5 (3 + m + 1 + 1 + 1 + 1 + m))), some (.int (nI m)), some (.int (nI i)), none, none, none, none, none, none, none] [] := by
    intro j
    induction j with
    | zero =>
      intro i hi vv af O A1 R1 hRa hAa hVv Gt Ro Ri Ai hAi Dn haf
      refine aw_iload C dX4_trade_68 Lk7 ?_
      refine aw_iload C dX4_trade_70 Lk4 ?_
      refine aw_icmp_ge C dX4_trade_72 (tgt := 108) (by decide) (fun c_72 => ?_) (fun c_72 => absurd (nI_le (by omega) (by omega)) c_72)
      refine aw_iconst C dX4_trade_108 (x := nI 0) (by decide) ?_
      refine aw_istore C dX4_trade_109 St7 rfl ?_
      have hall : ∀ k, k < m → (thR (TL h m L) (t0A m) 0 k) = true := fun k hk => t0A_t hk
      have h9 := hM (rn (TL h m L) (t0A m) m) 0 (by omega) a5 vv _ _ _ _ af O A1 R1 hRa hAa hVv Gt Ro Ri Ai hAi Dn (fun k hk => rfl) (fun k hk => rfl) (fun k hk => rfl) (fun k hk => by rw [hall k hk]; rfl) (fun k hk c hc => by rw [haf k (by omega) c hc]; simp [amv])
      rw [fb_ct_all.mpr hall] at h9
      exact h9
    | succ j ih =>
      intro i hi vv af O A1 R1 hRa hAa hVv Gt Ro Ri Ai hAi Dn haf
      have him : i < m := by omega
      have hB : ∀ (j2 c : Nat), c + j2 = m → ∀ (vv : Nat → va_E) (af : Nat → Nat → Int32), (Ob (3 + m + 1 + 1 + 1 + 1 + m + 1) a5 vv 0 (a 0) [.ref (a 1), .ref (a 2), .ref (a1 (3 + m)), .ref (a2 (3 + m + 1)), .ref (a3 (3 + m + 1 + 1)), .ref (a4 (3 + m + 1 + 1 + 1))]) → (Ar cI (3 + m + 1 + 1 + 1 + 1 + m + 1) a5 vv 1 (a 1) m f) → (Rr cJ (3 + m + 1 + 1 + 1 + 1 + m + 1) a5 vv 2 (a 2) m g) → (∀ k, k < m → Ar cI (3 + m + 1 + 1 + 1 + 1 + m + 1) a5 vv (3 + k) (a (3 + k)) (L k).length (rf k)) → (∀ j, j < 3 + m → a5 j = a j) → (∀ j, 0 < j → j < 3 + m → vv j = v j) → (Ar cI (3 + m + 1 + 1 + 1 + 1 + m + 1) a5 vv (3 + m) (a1 (3 + m)) m (fun _ => 0)) → (Ar cI (3 + m + 1 + 1 + 1 + 1 + m + 1) a5 vv (3 + m + 1) (a2 (3 + m + 1)) m (fun _ => 0)) → (Ar cI (3 + m + 1 + 1 + 1 + 1 + m + 1) a5 vv (3 + m + 1 + 1) (a3 (3 + m + 1 + 1)) m (fun _ => 0)) → (Rr cJ (3 + m + 1 + 1 + 1 + 1 + m + 1) a5 vv (3 + m + 1 + 1 + 1) (a4 (3 + m + 1 + 1 + 1)) m (fun i => if i < m then some (a4 (3 + m + 1 + 1 + 1 + 1 + i)) else none)) → (∀ k, k < m → Ar cI (3 + m + 1 + 1 + 1 + 1 + m + 1) a5 vv (3 + m + 1 + 1 + 1 + 1 + k) (a4 (3 + m + 1 + 1 + 1 + 1 + k)) m (af k)) → (Ar cZ (3 + m + 1 + 1 + 1 + 1 + m + 1) a5 vv (3 + m + 1 + 1 + 1 + 1 + m) (a5 (3 + m + 1 + 1 + 1 + 1 + m)) m (fun _ => 0)) → (∀ q, q < i → ∀ c, c < m → af q c = -1) → (∀ d, d < c → af i d = -1) → aW pM l eM rmX4_trade sM mM argsM belowM methM cM (MQ belowM (gQ D (3 + m) a szM (TradeP cI cJ a v m h L)) argsM sM 30 300 AM) D AM (15) (160) (3 + m + 1 + 1 + 1 + 1 + m + 1) a5 vv 78 [some (.ref (a 0)), some (.int (-1)), some (.int (-1)), some (.null), some (.int (nI m)), some (.ref (a5 (3 + m + 1 + 1 + 1 + 1 + m))), some (.int (nI m)), some (.int (nI i)), some (.int (nI c)), none, none, none, none, none, none] [] := by
        intro j2
        induction j2 with
        | zero =>
          intro c hc2 vv af O A1 R1 hRa hAa hVv Gt Ro Ri Ai hAi Dn haf hai
          refine aw_iload C dX4_trade_78 Lk8 ?_
          refine aw_iload C dX4_trade_80 Lk4 ?_
          refine aw_icmp_ge C dX4_trade_82 (tgt := 102) (by decide) (fun c_82 => ?_) (fun c_82 => absurd (nI_le (by omega) (by omega)) c_82)
          refine aw_iinc C dX4_trade_102 Lk7 (nI_1 _) St7 rfl ?_
          refine aw_goto C dX4_trade_105 (tgt := 68) (by decide) ?_
          exact aW_wk (ih (i + 1) (by omega) vv af O A1 R1 hRa hAa hVv Gt Ro Ri Ai hAi Dn (fun q hq d hd => by
            by_cases e : q = i
            · subst e; exact hai d (by omega)
            · exact haf q (by omega) d hd)) (Wk.k (Wk.k (Wk.k (Wk.k (Wk.k (Wk.k (Wk.k (Wk.k (Wk.d (Wk.d (Wk.d (Wk.d (Wk.d (Wk.d (Wk.d Wk.n)))))))))))))))
        | succ j2 ih2 =>
          intro c hc2 vv af O A1 R1 hRa hAa hVv Gt Ro Ri Ai hAi Dn haf hai
          refine aw_iload C dX4_trade_78 Lk8 ?_
          refine aw_iload C dX4_trade_80 Lk4 ?_
          refine aw_icmp_ge C dX4_trade_82 (tgt := 102) (by decide) (fun c_82 => absurd c_82 (nI_ge (by omega) (by omega))) (fun c_82 => ?_)
          refine aw_aload_n C dX4_trade_85 Lk0 ?_
          refine aw_g_aims C O dX4_trade_86 (by decide +kernel) (by decide +kernel) ?_
          refine aw_iload C dX4_trade_89 Lk7 ?_
          refine aw_rl C Ai him (if_pos him) dX4_trade_91 ?_
          refine aw_iload C dX4_trade_92 Lk8 ?_
          refine aw_iconst C dX4_trade_94 (x := -1) (by decide) ?_
          refine bw_is C (hAi i him) (show c < m by omega) dX4_trade_95 (fun y1 hy1 H1 => ?_)
          have hAi := fam_st hAi hy1 H1
          have O := O.sv hy1 (by omega)
          have A1 := A1.sv hy1 (by omega)
          have R1 := R1.sv hy1 (by omega)
          have hRa := fun (k : Nat) (hk : k < m) => (hRa k hk).sv hy1 (by omega)
          have hVv := fun (j : Nat) (h0 : 0 < j) (hj : j < 3 + m) => (hy1 j (by omega)).trans (hVv j h0 hj)
          have Gt := Gt.sv hy1 (by omega)
          have Ro := Ro.sv hy1 (by omega)
          have Ri := Ri.sv hy1 (by omega)
          have Ai := Ai.sv hy1 (by omega)
          have Dn := Dn.sv hy1 (by omega)
          refine aw_iinc C dX4_trade_96 Lk8 (nI_1 _) St8 rfl ?_
          refine aw_goto C dX4_trade_99 (tgt := 78) (by decide) ?_
          exact ih2 (c + 1) (by omega) y1 _ O A1 R1 hRa hAa hVv Gt Ro Ri Ai hAi Dn (fun q hq d hd => by rw [famS_n (by omega)]; exact haf q hq d hd) (fun d hd => by
            rw [famS_e]
            by_cases e : d = c
            · subst e; rw [pk_us]
            · rw [pk_un e]; exact hai d (by omega))
      refine aw_iload C dX4_trade_68 Lk7 ?_
      refine aw_iload C dX4_trade_70 Lk4 ?_
      refine aw_icmp_ge C dX4_trade_72 (tgt := 108) (by decide) (fun c_72 => absurd c_72 (nI_ge him (by omega))) (fun c_72 => ?_)
      refine aw_iconst C dX4_trade_75 (x := nI 0) (by decide) ?_
      refine aw_istore C dX4_trade_76 St8 rfl ?_
      exact hB m 0 (by omega) vv af O A1 R1 hRa hAa hVv Gt Ro Ri Ai hAi Dn haf (fun d hd => absurd hd (by omega))
  exact hA m 0 (by omega) v5 _ O A1 R1 hRa hAa hVv Gt Ro Ri Ai hAi Dn (fun q hq => absurd hq (by omega))
end SITR
