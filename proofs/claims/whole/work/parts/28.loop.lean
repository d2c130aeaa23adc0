/-! the law's loop -/
section LOOP
variable {p : Program} {l : Launch} {e : Env} {s : State} {m : MethodId} {args : Array Value} {below : List Frame} {meth : Method} {c : Code} {Q : State → Prop} {D : va_G} {A : Nat → Prop} {a : Nat → Nat} {b L : Nat} {xs : Nat → Int32} {cI cZ cR cJ : ClassId}
theorem lp_gt {L t : Nat} (hL : L ≤ 2048) (h : t = L / 4) : nI L - nI 4 < nI (4 * t) := by
  by_cases c : 4 ≤ L
  · rw [pk_sub c]
    exact nI_lt (by omega) (by omega)
  · exact Int32.lt_of_lt_of_le (pk_sneg (by decide) (by omega)) (nI_pos' (by omega))
theorem lp_ngt {L t : Nat} (hL : L ≤ 2048) (h : t < L / 4) : ¬ nI L - nI 4 < nI (4 * t) := by
  rw [pk_sub (by omega)]
  exact nI_nlt (by omega) (by omega)
set_option maxHeartbeats 4000000 in
set_option maxRecDepth 100000 in
theorem law_loop (C : aC p s m args meth c D (cTys cI cZ cR cJ) A cL_law 9 wsL_law RL (some .boolean)) (hU : aU A s) (S : aS s A b L xs) (hl9 : l.stackTraces = false)
    (hend : ∀ (cells slots : Nat) (v : Nat → va_E) (lv : List (Option Value)), cells ≤ 664100 → slots ≤ 7103804 → aW p l e room_1 s m args below meth c Q D A cells slots 59 a v 913 lv []) :
    ∀ (j t : Nat), t + j = L / 4 → ∀ (σ : CS) (τ : MS) (o : Nat → Int64) (n : Nat) (h : Nat → Nat) (F : Nat → List Nat), HInv σ n h F → MInv τ n h F → aW p l e room_1 s m args below meth c Q D A (59 + t) (485 + 6 * t) 59 a (lw cI cZ cR cJ a σ τ o) 23 (lvB b a t) [] := by
  have hL := S.2.2.2
  intro j
  induction j with
  | zero =>
    intro t hj σ τ o n h F H M
    refine aw_iload C dL_law_23 Lk4 ?_
    refine aw_aload_n C dL_law_25 Lk0 ?_
    refine aw_slen C S dL_law_26 ?_
    refine aw_iconst C dL_law_27 (x := nI 4) (by decide) ?_
    refine aw_isub C dL_law_28 ?_
    exact aw_icmp_gt C dL_law_29 (tgt := 913) (by decide) (fun c9 => hend _ _ _ _ (by omega) (by omega)) (fun c9 => absurd (lp_gt hL (by omega)) c9)
  | succ j ih =>
    intro t hj σ τ o n h F H M
    have ht : t < L / 4 := by omega
    have ht4 : 4 * t + 4 ≤ L := by omega
    have hc : 59 + t + 1 ≤ room_1.cells := by show 59 + t + 1 ≤ 664100; omega
    have hs : 485 + 6 * t + 6 ≤ room_1.slots := by show 485 + 6 * t + 6 ≤ 7103804; omega
    have NX : ∀ (σ' : CS) (τ' : MS) (o' : Nat → Int64) (n' : Nat) (h' : Nat → Nat) (F' : Nat → List Nat), HInv σ' n' h' F' → MInv τ' n' h' F' → aW p l e room_1 s m args below meth c Q D A (59 + t + 1) (485 + 6 * t + 6) 59 a (lw cI cZ cR cJ a σ' τ' o') 907 (lvB b a t) [] := by
      intro σ' τ' o' n' h' F' H' M'
      refine aw_iinc C dL_law_907 Lk4 (y := nI (4 * (t + 1))) (nI_add (4 * t) 4) St4 rfl ?_
      refine aw_goto C dL_law_910 (tgt := 23) (by decide) ?_
      exact ih (t + 1) (by omega) σ' τ' o' n' h' F' H' M'
    refine aw_iload C dL_law_23 Lk4 ?_
    refine aw_aload_n C dL_law_25 Lk0 ?_
    refine aw_slen C S dL_law_26 ?_
    refine aw_iconst C dL_law_27 (x := nI 4) (by decide) ?_
    refine aw_isub C dL_law_28 ?_
    refine aw_icmp_gt C dL_law_29 (tgt := 913) (by decide) (fun c9 => absurd c9 (lp_ngt hL ht)) (fun c9 => ?_)
    refine aw_aload_n C dL_law_32 Lk0 ?_
    refine aw_iload C dL_law_33 Lk4 ?_
    refine aw_sld C S dL_law_35 (by omega) ?_
    refine aw_bipush C dL_law_36 (x := nI 15) (by decide) ?_
    refine aw_iand C dL_law_38 ?_
    obtain ⟨w, hw, ew⟩ := pk_andE (xs (4 * t)) (m := nI 15) 4 (by decide)
    rw [ew]
    rcases (show w = 0 ∨ w = 1 ∨ w = 2 ∨ w = 3 ∨ w = 4 ∨ w = 5 ∨ w = 6 ∨ w = 7 ∨ w = 8 ∨ w = 9 ∨ w = 10 ∨ w = 11 ∨ w = 12 ∨ w = 13 ∨ w = 14 ∨ w = 15 by omega) with rfl | rfl | rfl | rfl | rfl | rfl | rfl | rfl | rfl | rfl | rfl | rfl | rfl | rfl | rfl | rfl
    · refine aw_tableIn C dL_law_39 (tgt := 108) (by decide) (by decide) (off := 69) (by decide) (by decide) ?_
      exact stp_come C hU S ht4 hc hs hl9 H M NX
    · refine aw_tableIn C dL_law_39 (tgt := 152) (by decide) (by decide) (off := 113) (by decide) (by decide) ?_
      exact stp_wish C hU S ht4 hc hs hl9 H M NX
    · refine aw_tableIn C dL_law_39 (tgt := 232) (by decide) (by decide) (off := 193) (by decide) (by decide) ?_
      exact stp_drop C hU S ht4 hc hs hl9 H M NX
    · refine aw_tableIn C dL_law_39 (tgt := 300) (by decide) (by decide) (off := 261) (by decide) (by decide) ?_
      exact stp_list C hU S ht4 hc hs hl9 H M NX
    · refine aw_tableIn C dL_law_39 (tgt := 368) (by decide) (by decide) (off := 329) (by decide) (by decide) ?_
      exact stp_told C hU S ht4 hc hs hl9 H M NX
    · refine aw_tableIn C dL_law_39 (tgt := 436) (by decide) (by decide) (off := 397) (by decide) (by decide) ?_
      exact stp_points C hU S ht4 hc hs hl9 H M NX
    · refine aw_tableIn C dL_law_39 (tgt := 504) (by decide) (by decide) (off := 465) (by decide) (by decide) ?_
      exact stp_rank C hU S ht4 hc hs hl9 H M NX
    · refine aw_tableIn C dL_law_39 (tgt := 572) (by decide) (by decide) (off := 533) (by decide) (by decide) ?_
      exact stp_count C hU S ht4 hc hs hl9 H M NX
    · refine aw_tableIn C dL_law_39 (tgt := 628) (by decide) (by decide) (off := 589) (by decide) (by decide) ?_
      exact stp_swaps C hU S ht4 hc hs hl9 H M NX
    · refine aw_tableIn C dL_law_39 (tgt := 703) (by decide) (by decide) (off := 664) (by decide) (by decide) ?_
      exact stp_without C hU S ht4 hc hs hl9 H M NX
    · refine aw_tableIn C dL_law_39 (tgt := 771) (by decide) (by decide) (off := 732) (by decide) (by decide) ?_
      exact stp_feign C hU S ht4 hc hs hl9 H M NX
    · refine aw_tableIn C dL_law_39 (tgt := 839) (by decide) (by decide) (off := 800) (by decide) (by decide) ?_
      exact stp_move C hU S ht4 hc hs hl9 H M NX
    · refine aw_tableIn C dL_law_39 (tgt := 852) (by decide) (by decide) (off := 813) (by decide) (by decide) ?_
      exact stp_mean C hU S ht4 hc hs hl9 H M NX
    · refine aw_tableIn C dL_law_39 (tgt := 893) (by decide) (by decide) (off := 854) (by decide) (by decide) ?_
      exact stp_digest C hU S ht4 hc hs hl9 H M NX
    · refine aw_tableOut C dL_law_39 (tgt := 907) (Or.inr (by decide)) (by decide) ?_
      exact aw_widen (by omega) (by omega) (NX σ τ o n h F H M)
    · refine aw_tableOut C dL_law_39 (tgt := 907) (Or.inr (by decide)) (by decide) ?_
      exact aw_widen (by omega) (by omega) (NX σ τ o n h F H M)
end LOOP
