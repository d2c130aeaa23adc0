/-! the law: what a call does to both, and that they answer alike -/
section STEPS
variable {p : Program} {l : Launch} {e : Env} {s : State} {m : MethodId} {args : Array Value} {below : List Frame} {meth : Method} {c : Code} {Q : State → Prop} {D : va_G} {A : Nat → Prop} {cells slots : Nat} {a : Nat → Nat} {b L : Nat} {xs : Nat → Int32} {cI cZ cR cJ : ClassId} {σ : CS} {τ : MS} {o : Nat → Int64} {t n : Nat} {h : Nat → Nat} {F : Nat → List Nat}
theorem pk_two (x : Int32) {n : Nat} (hn : n < 2 ^ 31) : (x < 0 ∨ nI n ≤ x) ∨ ∃ j : Nat, j < n ∧ x = nI j := by
  rcases pk_ix x hn with q | q | q
  · exact Or.inl (Or.inl q)
  · exact Or.inl (Or.inr q)
  · exact Or.inr q
theorem pk_w (x : Int32) : (x.toInt < 0 ∨ 5 < x.toInt) ∨ ∃ j : Nat, j < 6 ∧ x = nI j := by
  rcases pk_ix x (n := 6) (by decide) with q | q | q
  · exact Or.inl (Or.inl (Int32.lt_iff_toInt_lt.mp q))
  · refine Or.inl (Or.inr ?_)
    have h1 := Int32.le_iff_toInt_le.mp q
    rw [nI_toInt (by decide)] at h1
    omega
  · exact Or.inr q
theorem pk_lt1 {x : Int32} {n : Nat} (hn : n + 1 < 2 ^ 31) (q : nI (n + 1) ≤ x) : nI n < x := Int32.lt_of_lt_of_le (nI_lt (Nat.lt_succ_self n) hn) q
theorem stp_come (C : aC p s m args meth c D (cTys cI cZ cR cJ) A cL_law 9 wsL_law RL (some .boolean)) (hU : aU A s) (S : aS s A b L xs) (ht : 4 * t + 4 ≤ L) (hc : cells + 1 ≤ room_1.cells) (hs : slots + 6 ≤ room_1.slots) (hl9 : l.stackTraces = false) (H : HInv σ n h F) (M : MInv τ n h F) (next : ∀ (σ' : CS) (τ' : MS) (o' : Nat → Int64) (n' : Nat) (h' : Nat → Nat) (F' : Nat → List Nat), HInv σ' n' h' F' → MInv τ' n' h' F' → aW p l e room_1 s m args below meth c Q D A (cells + 1) (slots + 6) 59 a (lw cI cZ cR cJ a σ' τ' o') 907 (lvB b a t) []) : aW p l e room_1 s m args below meth c Q D A cells slots 59 a (lw cI cZ cR cJ a σ τ o) 108 (lvB b a t) [] := by
  have hn := H.1.1
  by_cases hn9 : n < 10
  · exact lop_come C hU S ht hc hs  (c_L_come (c_X3_come H hn9)) (c_X4_come M hn9) rfl (by decide) (fun _ => pk_uLs) (next _ _ _ _ _ _ (HInv.of (H.1.come hn9) (H.2.1.come hn9)) (M.thr.come hn9))
  · exact lop_come C hU S ht hc hs  (t_L_come_1 (t_X3_come hl9 H hn9)) (f_X4_come M hn9) rfl (by decide) (fun q9 => absurd q9 (by decide)) (next _ _ _ _ _ _ H M.thr.thr)
theorem stp_wish (C : aC p s m args meth c D (cTys cI cZ cR cJ) A cL_law 9 wsL_law RL (some .boolean)) (hU : aU A s) (S : aS s A b L xs) (ht : 4 * t + 4 ≤ L) (hc : cells + 1 ≤ room_1.cells) (hs : slots + 6 ≤ room_1.slots) (hl9 : l.stackTraces = false) (H : HInv σ n h F) (M : MInv τ n h F) (next : ∀ (σ' : CS) (τ' : MS) (o' : Nat → Int64) (n' : Nat) (h' : Nat → Nat) (F' : Nat → List Nat), HInv σ' n' h' F' → MInv τ' n' h' F' → aW p l e room_1 s m args below meth c Q D A (cells + 1) (slots + 6) 59 a (lw cI cZ cR cJ a σ' τ' o') 907 (lvB b a t) []) : aW p l e room_1 s m args below meth c Q D A cells slots 59 a (lw cI cZ cR cJ a σ τ o) 152 (lvB b a t) [] := by
  have hn := H.1.1
  rcases pk_two (xs (4 * t + 1)) (n := n) (by omega) with hx | ⟨k, hk, e1⟩
  · exact lop_wish C hU S ht hc hs rfl rfl rfl (t_L_wish_1 (t_X3_wish_k hl9 H hx)) (f_X4_wish_k M hx) rfl (by decide) (fun q9 => absurd q9 (by decide)) (next _ _ _ _ _ _ H M.thr.thr)
  · skip
    have hlen := H.1.len hk
    rcases pk_two (xs (4 * t + 3)) (n := n) (by omega) with hz | ⟨x, hx, e3⟩
    · exact lop_wish C hU S ht hc hs e1 rfl rfl (t_L_wish_1 (t_X3_wish_x hl9 H hk hz)) (f_X4_wish_x M hk hz) rfl (by decide) (fun q9 => absurd q9 (by decide)) (next _ _ _ _ _ _ H M.thr.thr)
    · skip
      rcases pk_two (xs (4 * t + 2)) (n := (F k).length + 1) (by omega) with hy | ⟨i, hi, e2⟩
      · have hy2 : xs (4 * t + 2) < 0 ∨ nI (F k).length < xs (4 * t + 2) := hy.imp id (pk_lt1 (by omega))
        exact lop_wish C hU S ht hc hs e1 rfl e3 (t_L_wish_1 (t_X3_wish_i hl9 H hk hx hy2)) (f_X4_wish_i M hk hx hy2) rfl (by decide) (fun q9 => absurd q9 (by decide)) (next _ _ _ _ _ _ H M.thr.thr)
      · by_cases hN : newB h F k x
        · exact lop_wish C hU S ht hc hs e1 e2 e3 (c_L_wish (c_X3_wish H hk hx (by omega) hN)) (c_X4_wish M hk hx (by omega) hN) rfl (by decide) (fun _ => pk_uLs) (next _ _ _ _ _ _ (HInv.of (H.1.wish hk hx (by omega) hN) (H.2.1.wish hk hn (by omega))) (M.thr.wish hk hx (by omega) hN))
        · exact lop_wish C hU S ht hc hs e1 e2 e3 (t_L_wish_2 (t_X3_wish_d hl9 H hk hx (by omega) hN)) (f_X4_wish_d M hk hx (by omega) hN) rfl (by decide) (fun q9 => absurd q9 (by decide)) (next _ _ _ _ _ _ H M.thr.thr)
theorem stp_drop (C : aC p s m args meth c D (cTys cI cZ cR cJ) A cL_law 9 wsL_law RL (some .boolean)) (hU : aU A s) (S : aS s A b L xs) (ht : 4 * t + 4 ≤ L) (hc : cells + 1 ≤ room_1.cells) (hs : slots + 6 ≤ room_1.slots) (hl9 : l.stackTraces = false) (H : HInv σ n h F) (M : MInv τ n h F) (next : ∀ (σ' : CS) (τ' : MS) (o' : Nat → Int64) (n' : Nat) (h' : Nat → Nat) (F' : Nat → List Nat), HInv σ' n' h' F' → MInv τ' n' h' F' → aW p l e room_1 s m args below meth c Q D A (cells + 1) (slots + 6) 59 a (lw cI cZ cR cJ a σ' τ' o') 907 (lvB b a t) []) : aW p l e room_1 s m args below meth c Q D A cells slots 59 a (lw cI cZ cR cJ a σ τ o) 232 (lvB b a t) [] := by
  have hn := H.1.1
  rcases pk_two (xs (4 * t + 1)) (n := n) (by omega) with hx | ⟨k, hk, e1⟩
  · exact lop_drop C hU S ht hc hs rfl rfl (t_L_drop_1 (t_X3_drop_k hl9 H hx)) (f_X4_drop_k M hx) rfl (by decide) (fun q9 => absurd q9 (by decide)) (next _ _ _ _ _ _ H M.thr.thr)
  · skip
    have hlen := H.1.len hk
    rcases pk_two (xs (4 * t + 2)) (n := (F k).length) (by omega) with hy | ⟨i, hi, e2⟩
    · exact lop_drop C hU S ht hc hs e1 rfl (t_L_drop_1 (t_X3_drop_i hl9 H hk hy)) (f_X4_drop_i M hk hy) rfl (by decide) (fun q9 => absurd q9 (by decide)) (next _ _ _ _ _ _ H M.thr.thr)
    · have hv := (H.2.1.2.2.2 k hk).2 i hi
      have hK := c_X3_drop (l := l) (D := D) (cI := cI) (cZ := cZ) (cR := cR) (cJ := cJ) (a := a) H hk hi
      rw [hv] at hK
      exact lop_drop C hU S ht hc hs e1 e2 (c_L_drop hK) (c_X4_drop M hk hi) rfl (by decide) (fun _ => pk_uLs) (next _ _ _ _ _ _ (HInv.of (H.1.drop hk hi) (H.2.1.drop hk hn hi)) (M.thr.drop hk hi))
theorem stp_list (C : aC p s m args meth c D (cTys cI cZ cR cJ) A cL_law 9 wsL_law RL (some .boolean)) (hU : aU A s) (S : aS s A b L xs) (ht : 4 * t + 4 ≤ L) (hc : cells + 1 ≤ room_1.cells) (hs : slots + 6 ≤ room_1.slots) (hl9 : l.stackTraces = false) (H : HInv σ n h F) (M : MInv τ n h F) (next : ∀ (σ' : CS) (τ' : MS) (o' : Nat → Int64) (n' : Nat) (h' : Nat → Nat) (F' : Nat → List Nat), HInv σ' n' h' F' → MInv τ' n' h' F' → aW p l e room_1 s m args below meth c Q D A (cells + 1) (slots + 6) 59 a (lw cI cZ cR cJ a σ' τ' o') 907 (lvB b a t) []) : aW p l e room_1 s m args below meth c Q D A cells slots 59 a (lw cI cZ cR cJ a σ τ o) 300 (lvB b a t) [] := by
  have hn := H.1.1
  rcases pk_two (xs (4 * t + 1)) (n := n) (by omega) with hx | ⟨k, hk, e1⟩
  · exact lop_list C hU S ht hc hs rfl rfl (t_L_list_1 (t_X3_list_k hl9 H hx)) (f_X4_list_k M hx) rfl (by decide) (fun q9 => absurd q9 (by decide)) (next _ _ _ _ _ _ H M.thr.thr)
  · skip
    have hlen := H.1.len hk
    rcases pk_two (xs (4 * t + 2)) (n := (F k).length) (by omega) with hy | ⟨i, hi, e2⟩
    · exact lop_list C hU S ht hc hs e1 rfl (t_L_list_1 (t_X3_list_i hl9 H hk hy)) (f_X4_list_i M hk hy) rfl (by decide) (fun q9 => absurd q9 (by decide)) (next _ _ _ _ _ _ H M.thr.thr)
    · have hv := (H.2.1.2.2.2 k hk).2 i hi
      have hK := c_X3_list (l := l) (D := D) (cI := cI) (cZ := cZ) (cR := cR) (cJ := cJ) (a := a) H hk hi
      rw [hv] at hK
      exact lop_list C hU S ht hc hs e1 e2 (c_L_list hK) (c_X4_list M hk hi) rfl (by decide) (fun _ => pk_uLs) (next _ _ _ _ _ _ H M.thr)
theorem stp_told (C : aC p s m args meth c D (cTys cI cZ cR cJ) A cL_law 9 wsL_law RL (some .boolean)) (hU : aU A s) (S : aS s A b L xs) (ht : 4 * t + 4 ≤ L) (hc : cells + 1 ≤ room_1.cells) (hs : slots + 6 ≤ room_1.slots) (hl9 : l.stackTraces = false) (H : HInv σ n h F) (M : MInv τ n h F) (next : ∀ (σ' : CS) (τ' : MS) (o' : Nat → Int64) (n' : Nat) (h' : Nat → Nat) (F' : Nat → List Nat), HInv σ' n' h' F' → MInv τ' n' h' F' → aW p l e room_1 s m args below meth c Q D A (cells + 1) (slots + 6) 59 a (lw cI cZ cR cJ a σ' τ' o') 907 (lvB b a t) []) : aW p l e room_1 s m args below meth c Q D A cells slots 59 a (lw cI cZ cR cJ a σ τ o) 368 (lvB b a t) [] := by
  have hn := H.1.1
  rcases pk_two (xs (4 * t + 1)) (n := n) (by omega) with hx | ⟨k, hk, e1⟩
  · exact lop_told C hU S ht hc hs rfl rfl (t_L_told_1 (t_X3_told_k hl9 H hx)) (f_X4_told_k M hx) rfl (by decide) (fun q9 => absurd q9 (by decide)) (next _ _ _ _ _ _ H M.thr.thr)
  · skip
    rcases pk_w (xs (4 * t + 2)) with hy | ⟨w, hw, e2⟩
    · exact lop_told C hU S ht hc hs e1 rfl (t_L_told_1 (t_X3_told_w hl9 H hk hy)) (f_X4_told_w M hk hy) rfl (by decide) (fun q9 => absurd q9 (by decide)) (next _ _ _ _ _ _ H M.thr.thr)
    · have hK := c_X3_told (l := l) (D := D) (cI := cI) (cZ := cZ) (cR := cR) (cJ := cJ) (a := a) H hk hw
      rw [toldF_P H hk] at hK
      exact lop_told C hU S ht hc hs e1 e2 (c_L_told hK) (c_X4_told M hk hw) rfl (by decide) (fun _ => pk_uLs) (next _ _ _ _ _ _ H M.thr.sl)
theorem stp_points (C : aC p s m args meth c D (cTys cI cZ cR cJ) A cL_law 9 wsL_law RL (some .boolean)) (hU : aU A s) (S : aS s A b L xs) (ht : 4 * t + 4 ≤ L) (hc : cells + 1 ≤ room_1.cells) (hs : slots + 6 ≤ room_1.slots) (hl9 : l.stackTraces = false) (H : HInv σ n h F) (M : MInv τ n h F) (next : ∀ (σ' : CS) (τ' : MS) (o' : Nat → Int64) (n' : Nat) (h' : Nat → Nat) (F' : Nat → List Nat), HInv σ' n' h' F' → MInv τ' n' h' F' → aW p l e room_1 s m args below meth c Q D A (cells + 1) (slots + 6) 59 a (lw cI cZ cR cJ a σ' τ' o') 907 (lvB b a t) []) : aW p l e room_1 s m args below meth c Q D A cells slots 59 a (lw cI cZ cR cJ a σ τ o) 436 (lvB b a t) [] := by
  have hn := H.1.1
  rcases pk_two (xs (4 * t + 1)) (n := n) (by omega) with hx | ⟨k, hk, e1⟩
  · exact lop_points C hU S ht hc hs rfl rfl (t_L_points_1 (t_X3_points_k hl9 H hx)) (f_X4_points_k M hx) rfl (by decide) (fun q9 => absurd q9 (by decide)) (next _ _ _ _ _ _ H M.thr.thr)
  · skip
    by_cases hy : nI 1 ≤ xs (4 * t + 2)
    · obtain ⟨X, hX2, e2⟩ := nI_of (x := xs (4 * t + 2)) (fun z => absurd (Int32.lt_of_lt_of_le z (Int32.le_trans (by decide) hy)) Int32.lt_irrefl)
      have hX1 : 1 ≤ X := Nat.le_of_not_lt (fun z => absurd (e2 ▸ hy) (nI_ge z (by decide)))
      obtain ⟨r9, hr1, hr2⟩ := pt_rounds (T := TL h n F) (t0 := t0A n) (k := k) X (thR_10a H.1)
      have hK := c_X3_points (l := l) (D := D) (cI := cI) (cZ := cZ) (cR := cR) (cJ := cJ) (a := a) H hk (x := nI X) (e2 ▸ hy) (th := thR (TL h n F) (t0A n) (X - 1)) (fun q hq => dn_th H hX1 hX2 hq)
      exact lop_points C hU S ht hc hs e1 e2 (c_L_points hK) (c_X4_points M hk hX1 hX2 hr1 hr2) rfl (by decide) (fun _ => pk_uLs) (next _ _ _ _ _ _ H M.thr.st)
    · exact lop_points C hU S ht hc hs e1 rfl (t_L_points_2 (t_X3_points_r hl9 H hk hy)) (f_X4_points_r M hk hy) rfl (by decide) (fun q9 => absurd q9 (by decide)) (next _ _ _ _ _ _ H M.thr.thr)
theorem stp_rank (C : aC p s m args meth c D (cTys cI cZ cR cJ) A cL_law 9 wsL_law RL (some .boolean)) (hU : aU A s) (S : aS s A b L xs) (ht : 4 * t + 4 ≤ L) (hc : cells + 1 ≤ room_1.cells) (hs : slots + 6 ≤ room_1.slots) (hl9 : l.stackTraces = false) (H : HInv σ n h F) (M : MInv τ n h F) (next : ∀ (σ' : CS) (τ' : MS) (o' : Nat → Int64) (n' : Nat) (h' : Nat → Nat) (F' : Nat → List Nat), HInv σ' n' h' F' → MInv τ' n' h' F' → aW p l e room_1 s m args below meth c Q D A (cells + 1) (slots + 6) 59 a (lw cI cZ cR cJ a σ' τ' o') 907 (lvB b a t) []) : aW p l e room_1 s m args below meth c Q D A cells slots 59 a (lw cI cZ cR cJ a σ τ o) 504 (lvB b a t) [] := by
  have hn := H.1.1
  rcases pk_two (xs (4 * t + 1)) (n := n) (by omega) with hx | ⟨k, hk, e1⟩
  · exact lop_rank C hU S ht hc hs rfl rfl (t_L_rank_1 (t_X3_rank_k hl9 H hx)) (f_X4_rank_k M hx) rfl (by decide) (fun q9 => absurd q9 (by decide)) (next _ _ _ _ _ _ H M.thr.thr)
  · skip
    rcases pk_two (xs (4 * t + 2)) (n := n) (by omega) with hy | ⟨x, hx, e2⟩
    · exact lop_rank C hU S ht hc hs e1 rfl (t_L_rank_1 (t_X3_rank_x hl9 H hk hy)) (f_X4_rank_x M hk hy) rfl (by decide) (fun q9 => absurd q9 (by decide)) (next _ _ _ _ _ _ H M.thr.thr)
    · have hK := c_X3_rank (l := l) (D := D) (cI := cI) (cZ := cZ) (cR := cR) (cJ := cJ) (a := a) H hk hx
      rw [rRank_P H hk] at hK
      exact lop_rank C hU S ht hc hs e1 e2 (c_L_rank hK) (c_X4_rank M hk hx) rfl (by decide) (fun _ => pk_uLs) (next _ _ _ _ _ _ H M.thr)
theorem stp_count (C : aC p s m args meth c D (cTys cI cZ cR cJ) A cL_law 9 wsL_law RL (some .boolean)) (hU : aU A s) (S : aS s A b L xs) (ht : 4 * t + 4 ≤ L) (hc : cells + 1 ≤ room_1.cells) (hs : slots + 6 ≤ room_1.slots) (hl9 : l.stackTraces = false) (H : HInv σ n h F) (M : MInv τ n h F) (next : ∀ (σ' : CS) (τ' : MS) (o' : Nat → Int64) (n' : Nat) (h' : Nat → Nat) (F' : Nat → List Nat), HInv σ' n' h' F' → MInv τ' n' h' F' → aW p l e room_1 s m args below meth c Q D A (cells + 1) (slots + 6) 59 a (lw cI cZ cR cJ a σ' τ' o') 907 (lvB b a t) []) : aW p l e room_1 s m args below meth c Q D A cells slots 59 a (lw cI cZ cR cJ a σ τ o) 572 (lvB b a t) [] := by
  have hn := H.1.1
  rcases pk_w (xs (4 * t + 1)) with hy | ⟨w, hw, e1⟩
  · exact lop_count C hU S ht hc hs rfl (t_L_count_1 (t_X3_count hl9 H hy)) (f_X4_count M hy) rfl (by decide) (fun q9 => absurd q9 (by decide)) (next _ _ _ _ _ _ H M.thr.thr)
  · have hK := c_X3_count (l := l) (D := D) (cI := cI) (cZ := cZ) (cR := cR) (cJ := cJ) (a := a) H hw
    rw [cntF_P H] at hK
    exact lop_count C hU S ht hc hs e1 (c_L_count hK) (c_X4_count M hw) rfl (by decide) (fun _ => pk_uLs) (next _ _ _ _ _ _ H M.thr.sl)
theorem stp_swaps (C : aC p s m args meth c D (cTys cI cZ cR cJ) A cL_law 9 wsL_law RL (some .boolean)) (hU : aU A s) (S : aS s A b L xs) (ht : 4 * t + 4 ≤ L) (hc : cells + 1 ≤ room_1.cells) (hs : slots + 6 ≤ room_1.slots) (hl9 : l.stackTraces = false) (H : HInv σ n h F) (M : MInv τ n h F) (next : ∀ (σ' : CS) (τ' : MS) (o' : Nat → Int64) (n' : Nat) (h' : Nat → Nat) (F' : Nat → List Nat), HInv σ' n' h' F' → MInv τ' n' h' F' → aW p l e room_1 s m args below meth c Q D A (cells + 1) (slots + 6) 59 a (lw cI cZ cR cJ a σ' τ' o') 907 (lvB b a t) []) : aW p l e room_1 s m args below meth c Q D A cells slots 59 a (lw cI cZ cR cJ a σ τ o) 628 (lvB b a t) [] := by
  have hn := H.1.1
  rcases pk_two (xs (4 * t + 1)) (n := n) (by omega) with hx | ⟨k, hk, e1⟩
  · exact lop_swaps C hU S ht hc hs rfl rfl (t_L_swaps_1 (t_X3_swaps_k hl9 H hx)) (rb := false) (f_X4_swaps_k M hx) rfl (by decide) (fun q9 => absurd q9 (by decide)) (next _ _ _ _ _ _ H M.thr)
  · skip
    rcases pk_two (xs (4 * t + 2)) (n := n) (by omega) with hy | ⟨x, hx, e2⟩
    · exact lop_swaps C hU S ht hc hs e1 rfl (t_L_swaps_1 (t_X3_swaps_q hl9 H hk hy)) (rb := false) (f_X4_swaps_q M hk hy) rfl (by decide) (fun q9 => absurd q9 (by decide)) (next _ _ _ _ _ _ H M.thr)
    · have hK := c_X3_swaps (l := l) (D := D) (cI := cI) (cZ := cZ) (cR := cR) (cJ := cJ) (a := a) H hk hx
      rw [hadB_P H hk, hadB_P H hx, (H.got hk).1, (H.got hx).1] at hK
      exact lop_swaps C hU S ht hc hs e1 e2 (c_L_swaps hK) (c_X4_swaps M hk hx) rfl (by decide) (fun _ => pk_uLs) (next _ _ _ _ _ _ H M.thr.sl)
theorem stp_without (C : aC p s m args meth c D (cTys cI cZ cR cJ) A cL_law 9 wsL_law RL (some .boolean)) (hU : aU A s) (S : aS s A b L xs) (ht : 4 * t + 4 ≤ L) (hc : cells + 1 ≤ room_1.cells) (hs : slots + 6 ≤ room_1.slots) (hl9 : l.stackTraces = false) (H : HInv σ n h F) (M : MInv τ n h F) (next : ∀ (σ' : CS) (τ' : MS) (o' : Nat → Int64) (n' : Nat) (h' : Nat → Nat) (F' : Nat → List Nat), HInv σ' n' h' F' → MInv τ' n' h' F' → aW p l e room_1 s m args below meth c Q D A (cells + 1) (slots + 6) 59 a (lw cI cZ cR cJ a σ' τ' o') 907 (lvB b a t) []) : aW p l e room_1 s m args below meth c Q D A cells slots 59 a (lw cI cZ cR cJ a σ τ o) 703 (lvB b a t) [] := by
  have hn := H.1.1
  rcases pk_two (xs (4 * t + 1)) (n := n) (by omega) with hx | ⟨k, hk, e1⟩
  · exact lop_without C hU S ht hc hs rfl rfl (t_L_without_1 (t_X3_without_k hl9 H hx)) (f_X4_without_k M hx) rfl (by decide) (fun q9 => absurd q9 (by decide)) (next _ _ _ _ _ _ H M.thr.thr)
  · skip
    rcases pk_two (xs (4 * t + 2)) (n := n) (by omega) with hy | ⟨x, hx, e2⟩
    · exact lop_without C hU S ht hc hs e1 rfl (t_L_without_1 (t_X3_without_o hl9 H hk hy)) (f_X4_without_o M hk hy) rfl (by decide) (fun q9 => absurd q9 (by decide)) (next _ _ _ _ _ _ H M.thr.thr)
    · by_cases hne : k = x
      · subst hne
        exact lop_without C hU S ht hc hs e1 e2 (t_L_without_2 (t_X3_without_s hl9 H hk)) (f_X4_without_s M hk) rfl (by decide) (fun q9 => absurd q9 (by decide)) (next _ _ _ _ _ _ H M.thr.thr)
      · exact lop_without C hU S ht hc hs e1 e2 (c_L_without (c_X3_without H hk hx hne)) (c_X4_without M hk hx hne) rfl (by decide) (fun _ => pk_uLs) (next _ _ _ _ _ _ H.wo (M.of rfl rfl M.2.2.2.1 M.2.2.2.2.1 rfl rfl rfl))
theorem stp_feign (C : aC p s m args meth c D (cTys cI cZ cR cJ) A cL_law 9 wsL_law RL (some .boolean)) (hU : aU A s) (S : aS s A b L xs) (ht : 4 * t + 4 ≤ L) (hc : cells + 1 ≤ room_1.cells) (hs : slots + 6 ≤ room_1.slots) (hl9 : l.stackTraces = false) (H : HInv σ n h F) (M : MInv τ n h F) (next : ∀ (σ' : CS) (τ' : MS) (o' : Nat → Int64) (n' : Nat) (h' : Nat → Nat) (F' : Nat → List Nat), HInv σ' n' h' F' → MInv τ' n' h' F' → aW p l e room_1 s m args below meth c Q D A (cells + 1) (slots + 6) 59 a (lw cI cZ cR cJ a σ' τ' o') 907 (lvB b a t) []) : aW p l e room_1 s m args below meth c Q D A cells slots 59 a (lw cI cZ cR cJ a σ τ o) 771 (lvB b a t) [] := by
  have hn := H.1.1
  rcases pk_two (xs (4 * t + 1)) (n := n) (by omega) with hx | ⟨k, hk, e1⟩
  · exact lop_feign C hU S ht hc hs rfl rfl (t_L_feign_1 (t_X3_feign_k hl9 H hx)) (f_X4_feign_k M hx) rfl (by decide) (fun q9 => absurd q9 (by decide)) (next _ _ _ _ _ _ H M.thr.thr)
  · skip
    rcases pk_two (xs (4 * t + 2)) (n := n) (by omega) with hy | ⟨x, hx, e2⟩
    · exact lop_feign C hU S ht hc hs e1 rfl (t_L_feign_1 (t_X3_feign_x hl9 H hk hy)) (f_X4_feign_x M hk hy) rfl (by decide) (fun q9 => absurd q9 (by decide)) (next _ _ _ _ _ _ H M.thr.thr)
    · exact lop_feign C hU S ht hc hs e1 e2 (c_L_feign (c_X3_feign H hk hx)) (c_X4_feign M hk hx) rfl (by decide) (fun _ => pk_uLs) (next _ _ _ _ _ _ H.fe (M.of rfl M.2.2.1 rfl rfl rfl rfl rfl))
theorem stp_move (C : aC p s m args meth c D (cTys cI cZ cR cJ) A cL_law 9 wsL_law RL (some .boolean)) (hU : aU A s) (S : aS s A b L xs) (ht : 4 * t + 4 ≤ L) (hc : cells + 1 ≤ room_1.cells) (hs : slots + 6 ≤ room_1.slots) (hl9 : l.stackTraces = false) (H : HInv σ n h F) (M : MInv τ n h F) (next : ∀ (σ' : CS) (τ' : MS) (o' : Nat → Int64) (n' : Nat) (h' : Nat → Nat) (F' : Nat → List Nat), HInv σ' n' h' F' → MInv τ' n' h' F' → aW p l e room_1 s m args below meth c Q D A (cells + 1) (slots + 6) 59 a (lw cI cZ cR cJ a σ' τ' o') 907 (lvB b a t) []) : aW p l e room_1 s m args below meth c Q D A cells slots 59 a (lw cI cZ cR cJ a σ τ o) 839 (lvB b a t) [] := by
  have hn := H.1.1
  have hK := c_X3_move (l := l) (D := D) (cI := cI) (cZ := cZ) (cR := cR) (cJ := cJ) (a := a) H
  rw [anoB_P H] at hK
  exact lop_move C hU S ht hc hs hK (c_X4_move M) (next _ _ _ _ _ _ (HInv.of H.1.move (LandR.move H.1 H.2.1)) M.thr.sol.move)
theorem stp_mean (C : aC p s m args meth c D (cTys cI cZ cR cJ) A cL_law 9 wsL_law RL (some .boolean)) (hU : aU A s) (S : aS s A b L xs) (ht : 4 * t + 4 ≤ L) (hc : cells + 1 ≤ room_1.cells) (hs : slots + 6 ≤ room_1.slots) (hl9 : l.stackTraces = false) (H : HInv σ n h F) (M : MInv τ n h F) (next : ∀ (σ' : CS) (τ' : MS) (o' : Nat → Int64) (n' : Nat) (h' : Nat → Nat) (F' : Nat → List Nat), HInv σ' n' h' F' → MInv τ' n' h' F' → aW p l e room_1 s m args below meth c Q D A (cells + 1) (slots + 6) 59 a (lw cI cZ cR cJ a σ' τ' o') 907 (lvB b a t) []) : aW p l e room_1 s m args below meth c Q D A cells slots 59 a (lw cI cZ cR cJ a σ τ o) 852 (lvB b a t) [] := by
  have hn := H.1.1
  have hK := c_X3_mean (l := l) (D := D) (cI := cI) (cZ := cZ) (cR := cR) (cJ := cJ) (a := a) H
  rw [mean_P H] at hK
  exact lop_mean C hU S ht hc hs hK (c_X4_mean M) (next _ _ _ _ _ _ H M.thr.sl)
theorem stp_digest (C : aC p s m args meth c D (cTys cI cZ cR cJ) A cL_law 9 wsL_law RL (some .boolean)) (hU : aU A s) (S : aS s A b L xs) (ht : 4 * t + 4 ≤ L) (hc : cells + 1 ≤ room_1.cells) (hs : slots + 6 ≤ room_1.slots) (hl9 : l.stackTraces = false) (H : HInv σ n h F) (M : MInv τ n h F) (next : ∀ (σ' : CS) (τ' : MS) (o' : Nat → Int64) (n' : Nat) (h' : Nat → Nat) (F' : Nat → List Nat), HInv σ' n' h' F' → MInv τ' n' h' F' → aW p l e room_1 s m args below meth c Q D A (cells + 1) (slots + 6) 59 a (lw cI cZ cR cJ a σ' τ' o') 907 (lvB b a t) []) : aW p l e room_1 s m args below meth c Q D A cells slots 59 a (lw cI cZ cR cJ a σ τ o) 893 (lvB b a t) [] := by
  have hn := H.1.1
  have hK := c_X3_digest (l := l) (D := D) (cI := cI) (cZ := cZ) (cR := cR) (cJ := cJ) (a := a) H
  rw [digest_P H] at hK
  exact lop_digest C hU S ht hc hs hK (c_X4_digest M) (next _ _ _ _ _ _ H (MInv.its (fun τ H => H.sl.st) (MInv.its (fun τ H => H.sl) M.thr 6) n))
end STEPS
