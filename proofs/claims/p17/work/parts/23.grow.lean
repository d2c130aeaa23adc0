/-! a world that grows: contracts whose answer, and whose world behind, are told by a relation Po -/
def gQ (D : va_G) (n : Nat) (a : Nat → Nat) (sz : Nat) (Po : Option Value → Nat → (Nat → Nat) → (Nat → va_E) → Prop) : Array Value → State → Outcome → State → Prop :=
  fun _ st oc t => (∃ (r : Option Value) (n' : Nat) (a' : Nat → Nat) (v' : Nat → va_E), oc = .returned r ∧ Po r n' a' v' ∧ va_P D vwCl (wv n' a' v') t.heap ∧ va_D (aA n a sz) (wv n' a' v')) ∧ va_F (aA n a sz) st t
/-- what else such a method stands on: G, of the cells that it may write and of the state; it is handed on to a call -/
def gH (G : (Nat → Prop) → State → Prop) : Prop :=
  (∀ (A : Nat → Prop) (U U' : State), U'.heap = U.heap → U'.vm = U.vm → G A U → G A U') ∧
    ∀ (A B : Nat → Prop) (s U : State) (H : Heap) (locs : List Loc), va_S A s.heap H locs → U.heap = H → s.WarmedH U.vm → (∀ q, B q → A q) → G A s → G B U
def gM (l : Launch) (D : va_G) (tys : List (ClassId × FieldType)) (y : MethodName) (ws : List Cond) (rm : Room) (G : (Nat → Prop) → State → Prop) (n : Nat) (a : Nat → Nat) (v : Nat → va_E) (as : List Value) (mc ms : Nat) (Po : Option Value → Nat → (Nat → Nat) → (Nat → va_E) → Prop) : Prop :=
  ∀ sz : Nat, Met l y ws rm (va_Pc as (fun U => aB D tys n a v sz U ∧ G (aA n a sz) U)) (gQ D n a sz Po) mc ms (aA n a sz)
/-- g, but g' on the mN places from o on, and g' behind the n -/
def blF {α : Type} (o mN n : Nat) (g g' : Nat → α) : Nat → α := fun j => if j < n then (if o ≤ j ∧ j < o + mN then g' (j - o) else g j) else g' (mN + (j - n))
theorem blF_in {α : Type} {o mN n k : Nat} {g g' : Nat → α} (hk : k < mN) (hn : o + mN ≤ n) : blF o mN n g g' (o + k) = g' k := by
  simp only [blF]
  rw [if_pos (by omega), if_pos (by omega), show o + k - o = k by omega]
theorem blF_out {α : Type} {o mN n j : Nat} {g g' : Nat → α} (hj : j < n) (h : j < o ∨ o + mN ≤ j) : blF o mN n g g' j = g j := by
  simp only [blF]
  rw [if_pos hj, if_neg (by omega)]
theorem blF_new {α : Type} {o mN n k : Nat} {g g' : Nat → α} : blF o mN n g g' (n + k) = g' (mN + k) := by
  simp only [blF]
  rw [if_neg (by omega), show n + k - n = k by omega]
theorem gB_blind {G : (Nat → Prop) → State → Prop} (hG : gH G) {D : va_G} {tys : List (ClassId × FieldType)} {n : Nat} {a : Nat → Nat} {v : Nat → va_E} {sz : Nat} {as : List Value} {A : Nat → Prop} : FrameBlind (va_Pc as (fun U => aB D tys n a v sz U ∧ G A U)) := fun x U g mk q =>
  ⟨q.1, (aB_blind (as := as) x U g mk ⟨q.1, q.2.1⟩).2, hG.1 A U (U.calling g mk x) rfl rfl q.2.2⟩
def gN (G : (Nat → Prop) → State → Prop) (p : Program) (s : State) (m : MethodId) (args : Array Value) (meth : Method) (c : Code) (D : va_G) (tys : List (ClassId × FieldType)) (A : Nat → Prop) (cc : ByteArray) (nL : Nat) (Ts : List Cond) (own : String) (ret : Option FieldType) : Prop :=
  aC p s m args meth c D tys A cc nL Ts own ret ∧ G A s
section GRW
variable {p : Program} {l : Launch} {e : Env} {R : Room} {s : State} {m : MethodId} {args : Array Value} {below : List Frame} {meth : Method} {c : Code} {Q : State → Prop} {D : va_G} {tys : List (ClassId × FieldType)} {A : Nat → Prop} {cells slots nL n pc : Nat} {a : Nat → Nat} {v v' : Nat → va_E} {lv : List (Option Value)} {st rest : List Value} {cc bytes : ByteArray} {Ts ws : List Cond} {own C' : String} {ret ret' : Option FieldType} {y : MethodName} {rm : Room} {maxL ix b : Nat} {r : Option Value} {G : (Nat → Prop) → State → Prop}
theorem aw_widen {k n9 : Nat} (h1 : cells ≤ k) (h2 : slots ≤ n9) (kk : aW p l e R s m args below meth c Q D A k n9 n a v pc lv st) : aW p l e R s m args below meth c Q D A cells slots n a v pc lv st := fun H locs ls hP hD hS hL => W.widen h1 h2 (kk H locs ls hP hD hS hL)
/-- a part of the world: n0 cells, found by f -/
theorem wv_part {n0 : Nat} {a0 : Nat → Nat} {v0 : Nat → va_E} {f : Nat → Nat} {H : Heap} (hf : ∀ k, k < n0 → f k < n) (ha : ∀ k, k < n0 → a (f k) = a0 k) (hv : ∀ k, k < n0 → v (f k) = v0 k) (hP : va_P D vwCl (wv n a v) H) : va_P D vwCl (wv n0 a0 v0) H := by
  intro k q hq
  obtain ⟨h1, rfl⟩ := wv_lt hq
  have h9 := hP (f k) _ (wv_get (hf k h1))
  rw [ha k h1, hv k h1] at h9
  exact h9
theorem aJ_part {n0 : Nat} {a0 : Nat → Nat} {f : Nat → Nat} (hf : ∀ k, k < n0 → f k < n) (ha : ∀ k, k < n0 → a (f k) = a0 k) (hi : ∀ i j, i < n0 → j < n0 → f i = f j → i = j) (hJ : aJ n a) : aJ n0 a0 := fun i j h1 h2 e => hi i j h1 h2 (hJ _ _ (hf i h1) (hf j h2) (by rw [ha i h1, ha j h2]; exact e))
theorem aA_part {n0 : Nat} {a0 : Nat → Nat} {f : Nat → Nat} {H : Heap} {locs : List Loc} (hf : ∀ k, k < n0 → f k < n) (ha : ∀ k, k < n0 → a (f k) = a0 k) (hD : va_D A (wv n a v)) (hS : va_S A s.heap H locs) (hA : ∀ q : Nat, s.heap.size ≤ q → A q) : ∀ q, aA n0 a0 H.size q → A q := by
  rintro q (⟨k, hk, rfl⟩ | h)
  · rw [← ha k hk]; exact hD.2 _ _ (wv_get (hf k hk))
  · exact hA q (Nat.le_trans hS.1 h)
/-- the world read by other names; cells may be left out -/
theorem aW_perm {n' : Nat} {a' : Nat → Nat} {v' : Nat → va_E} {f : Nat → Nat} (h1 : ∀ k, k < n' → f k < n) (h2 : ∀ k, k < n' → a (f k) = a' k) (hi : ∀ i j, i < n' → j < n' → f i = f j → i = j) (h3 : ∀ k, k < n' → v (f k) = v' k) (k : aW p l e R s m args below meth c Q D A cells slots n' a' v' pc lv st) : aW p l e R s m args below meth c Q D A cells slots n a v pc lv st := fun H locs ls hP hD hS hL =>
  k H locs ls (wv_part h1 h2 h3 hP) (aJ_D (aJ_part h1 h2 hi (aJ_of hD)) (fun k hk => by rw [← h2 k hk]; exact hD.2 _ _ (wv_get (h1 k hk)))) hS hL
theorem aW_drop {n' : Nat} (h : n' ≤ n) (k : aW p l e R s m args below meth c Q D A cells slots n' a v pc lv st) : aW p l e R s m args below meth c Q D A cells slots n a v pc lv st :=
  aW_perm (f := fun k => k) (fun k hk => Nat.lt_of_lt_of_le hk h) (fun _ _ => rfl) (fun _ _ _ _ h => h) (fun _ _ => rfl) k
theorem aw_runs {n0 mc ms : Nat} {a0 : Nat → Nat} {v0 v0' v1 : Nat → va_E} {f : Nat → Nat} {x : Array Value} (C : aC p s m args meth c D tys A cc nL Ts own ret) (hf : ∀ k, k < n0 → f k < n) (ha : ∀ k, k < n0 → a (f k) = a0 k) (hi : ∀ i j, i < n0 → j < n0 → f i = f j → i = j) (hv : ∀ k, k < n0 → v (f k) = v0 k)
    (hv1 : ∀ k, k < n0 → v1 (f k) = v0' k) (hv2 : ∀ k, k < n → (∀ j, j < n0 → f j ≠ k) → v1 k = v k)
    (hr : ∀ (H : Heap) (locs : List Loc) (ls : Array Slot), va_P D vwCl (wv n0 a0 v0) H → aJ n0 a0 → va_S A s.heap H locs → (∀ q, aA n0 a0 H.size q → A q) → aL ls lv → va_Run p l e R s m args below meth c H locs cells slots mc ms (F0 m pc ls st) rest (aQ D n0 a0 v0' r (aA n0 a0 H.size) x) (aA n0 a0 H.size))
    (k : aW p l e R s m args below meth c Q D A (cells + mc) (slots + ms) n a v1 (pc + 3) lv (r.toList ++ rest)) : aW p l e R s m args below meth c Q D A cells slots n a v pc lv st := fun H locs ls hP hD hS hL => by
  intro T hT X
  have hJ := aJ_of hD
  have hfree := aA_part hf ha hD hS C.2.2.2.2
  obtain ⟨v9, st₀, t, T', L, h0, X', hLL, e1, e2, ⟨⟨hv9, hp⟩, hz, hk⟩, sg⟩ := hr H locs ls (wv_part hf ha hv hP) (aJ_part hf ha hi hJ) hS hfree hL T hT X
  cases hv9
  rw [h0] at hz hk
  have hlt : ∀ k, k < n → a k < H.size := fun k hk => (hP k _ (wv_get hk)).lt
  obtain ⟨t2, a1, b1⟩ := k T'.heap (locs ++ L) ls (by
      intro k q hq
      obtain ⟨h1, rfl⟩ := wv_lt hq
      rw [e1]
      by_cases c1 : ∃ j, j < n0 ∧ f j = k
      · obtain ⟨j, hj, rfl⟩ := c1
        rw [ha j hj, hv1 j hj]
        exact hp j _ (wv_get hj)
      · rw [hv2 k h1 (fun j hj z => c1 ⟨j, hj, z⟩)]
        refine (hP k _ (wv_get h1)).kept (hk _ (hlt k h1) ?_)
        rintro (⟨j, hj, z⟩ | z)
        · exact c1 ⟨j, hj, hJ _ _ (hf j hj) h1 ((ha j hj).trans z.symm)⟩
        · exact absurd (hlt k h1) (by omega))
    (aJ_D hJ (fun j hj => hD.2 j _ (wv_get hj)))
    ⟨Nat.le_trans hS.1 (by rw [e1]; exact hz), fun q h1 h2 => by rw [e1, hk q (Nat.lt_of_lt_of_le h1 hS.1) (fun z => h2 (hfree q z))]; exact hS.2.1 q h1 h2, fun q hq => by
      rcases List.mem_append.mp hq with h | h
      · exact hS.2.2 q h
      · exact hfree _ (hLL q h)⟩ hL T' rfl X'
  exact ⟨t2, sg t2 a1, b1⟩
theorem aw_subV {As : List Value} {n0 : Nat} {a0 : Nat → Nat} {v0 v0' v1 : Nat → va_E} {f : Nat → Nat} (C : aC p s m args meth c D tys A cc nL Ts own ret) (d : decode cc pc = .ok (.invokevirtual ix, 3)) (g : GoodIn Ts (wsV own ix C' y ws)) (sy : sY y C' bytes maxL ret' ws As.length)
    (hk : aChk rm maxL R lv nL cells slots 0 0 rest = true) (hf : ∀ k, k < n0 → f k < n) (ha : ∀ k, k < n0 → a (f k) = a0 k) (hi : ∀ i j, i < n0 → j < n0 → f i = f j → i = j) (hv : ∀ k, k < n0 → v (f k) = v0 k) (hv1 : ∀ k, k < n0 → v1 (f k) = v0' k) (hv2 : ∀ k, k < n → (∀ j, j < n0 → f j ≠ k) → v1 k = v k)
    (hr : aRec n0 a0 v0 b C') (hM : aM l D tys n0 a0 y ws rm (.ref b :: As) v0 r v0')
    (k : aW p l e R s m args below meth c Q D A cells slots n a v1 (pc + 3) lv (r.toList ++ rest)) : aW p l e R s m args below meth c Q D A cells slots n a v pc lv (As.reverse ++ .ref b :: rest) := by
  obtain ⟨hR, hrc, hrs, hnl, hcs, hst⟩ := aChk_spec hk
  obtain ⟨⟨ws', hw⟩, s1, s2, s3, s4, -⟩ := sy
  refine aw_runs (rest := rest) (x := (Value.ref b :: As).toArray) (mc := 0) (ms := 0) C hf ha hi hv hv1 hv2 (fun H locs ls hP hJ hS _ hL => ?_) k
  exact va_runV (As := As) (rest := rest) C.1 (hM H.size) (cwV As.length C.1.2.2.2.2 g hw hrc hrs ⟨s1, s2, s3, s4⟩ hR) ⟨aB_blind, aRec_cell C hP hr, fun U hU hW => ⟨rfl, by rw [hU], by rw [hU]; exact hP, va_K.moved hW.alike C.2.1, hJ⟩⟩ rfl rfl (hL.1.trans hnl) rfl (lv_room hst) d hcs
theorem aw_subS {As : List Value} {n0 : Nat} {a0 : Nat → Nat} {v0 v0' v1 : Nat → va_E} {f : Nat → Nat} (C : aC p s m args meth c D tys A cc nL Ts own ret) (d : decode cc pc = .ok (.invokestatic ix, 3)) (g : GoodIn Ts (va_wsS own ix y ws)) (sy : sY y C' bytes maxL ret' ws As.length)
    (hk : aChk rm maxL R lv nL cells slots 0 0 rest = true) (hf : ∀ k, k < n0 → f k < n) (ha : ∀ k, k < n0 → a (f k) = a0 k) (hi : ∀ i j, i < n0 → j < n0 → f i = f j → i = j) (hv : ∀ k, k < n0 → v (f k) = v0 k) (hv1 : ∀ k, k < n0 → v1 (f k) = v0' k) (hv2 : ∀ k, k < n → (∀ j, j < n0 → f j ≠ k) → v1 k = v k)
    (hM : aM l D tys n0 a0 y ws rm As v0 r v0')
    (k : aW p l e R s m args below meth c Q D A cells slots n a v1 (pc + 3) lv (r.toList ++ rest)) : aW p l e R s m args below meth c Q D A cells slots n a v pc lv (As.reverse ++ rest) := by
  obtain ⟨hR, hrc, hrs, hnl, hcs, hst⟩ := aChk_spec hk
  obtain ⟨⟨ws', hw⟩, s1, s2, s3, s4, -⟩ := sy
  refine aw_runs (rest := rest) (x := As.toArray) (mc := 0) (ms := 0) C hf ha hi hv hv1 hv2 (fun H locs ls hP hJ hS _ hL => ?_) k
  exact va_runS (As := As) (rest := rest) C.1 (hM H.size) (va_cwS As.length C.1.2.2.2.2 g hw hrc hrs ⟨s2, s3, s4⟩ hR) ⟨aB_blind, fun U hU hW => ⟨rfl, by rw [hU], by rw [hU]; exact hP, va_K.moved hW.alike C.2.1, hJ⟩⟩ rfl rfl (hL.1.trans hnl) rfl (lv_room hst) d hcs
/-- a call of a method over the mN cells from o on; what it makes comes behind the n -/
theorem gw_runs {o mN mc ms : Nat} {x : Array Value} {Po : Option Value → Nat → (Nat → Nat) → (Nat → va_E) → Prop} (C : aC p s m args meth c D tys A cc nL Ts own ret) (ho : o + mN ≤ n) (hge : ∀ r n' a' v', Po r n' a' v' → mN ≤ n')
    (hr : ∀ (H : Heap) (locs : List Loc) (ls : Array Slot), va_P D vwCl (wv mN (fun k => a (o + k)) (fun k => v (o + k))) H → aJ mN (fun k => a (o + k)) → va_S A s.heap H locs → (∀ q, aA mN (fun k => a (o + k)) H.size q → A q) → aL ls lv → va_Run p l e R s m args below meth c H locs cells slots mc ms (F0 m pc ls st) rest (gQ D mN (fun k => a (o + k)) H.size Po x) (aA mN (fun k => a (o + k)) H.size))
    (k : ∀ r n' a' v', Po r n' a' v' → aW p l e R s m args below meth c Q D A (cells + mc) (slots + ms) (n + (n' - mN)) (blF o mN n a a') (blF o mN n v v') (pc + 3) lv (r.toList ++ rest)) : aW p l e R s m args below meth c Q D A cells slots n a v pc lv st := fun H locs ls hP hD hS hL => by
  intro T hT X
  have hJ := aJ_of hD
  have hf : ∀ k, k < mN → o + k < n := fun k hk => by omega
  have hfree := aA_part (a0 := fun k => a (o + k)) (f := fun k => o + k) hf (fun _ _ => rfl) hD hS C.2.2.2.2
  obtain ⟨v9, st₀, t, T', L, h0, X', hLL, e1, e2, ⟨⟨r9, n', a', v', hv9, hpo, hp, hd⟩, hz, hk⟩, sg⟩ := hr H locs ls (wv_part (a0 := fun k => a (o + k)) (v0 := fun k => v (o + k)) (f := fun k => o + k) hf (fun _ _ => rfl) (fun _ _ => rfl) hP) (aJ_part (f := fun k => o + k) hf (fun _ _ => rfl) (fun i j _ _ h => by have h' : o + i = o + j := h; omega) hJ) hS hfree hL T hT X
  cases hv9
  rw [h0] at hz hk
  have hn' := hge _ _ _ _ hpo
  have hlt : ∀ k, k < n → a k < H.size := fun k hk => (hP k _ (wv_get hk)).lt
  have hout : ∀ j, j < n → ¬ (o ≤ j ∧ j < o + mN) → ¬ aA mN (fun k => a (o + k)) H.size (a j) := fun j hj hno h => by
    rcases h with ⟨i, hi, z⟩ | z
    · have := hJ j (o + i) hj (hf i hi) z
      omega
    · have := hlt j hj
      omega
  have hJ' := aJ_of hd
  have hin' : ∀ i, i < n' → aA mN (fun k => a (o + k)) H.size (a' i) := fun i hi => hd.2 i _ (wv_get hi)
  obtain ⟨t2, a1, b1⟩ := k v9 n' a' v' hpo T'.heap (locs ++ L) ls (by
      intro k q hq
      obtain ⟨h1, rfl⟩ := wv_lt hq
      rw [e1]
      simp only [blF]
      by_cases c1 : k < n
      · rw [if_pos c1, if_pos c1]
        by_cases c2 : o ≤ k ∧ k < o + mN
        · rw [if_pos c2, if_pos c2]
          exact hp (k - o) _ (wv_get (by omega))
        · rw [if_neg c2, if_neg c2]
          exact (hP k _ (wv_get c1)).kept (hk _ (hlt k c1) (hout k c1 c2))
      · rw [if_neg c1, if_neg c1]
        exact hp (mN + (k - n)) _ (wv_get (by omega)))
    (aJ_D (fun i j hi hj => by
      simp only [blF]
      intro z
      by_cases c1 : i < n
      · rw [if_pos c1] at z
        by_cases c2 : o ≤ i ∧ i < o + mN
        · rw [if_pos c2] at z
          by_cases d1 : j < n
          · rw [if_pos d1] at z
            by_cases d2 : o ≤ j ∧ j < o + mN
            · rw [if_pos d2] at z
              have := hJ' _ _ (by omega) (by omega) z
              omega
            · rw [if_neg d2] at z
              exact absurd (by rw [← z]; exact hin' _ (by omega)) (hout j d1 d2)
          · rw [if_neg d1] at z
            have := hJ' _ _ (by omega) (by omega) z
            omega
        · rw [if_neg c2] at z
          by_cases d1 : j < n
          · rw [if_pos d1] at z
            by_cases d2 : o ≤ j ∧ j < o + mN
            · rw [if_pos d2] at z
              exact absurd (by rw [z]; exact hin' _ (by omega)) (hout i c1 c2)
            · rw [if_neg d2] at z
              exact hJ i j c1 d1 z
          · rw [if_neg d1] at z
            exact absurd (by rw [z]; exact hin' _ (by omega)) (hout i c1 c2)
      · rw [if_neg c1] at z
        by_cases d1 : j < n
        · rw [if_pos d1] at z
          by_cases d2 : o ≤ j ∧ j < o + mN
          · rw [if_pos d2] at z
            have := hJ' _ _ (by omega) (by omega) z
            omega
          · rw [if_neg d2] at z
            exact absurd (by rw [← z]; exact hin' _ (by omega)) (hout j d1 d2)
        · rw [if_neg d1] at z
          have := hJ' _ _ (by omega) (by omega) z
          omega) (fun j hj => by
      simp only [blF]
      by_cases c1 : j < n
      · rw [if_pos c1]
        by_cases c2 : o ≤ j ∧ j < o + mN
        · rw [if_pos c2]; exact hfree _ (hin' _ (by omega))
        · rw [if_neg c2]; exact hD.2 j _ (wv_get c1)
      · rw [if_neg c1]; exact hfree _ (hin' _ (by omega))))
    ⟨Nat.le_trans hS.1 (by rw [e1]; exact hz), fun q h1 h2 => by rw [e1, hk q (Nat.lt_of_lt_of_le h1 hS.1) (fun z => h2 (hfree q z))]; exact hS.2.1 q h1 h2, fun q hq => by
      rcases List.mem_append.mp hq with h | h
      · exact hS.2.2 q h
      · exact hfree _ (hLL q h)⟩ hL T' rfl X'
  exact ⟨t2, sg t2 a1, b1⟩
theorem gw_callV {As : List Value} {o mN mc ms : Nat} {Po : Option Value → Nat → (Nat → Nat) → (Nat → va_E) → Prop} (CG : gN G p s m args meth c D tys A cc nL Ts own ret) (hG : gH G) (d : decode cc pc = .ok (.invokevirtual ix, 3)) (g : GoodIn Ts (wsV own ix C' y ws)) (sy : sY y C' bytes maxL ret' ws As.length)
    (hk : aChk rm maxL R lv nL cells slots mc ms rest = true) (ho : o + mN ≤ n) (hge : ∀ r n' a' v', Po r n' a' v' → mN ≤ n') (hr : aRec mN (fun k => a (o + k)) (fun k => v (o + k)) b C') (hM : gM l D tys y ws rm G mN (fun k => a (o + k)) (fun k => v (o + k)) (.ref b :: As) mc ms Po)
    (k : ∀ r n' a' v', Po r n' a' v' → aW p l e R s m args below meth c Q D A (cells + mc) (slots + ms) (n + (n' - mN)) (blF o mN n a a') (blF o mN n v v') (pc + 3) lv (r.toList ++ rest)) : aW p l e R s m args below meth c Q D A cells slots n a v pc lv (As.reverse ++ .ref b :: rest) := by
  obtain ⟨hR, hrc, hrs, hnl, hcs, hst⟩ := aChk_spec hk
  obtain ⟨⟨ws', hw⟩, s1, s2, s3, s4, -⟩ := sy
  obtain ⟨C, hg⟩ := CG
  refine gw_runs (rest := rest) (x := (Value.ref b :: As).toArray) (mc := mc) (ms := ms) C ho hge (fun H locs ls hP hJ hS hfree hL => ?_) k
  exact va_runV (As := As) (rest := rest) C.1 (hM H.size) (cwV As.length C.1.2.2.2.2 g hw hrc hrs ⟨s1, s2, s3, s4⟩ hR) ⟨gB_blind hG, aRec_cell C hP hr, fun U hU hW => ⟨rfl, ⟨by rw [hU], by rw [hU]; exact hP, va_K.moved hW.alike C.2.1, hJ⟩, hG.2 _ _ _ _ _ _ hS hU hW hfree hg⟩⟩ rfl rfl (hL.1.trans hnl) rfl (lv_room hst) d hcs
theorem gw_callS {As : List Value} {o mN mc ms : Nat} {Po : Option Value → Nat → (Nat → Nat) → (Nat → va_E) → Prop} (CG : gN G p s m args meth c D tys A cc nL Ts own ret) (hG : gH G) (d : decode cc pc = .ok (.invokestatic ix, 3)) (g : GoodIn Ts (va_wsS own ix y ws)) (sy : sY y C' bytes maxL ret' ws As.length)
    (hk : aChk rm maxL R lv nL cells slots mc ms rest = true) (ho : o + mN ≤ n) (hge : ∀ r n' a' v', Po r n' a' v' → mN ≤ n') (hM : gM l D tys y ws rm G mN (fun k => a (o + k)) (fun k => v (o + k)) As mc ms Po)
    (k : ∀ r n' a' v', Po r n' a' v' → aW p l e R s m args below meth c Q D A (cells + mc) (slots + ms) (n + (n' - mN)) (blF o mN n a a') (blF o mN n v v') (pc + 3) lv (r.toList ++ rest)) : aW p l e R s m args below meth c Q D A cells slots n a v pc lv (As.reverse ++ rest) := by
  obtain ⟨hR, hrc, hrs, hnl, hcs, hst⟩ := aChk_spec hk
  obtain ⟨⟨ws', hw⟩, s1, s2, s3, s4, -⟩ := sy
  obtain ⟨C, hg⟩ := CG
  refine gw_runs (rest := rest) (x := As.toArray) (mc := mc) (ms := ms) C ho hge (fun H locs ls hP hJ hS hfree hL => ?_) k
  exact va_runS (As := As) (rest := rest) C.1 (hM H.size) (va_cwS As.length C.1.2.2.2.2 g hw hrc hrs ⟨s2, s3, s4⟩ hR) ⟨gB_blind hG, fun U hU hW => ⟨rfl, ⟨by rw [hU], by rw [hU]; exact hP, va_K.moved hW.alike C.2.1, hJ⟩, hG.2 _ _ _ _ _ _ hS hU hW hfree hg⟩⟩ rfl rfl (hL.1.trans hnl) rfl (lv_room hst) d hcs
/-- a contract out of its body's walk -/
theorem gM_of {as : List Value} {lv0 : List (Option Value)} {k mc ms : Nat} {Po : Option Value → Nat → (Nat → Nat) → (Nat → va_E) → Prop} (sy : sY y own bytes nL ret ws k) {j : Nat} (hE : aEl as ++ List.replicate j none = lv0) (hl : lv0.length = nL)
    (body : ∀ (p : Program) (e : Env) (s : State) (m : MethodId) (args : Array Value) (below : List Frame) (meth : Method) (c : Code) (A : Nat → Prop) (sz : Nat), gN G p s m args meth c D tys A bytes nL ws own ret → A = aA n a sz →
      aW p l e rm s m args below meth c (MQ below (gQ D n a sz Po) args s mc ms A) D A 0 0 n a v 0 lv0 []) : gM l D tys y ws rm G n a v as mc ms Po := by
  intro sz
  obtain ⟨⟨ws', hw⟩, s1, s2, s3, s4, s5⟩ := sy
  subst s1
  refine Met.ofW (cc := bytes) (maxL := nL) (ret := ret) s5 hw ?_
  intro p e s m args below meth c s₁ B hml hv
  obtain ⟨rfl, ⟨hsz, hP, hK, hJ⟩, hg⟩ := hv
  subst hsz
  rw [lg_entry_eq]
  refine body p e s m _ below meth c _ _ ⟨⟨⟨B.exec, B.bytes, hml, findClass_of_methodNamed B.named, atoms_spec (ws := ws) B.pre⟩, hK, B.notSynchronized, B.returns, fun q hq => Or.inr hq⟩, hg⟩ rfl s.heap [] _ hP (aJ_D hJ (fun k hk => Or.inl ⟨k, hk, rfl⟩)) va_S.rf ?_
  exact aE_L hE hl
/-! ends -/
variable {n0 sz mc ms : Nat} {a0 : Nat → Nat} {Po : Option Value → Nat → (Nat → Nat) → (Nat → va_E) → Prop}
theorem gw_iret {x : Int32} (C : aC p s m args meth c D tys A cc nL Ts own (some .int)) (hA : A = aA n0 a0 sz) (d : decode cc pc = .ok (.ireturn, 1)) (h1 : cells ≤ mc) (h2 : slots ≤ ms) (hp : Po (some (.int x)) n a v) : aW p l e R s m args below meth c (MQ below (gQ D n0 a0 sz Po) args s mc ms A) D A cells slots n a v pc lv [.int x] := aw_widen h1 h2 (fun H locs ls hP hD hS hL => by
  subst hA
  exact W.iret C.1.1 C.1.2.1 C.2.2.2.1 (fun t ht hW => ⟨⟨_, n, a, v, rfl, hp, by rw [ht]; exact hP, hD⟩, hS.F ht⟩) hS.2.2 d C.2.2.1)
theorem gw_zret {x : Int32} (C : aC p s m args meth c D tys A cc nL Ts own (some .boolean)) (hA : A = aA n0 a0 sz) (d : decode cc pc = .ok (.ireturn, 1)) (hx : narrow .boolean (.int x) = .int x) (h1 : cells ≤ mc) (h2 : slots ≤ ms) (hp : Po (some (.int x)) n a v) : aW p l e R s m args below meth c (MQ below (gQ D n0 a0 sz Po) args s mc ms A) D A cells slots n a v pc lv [.int x] := aw_widen h1 h2 (fun H locs ls hP hD hS hL => by
  subst hA
  exact W.zret C.1.1 C.1.2.1 C.2.2.2.1 hx (fun t ht hW => ⟨⟨_, n, a, v, rfl, hp, by rw [ht]; exact hP, hD⟩, hS.F ht⟩) hS.2.2 d C.2.2.1)
theorem gw_aret {x : Nat} {Cn : String} (C : aC p s m args meth c D tys A cc nL Ts own (some (.object Cn))) (hA : A = aA n0 a0 sz) (d : decode cc pc = .ok (.areturn, 1)) (h1 : cells ≤ mc) (h2 : slots ≤ ms) (hp : Po (some (.ref x)) n a v) : aW p l e R s m args below meth c (MQ below (gQ D n0 a0 sz Po) args s mc ms A) D A cells slots n a v pc lv [.ref x] := aw_widen h1 h2 (fun H locs ls hP hD hS hL => by
  subst hA
  exact W.aret C.1.1 C.1.2.1 C.2.2.2.1 (Or.inl ⟨_, rfl⟩) (Or.inr ⟨_, rfl⟩) (fun t ht hW => ⟨⟨_, n, a, v, rfl, hp, by rw [ht]; exact hP, hD⟩, hS.F ht⟩) hS.2.2 d C.2.2.1)
theorem gw_aretA {x : Nat} {ty : FieldType} (C : aC p s m args meth c D tys A cc nL Ts own (some (.array ty))) (hA : A = aA n0 a0 sz) (d : decode cc pc = .ok (.areturn, 1)) (h1 : cells ≤ mc) (h2 : slots ≤ ms) (hp : Po (some (.ref x)) n a v) : aW p l e R s m args below meth c (MQ below (gQ D n0 a0 sz Po) args s mc ms A) D A cells slots n a v pc lv [.ref x] := aw_widen h1 h2 (fun H locs ls hP hD hS hL => by
  subst hA
  exact W.aret C.1.1 C.1.2.1 C.2.2.2.1 (Or.inr ⟨_, rfl⟩) (Or.inr ⟨_, rfl⟩) (fun t ht hW => ⟨⟨_, n, a, v, rfl, hp, by rw [ht]; exact hP, hD⟩, hS.F ht⟩) hS.2.2 d C.2.2.1)
theorem gw_vret (C : aC p s m args meth c D tys A cc nL Ts own none) (hA : A = aA n0 a0 sz) (d : decode cc pc = .ok (.return_, 1)) (h1 : cells ≤ mc) (h2 : slots ≤ ms) (hp : Po none n a v) : aW p l e R s m args below meth c (MQ below (gQ D n0 a0 sz Po) args s mc ms A) D A cells slots n a v pc lv [] := aw_widen h1 h2 (fun H locs ls hP hD hS hL => by
  subst hA
  exact W.vret C.1.1 C.1.2.1 C.2.2.2.1 (fun t ht hW => ⟨⟨_, n, a, v, rfl, hp, by rw [ht]; exact hP, hD⟩, hS.F ht⟩) hS.2.2 d C.2.2.1)
end GRW
