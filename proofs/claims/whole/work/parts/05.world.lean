/-! call rows by the kind of answer -/
section AWN
variable {p : Program} {l : Launch} {e : Env} {R : Room} {s : State} {m : MethodId} {args : Array Value} {below : List Frame} {meth : Method} {c : Code} {Q : State → Prop} {D : va_G} {tys : List (ClassId × FieldType)} {A : Nat → Prop} {cells slots nL n pc : Nat} {a : Nat → Nat} {v v' : Nat → va_E} {lv : List (Option Value)} {st rest : List Value} {cc bytes : ByteArray} {Ts ws : List Cond} {own C' : String} {ret ret' : Option FieldType} {y : MethodName} {rm : Room} {maxL ix b : Nat}
theorem aw_cV0 {x : Value} (C : aC p s m args meth c D tys A cc nL Ts own ret) (d : decode cc pc = .ok (.invokevirtual ix, 3)) (g : GoodIn Ts (wsV own ix C' y ws)) (sy : sY y C' bytes maxL ret' ws 0) (hk : aChk rm maxL R lv nL cells slots 0 0 rest = true) (hr : aRec n a v b C') (hM : aM l D tys n a y ws rm [.ref b] v (some x) v') (k : aW p l e R s m args below meth c Q D A cells slots n a v' (pc + 3) lv (x :: rest)) : aW p l e R s m args below meth c Q D A cells slots n a v pc lv (.ref b :: rest) := aw_callV0 C d g sy hk hr hM k
theorem aw_cV0v (C : aC p s m args meth c D tys A cc nL Ts own ret) (d : decode cc pc = .ok (.invokevirtual ix, 3)) (g : GoodIn Ts (wsV own ix C' y ws)) (sy : sY y C' bytes maxL ret' ws 0) (hk : aChk rm maxL R lv nL cells slots 0 0 rest = true) (hr : aRec n a v b C') (hM : aM l D tys n a y ws rm [.ref b] v none v') (k : aW p l e R s m args below meth c Q D A cells slots n a v' (pc + 3) lv (rest)) : aW p l e R s m args below meth c Q D A cells slots n a v pc lv (.ref b :: rest) := aw_callV0 C d g sy hk hr hM k
theorem aw_cV1 {x1 : Value} {x : Value} (C : aC p s m args meth c D tys A cc nL Ts own ret) (d : decode cc pc = .ok (.invokevirtual ix, 3)) (g : GoodIn Ts (wsV own ix C' y ws)) (sy : sY y C' bytes maxL ret' ws 1) (hk : aChk rm maxL R lv nL cells slots 0 0 rest = true) (hr : aRec n a v b C') (hM : aM l D tys n a y ws rm [.ref b, x1] v (some x) v') (k : aW p l e R s m args below meth c Q D A cells slots n a v' (pc + 3) lv (x :: rest)) : aW p l e R s m args below meth c Q D A cells slots n a v pc lv (x1 :: .ref b :: rest) := aw_callV1 C d g sy hk hr hM k
theorem aw_cV1v {x1 : Value} (C : aC p s m args meth c D tys A cc nL Ts own ret) (d : decode cc pc = .ok (.invokevirtual ix, 3)) (g : GoodIn Ts (wsV own ix C' y ws)) (sy : sY y C' bytes maxL ret' ws 1) (hk : aChk rm maxL R lv nL cells slots 0 0 rest = true) (hr : aRec n a v b C') (hM : aM l D tys n a y ws rm [.ref b, x1] v none v') (k : aW p l e R s m args below meth c Q D A cells slots n a v' (pc + 3) lv (rest)) : aW p l e R s m args below meth c Q D A cells slots n a v pc lv (x1 :: .ref b :: rest) := aw_callV1 C d g sy hk hr hM k
theorem aw_cV2 {x1 x2 : Value} {x : Value} (C : aC p s m args meth c D tys A cc nL Ts own ret) (d : decode cc pc = .ok (.invokevirtual ix, 3)) (g : GoodIn Ts (wsV own ix C' y ws)) (sy : sY y C' bytes maxL ret' ws 2) (hk : aChk rm maxL R lv nL cells slots 0 0 rest = true) (hr : aRec n a v b C') (hM : aM l D tys n a y ws rm [.ref b, x1, x2] v (some x) v') (k : aW p l e R s m args below meth c Q D A cells slots n a v' (pc + 3) lv (x :: rest)) : aW p l e R s m args below meth c Q D A cells slots n a v pc lv (x2 :: x1 :: .ref b :: rest) := aw_callV2 C d g sy hk hr hM k
theorem aw_cV2v {x1 x2 : Value} (C : aC p s m args meth c D tys A cc nL Ts own ret) (d : decode cc pc = .ok (.invokevirtual ix, 3)) (g : GoodIn Ts (wsV own ix C' y ws)) (sy : sY y C' bytes maxL ret' ws 2) (hk : aChk rm maxL R lv nL cells slots 0 0 rest = true) (hr : aRec n a v b C') (hM : aM l D tys n a y ws rm [.ref b, x1, x2] v none v') (k : aW p l e R s m args below meth c Q D A cells slots n a v' (pc + 3) lv (rest)) : aW p l e R s m args below meth c Q D A cells slots n a v pc lv (x2 :: x1 :: .ref b :: rest) := aw_callV2 C d g sy hk hr hM k
theorem aw_cV3 {x1 x2 x3 : Value} {x : Value} (C : aC p s m args meth c D tys A cc nL Ts own ret) (d : decode cc pc = .ok (.invokevirtual ix, 3)) (g : GoodIn Ts (wsV own ix C' y ws)) (sy : sY y C' bytes maxL ret' ws 3) (hk : aChk rm maxL R lv nL cells slots 0 0 rest = true) (hr : aRec n a v b C') (hM : aM l D tys n a y ws rm [.ref b, x1, x2, x3] v (some x) v') (k : aW p l e R s m args below meth c Q D A cells slots n a v' (pc + 3) lv (x :: rest)) : aW p l e R s m args below meth c Q D A cells slots n a v pc lv (x3 :: x2 :: x1 :: .ref b :: rest) := aw_callV3 C d g sy hk hr hM k
theorem aw_cV3v {x1 x2 x3 : Value} (C : aC p s m args meth c D tys A cc nL Ts own ret) (d : decode cc pc = .ok (.invokevirtual ix, 3)) (g : GoodIn Ts (wsV own ix C' y ws)) (sy : sY y C' bytes maxL ret' ws 3) (hk : aChk rm maxL R lv nL cells slots 0 0 rest = true) (hr : aRec n a v b C') (hM : aM l D tys n a y ws rm [.ref b, x1, x2, x3] v none v') (k : aW p l e R s m args below meth c Q D A cells slots n a v' (pc + 3) lv (rest)) : aW p l e R s m args below meth c Q D A cells slots n a v pc lv (x3 :: x2 :: x1 :: .ref b :: rest) := aw_callV3 C d g sy hk hr hM k
theorem aw_cS2 {x1 x2 : Value} {x : Value} (C : aC p s m args meth c D tys A cc nL Ts own ret) (d : decode cc pc = .ok (.invokestatic ix, 3)) (g : GoodIn Ts (va_wsS own ix y ws)) (sy : sY y C' bytes maxL ret' ws 2) (hk : aChk rm maxL R lv nL cells slots 0 0 rest = true) (hM : aM l D tys n a y ws rm [x1, x2] v (some x) v') (k : aW p l e R s m args below meth c Q D A cells slots n a v' (pc + 3) lv (x :: rest)) : aW p l e R s m args below meth c Q D A cells slots n a v pc lv (x2 :: x1 :: rest) := aw_callS2 C d g sy hk hM k
theorem aw_cS2v {x1 x2 : Value} (C : aC p s m args meth c D tys A cc nL Ts own ret) (d : decode cc pc = .ok (.invokestatic ix, 3)) (g : GoodIn Ts (va_wsS own ix y ws)) (sy : sY y C' bytes maxL ret' ws 2) (hk : aChk rm maxL R lv nL cells slots 0 0 rest = true) (hM : aM l D tys n a y ws rm [x1, x2] v none v') (k : aW p l e R s m args below meth c Q D A cells slots n a v' (pc + 3) lv (rest)) : aW p l e R s m args below meth c Q D A cells slots n a v pc lv (x2 :: x1 :: rest) := aw_callS2 C d g sy hk hM k
theorem aw_cS3 {x1 x2 x3 : Value} {x : Value} (C : aC p s m args meth c D tys A cc nL Ts own ret) (d : decode cc pc = .ok (.invokestatic ix, 3)) (g : GoodIn Ts (va_wsS own ix y ws)) (sy : sY y C' bytes maxL ret' ws 3) (hk : aChk rm maxL R lv nL cells slots 0 0 rest = true) (hM : aM l D tys n a y ws rm [x1, x2, x3] v (some x) v') (k : aW p l e R s m args below meth c Q D A cells slots n a v' (pc + 3) lv (x :: rest)) : aW p l e R s m args below meth c Q D A cells slots n a v pc lv (x3 :: x2 :: x1 :: rest) := aw_callS3 C d g sy hk hM k
theorem aw_cS3v {x1 x2 x3 : Value} (C : aC p s m args meth c D tys A cc nL Ts own ret) (d : decode cc pc = .ok (.invokestatic ix, 3)) (g : GoodIn Ts (va_wsS own ix y ws)) (sy : sY y C' bytes maxL ret' ws 3) (hk : aChk rm maxL R lv nL cells slots 0 0 rest = true) (hM : aM l D tys n a y ws rm [x1, x2, x3] v none v') (k : aW p l e R s m args below meth c Q D A cells slots n a v' (pc + 3) lv (rest)) : aW p l e R s m args below meth c Q D A cells slots n a v pc lv (x3 :: x2 :: x1 :: rest) := aw_callS3 C d g sy hk hM k
theorem aw_ldc2 {ret : Option FieldType} (C : aC p s m args meth c D tys A cc nL Ts own ret) {x : Int64} (d : decode cc pc = .ok (.ldc2_w ix, 3)) (h : Cond.constantLong own ix x ∈ Ts) (k : aW p l e R s m args below meth c Q D A cells slots n a v (pc + 3) lv (.long x :: st)) : aW p l e R s m args below meth c Q D A cells slots n a v pc lv st := fun H locs ls hP hD hS hL => lv_ldc2 C.1.1 C.1.2.1 C.1.2.2.2.1 (C.1.2.2.2.2 _ h) d (k H locs ls hP hD hS hL)
theorem aw_iend {x : Int32} {r : Option Value} (C : aC p s m args meth c D tys A cc nL Ts own (some .int)) (d : decode cc pc = .ok (.ireturn, 1)) (hv : v = v') (hr : some (.int x) = r) : aW p l e R s m args below meth c (MQ below (aQ D n a v' r A) args s cells slots A) D A cells slots n a v pc lv [.int x] := by subst hv; exact aw_iret C d hr
theorem aw_lend {x : Int64} {r : Option Value} (C : aC p s m args meth c D tys A cc nL Ts own (some .long)) (d : decode cc pc = .ok (.lreturn, 1)) (hv : v = v') (hr : some (.long x) = r) : aW p l e R s m args below meth c (MQ below (aQ D n a v' r A) args s cells slots A) D A cells slots n a v pc lv [.long x] := by subst hv; exact aw_lret C d hr
theorem aw_dend {x : UInt64} {r : Option Value} (C : aC p s m args meth c D tys A cc nL Ts own (some .double)) (d : decode cc pc = .ok (.dreturn, 1)) (hv : v = v') (hr : some (.double x) = r) : aW p l e R s m args below meth c (MQ below (aQ D n a v' r A) args s cells slots A) D A cells slots n a v pc lv [.double x] := by subst hv; exact aw_dret C d hr
theorem aw_zend {x : Int32} {r : Option Value} (C : aC p s m args meth c D tys A cc nL Ts own (some .boolean)) (d : decode cc pc = .ok (.ireturn, 1)) (hx : narrow .boolean (.int x) = .int x) (hv : v = v') (hr : some (.int x) = r) : aW p l e R s m args below meth c (MQ below (aQ D n a v' r A) args s cells slots A) D A cells slots n a v pc lv [.int x] := by subst hv; exact aw_zret C d hx hr
theorem aw_aend {x : Nat} {Cn : String} {r : Option Value} (C : aC p s m args meth c D tys A cc nL Ts own (some (.object Cn))) (d : decode cc pc = .ok (.areturn, 1)) (hv : v = v') (hr : some (.ref x) = r) : aW p l e R s m args below meth c (MQ below (aQ D n a v' r A) args s cells slots A) D A cells slots n a v pc lv [.ref x] := by subst hv; exact aw_aret C d hr
theorem aw_vend {r : Option Value} (C : aC p s m args meth c D tys A cc nL Ts own none) (d : decode cc pc = .ok (.return_, 1)) (hv : v = v') (hr : none = r) : aW p l e R s m args below meth c (MQ below (aQ D n a v' r A) args s cells slots A) D A cells slots n a v pc lv [] := by subst hv; exact aw_vret C d hr
end AWN
/-! THE CLASS'S WORLD. 22 rows (object at ra j, numbers at ca j): 0 huts, 1..10 likes, 11 noLikes, then for each trade t gets, doneIn, ringSizes, aims, feignedLikes. -/
abbrev CS : Type := (Nat → Nat) × (Nat → Nat → Int32) × (Nat → Int32)
def updN (f : Nat → Nat) (k x : Nat) : Nat → Nat := fun j => if j = k then x else f j
def ra (a : Nat → Nat) (j : Nat) : Nat := a (2 * j)
def ca (a : Nat → Nat) (j : Nat) : Nat := a (2 * j + 1)
def ta (a : Nat → Nat) (t : Nat) : Nat := a (47 + t)
def kR (k : Nat) : Nat := 1 + k
def gR (t : Nat) : Nat := 12 + 5 * t
def dR (t : Nat) : Nat := 13 + 5 * t
def zR (t : Nat) : Nat := 14 + 5 * t
def mR (t : Nat) : Nat := 15 + 5 * t
def fR (t : Nat) : Nat := 16 + 5 * t
def cTys (cI cZ cR cJ : ClassId) : List (ClassId × FieldType) := [(cI, .int), (cZ, .boolean), (cR, .object "HutRings$Row"), (cJ, .long)]
def cv (cI cR : ClassId) (a : Nat → Nat) (σ : CS) : Nat → va_E := fun k =>
  if k < 44 then (if k % 2 = 0 then .inr (1, [.ref (ca a (k / 2)), .int (nI (σ.1 (k / 2)))]) else .inl (cI, 10, .inl (σ.2.1 (k / 2))))
  else if k = 44 then .inr (3, [.ref (a 45), .ref (ta a 0), .ref (ta a 1)])
  else if k = 45 then .inr (0, [.ref (ra a 0), .ref (a 46), .ref (ra a 11)])
  else if k = 46 then .inl (cR, 10, .inr (.inr (.inr (.inr (fun i => if i < 10 then some (ra a (kR i)) else none)))))
  else .inr (2, [.ref (a 45), .ref (ra a (gR (k - 47))), .ref (ra a (dR (k - 47))), .ref (ra a (zR (k - 47))), .ref (ra a (mR (k - 47))), .ref (ra a (fR (k - 47))), .int (σ.2.2 (3 * (k - 47))), .int (σ.2.2 (3 * (k - 47) + 1)), .int (σ.2.2 (3 * (k - 47) + 2))])
def cs1 (σ : CS) (j n : Nat) : CS := (updN σ.1 j n, σ.2.1, σ.2.2)
def cs2 (σ : CS) (j i : Nat) (x : Int32) : CS := (σ.1, fun q => if q = j then upd (σ.2.1 j) i x else σ.2.1 q, σ.2.2)
def cs3 (σ : CS) (i : Nat) (x : Int32) : CS := (σ.1, σ.2.1, upd σ.2.2 i x)
section CVT
variable {cI cR : ClassId} {a : Nat → Nat} {σ : CS} {j t : Nat}
theorem cv_row (hj : j < 22) : cv cI cR a σ (2 * j) = .inr (1, [.ref (ca a j), .int (nI (σ.1 j))]) := by
  simp [cv, show 2 * j < 44 by omega]
theorem cv_cel (hj : j < 22) : cv cI cR a σ (2 * j + 1) = .inl (cI, 10, .inl (σ.2.1 j)) := by
  simp [cv, show 2 * j + 1 < 44 by omega, show (2 * j + 1) % 2 = 1 by omega, show (2 * j + 1) / 2 = j by omega]
theorem cv_hut : cv cI cR a σ 44 = .inr (3, [.ref (a 45), .ref (ta a 0), .ref (ta a 1)]) := rfl
theorem cv_land : cv cI cR a σ 45 = .inr (0, [.ref (ra a 0), .ref (a 46), .ref (ra a 11)]) := rfl
theorem cv_lik : cv cI cR a σ 46 = .inl (cR, 10, .inr (.inr (.inr (.inr (fun i => if i < 10 then some (ra a (kR i)) else none))))) := rfl
theorem cv_tr (ht : t < 2) : cv cI cR a σ (47 + t) = .inr (2, [.ref (a 45), .ref (ra a (gR t)), .ref (ra a (dR t)), .ref (ra a (zR t)), .ref (ra a (mR t)), .ref (ra a (fR t)), .int (σ.2.2 (3 * t)), .int (σ.2.2 (3 * t + 1)), .int (σ.2.2 (3 * t + 2))]) := by
  rcases (show t = 0 ∨ t = 1 by omega) with rfl | rfl <;> rfl
theorem cv_s1 {n : Nat} (hj : j < 22) : wset (cv cI cR a σ) (2 * j) (.inr (1, [.ref (ca a j), .int (nI n)])) = cv cI cR a (cs1 σ j n) := by
  funext k
  by_cases e : k = 2 * j
  · subst e
    rw [cv_row hj]
    simp [wset, cs1, updN]
  · simp only [wset, if_neg e, cv, cs1, updN]
    by_cases h : k < 44
    · by_cases h2 : k % 2 = 0
      · simp [h, h2, show ¬ k / 2 = j by omega]
      · simp [h, h2]
    · simp [h]
theorem cv_s2 {i : Nat} {x : Int32} (hj : j < 22) : wset (cv cI cR a σ) (2 * j + 1) (.inl (cI, 10, .inl (upd (σ.2.1 j) i x))) = cv cI cR a (cs2 σ j i x) := by
  funext k
  by_cases e : k = 2 * j + 1
  · subst e
    rw [cv_cel hj]
    simp [wset, cs2]
  · simp only [wset, if_neg e, cv, cs2]
    by_cases h : k < 44
    · by_cases h2 : k % 2 = 0
      · simp [h, h2]
      · simp [h, h2, show ¬ k / 2 = j by omega]
    · simp [h]
theorem cv_s3_0 {x : Int32} (ht : t < 2) : wset (cv cI cR a σ) (47 + t) (.inr (2, [.ref (a 45), .ref (ra a (gR t)), .ref (ra a (dR t)), .ref (ra a (zR t)), .ref (ra a (mR t)), .ref (ra a (fR t)), .int x, .int (σ.2.2 (3 * t + 1)), .int (σ.2.2 (3 * t + 2))])) = cv cI cR a (cs3 σ (3 * t) x) := by
  funext k
  by_cases e : k = 47 + t
  · subst e
    rw [cv_tr ht]
    rcases (show t = 0 ∨ t = 1 by omega) with rfl | rfl <;> simp [wset, cs3, upd]
  · simp only [wset, if_neg e]
    by_cases h : k < 44
    · by_cases h2 : k % 2 = 0
      · simp [cv, cs3, h, h2]
      · simp [cv, cs3, h, h2]
    · by_cases h44 : k = 44
      · simp [cv, cs3, h44]
      · by_cases h45 : k = 45
        · simp [cv, cs3, h45]
        · by_cases h46 : k = 46
          · simp [cv, cs3, h46]
          · simp only [cv, cs3, if_neg h, if_neg h44, if_neg h45, if_neg h46, upd]
            rw [if_neg (by omega), if_neg (by omega), if_neg (by omega)]
theorem cv_s3_1 {x : Int32} (ht : t < 2) : wset (cv cI cR a σ) (47 + t) (.inr (2, [.ref (a 45), .ref (ra a (gR t)), .ref (ra a (dR t)), .ref (ra a (zR t)), .ref (ra a (mR t)), .ref (ra a (fR t)), .int (σ.2.2 (3 * t)), .int x, .int (σ.2.2 (3 * t + 2))])) = cv cI cR a (cs3 σ (3 * t + 1) x) := by
  funext k
  by_cases e : k = 47 + t
  · subst e
    rw [cv_tr ht]
    rcases (show t = 0 ∨ t = 1 by omega) with rfl | rfl <;> simp [wset, cs3, upd]
  · simp only [wset, if_neg e]
    by_cases h : k < 44
    · by_cases h2 : k % 2 = 0
      · simp [cv, cs3, h, h2]
      · simp [cv, cs3, h, h2]
    · by_cases h44 : k = 44
      · simp [cv, cs3, h44]
      · by_cases h45 : k = 45
        · simp [cv, cs3, h45]
        · by_cases h46 : k = 46
          · simp [cv, cs3, h46]
          · simp only [cv, cs3, if_neg h, if_neg h44, if_neg h45, if_neg h46, upd]
            rw [if_neg (by omega), if_neg (by omega), if_neg (by omega)]
theorem cv_s3_2 {x : Int32} (ht : t < 2) : wset (cv cI cR a σ) (47 + t) (.inr (2, [.ref (a 45), .ref (ra a (gR t)), .ref (ra a (dR t)), .ref (ra a (zR t)), .ref (ra a (mR t)), .ref (ra a (fR t)), .int (σ.2.2 (3 * t)), .int (σ.2.2 (3 * t + 1)), .int x])) = cv cI cR a (cs3 σ (3 * t + 2) x) := by
  funext k
  by_cases e : k = 47 + t
  · subst e
    rw [cv_tr ht]
    rcases (show t = 0 ∨ t = 1 by omega) with rfl | rfl <;> simp [wset, cs3, upd]
  · simp only [wset, if_neg e]
    by_cases h : k < 44
    · by_cases h2 : k % 2 = 0
      · simp [cv, cs3, h, h2]
      · simp [cv, cs3, h, h2]
    · by_cases h44 : k = 44
      · simp [cv, cs3, h44]
      · by_cases h45 : k = 45
        · simp [cv, cs3, h45]
        · by_cases h46 : k = 46
          · simp [cv, cs3, h46]
          · simp only [cv, cs3, if_neg h, if_neg h44, if_neg h45, if_neg h46, upd]
            rw [if_neg (by omega), if_neg (by omega), if_neg (by omega)]
end CVT
section CVR
variable {p : Program} {l : Launch} {e : Env} {R : Room} {s : State} {m : MethodId} {args : Array Value} {below : List Frame} {meth : Method} {c : Code} {Q : State → Prop} {D : va_G} {A : Nat → Prop} {cells slots nL pc ix : Nat} {a : Nat → Nat} {σ : CS} {lv : List (Option Value)} {st : List Value} {cc : ByteArray} {Ts : List Cond} {own : String} {ret : Option FieldType} {cI cZ cR cJ : ClassId} {j t : Nat}
theorem recRow (hj : j < 22) : aRec 49 a (cv cI cR a σ) (ra a j) RX1 := ⟨2 * j, 1, _, TX1, 2, by omega, rfl, cv_row hj, rfl⟩
theorem recLand : aRec 49 a (cv cI cR a σ) (a 45) RX0 := ⟨45, 0, _, TX0, 3, by omega, rfl, cv_land, rfl⟩
theorem recTr (ht : t < 2) : aRec 49 a (cv cI cR a σ) (ta a t) RX2 := ⟨47 + t, 2, _, TX2, 9, by omega, rfl, cv_tr ht, rfl⟩
theorem recHut : aRec 49 a (cv cI cR a σ) (a 44) RX3 := ⟨44, 3, _, TX3, 3, by omega, rfl, cv_hut, rfl⟩
theorem aw_gX1_cells (C : aC p s m args meth c D (cTys cI cZ cR cJ) A cc nL Ts own ret) (hj : j < 22) (d : decode cc pc = .ok (.getfield ix, 3)) (hin : ∀ w ∈ wsX10, w ∈ Ts) (hlk : Cond.fieldLink own ix "HutRings$Row" "cells" "[I" ∈ Ts) (k : aW p l e R s m args below meth c Q D A cells slots 49 a (cv cI cR a σ) (pc + 3) lv (.ref (ca a j) :: st)) : aW p l e R s m args below meth c Q D A cells slots 49 a (cv cI cR a σ) (pc) lv (.ref (ra a j) :: st) := aw_getf (q := 2 * j) (ci := 1) (j := 0) (T := TX1) (N := 2) C d (by omega) rfl (cv_row hj) rfl hin (by decide) hlk rfl rfl k
theorem aw_gX1_size (C : aC p s m args meth c D (cTys cI cZ cR cJ) A cc nL Ts own ret) (hj : j < 22) (d : decode cc pc = .ok (.getfield ix, 3)) (hin : ∀ w ∈ wsX10, w ∈ Ts) (hlk : Cond.fieldLink own ix "HutRings$Row" "size" "I" ∈ Ts) (k : aW p l e R s m args below meth c Q D A cells slots 49 a (cv cI cR a σ) (pc + 3) lv (.int (nI (σ.1 j)) :: st)) : aW p l e R s m args below meth c Q D A cells slots 49 a (cv cI cR a σ) (pc) lv (.ref (ra a j) :: st) := aw_getf (q := 2 * j) (ci := 1) (j := 1) (T := TX1) (N := 2) C d (by omega) rfl (cv_row hj) rfl hin (by decide) hlk rfl rfl k
theorem aw_gX0_huts (C : aC p s m args meth c D (cTys cI cZ cR cJ) A cc nL Ts own ret)  (d : decode cc pc = .ok (.getfield ix, 3)) (hin : ∀ w ∈ wsX00, w ∈ Ts) (hlk : Cond.fieldLink own ix "HutRings$Land" "huts" "LHutRings$Row;" ∈ Ts) (k : aW p l e R s m args below meth c Q D A cells slots 49 a (cv cI cR a σ) (pc + 3) lv (.ref (ra a 0) :: st)) : aW p l e R s m args below meth c Q D A cells slots 49 a (cv cI cR a σ) (pc) lv (.ref (a 45) :: st) := aw_getf (q := 45) (ci := 0) (j := 0) (T := TX0) (N := 3) C d (by omega) rfl cv_land rfl hin (by decide) hlk rfl rfl k
theorem aw_gX0_likes (C : aC p s m args meth c D (cTys cI cZ cR cJ) A cc nL Ts own ret)  (d : decode cc pc = .ok (.getfield ix, 3)) (hin : ∀ w ∈ wsX00, w ∈ Ts) (hlk : Cond.fieldLink own ix "HutRings$Land" "likes" "[LHutRings$Row;" ∈ Ts) (k : aW p l e R s m args below meth c Q D A cells slots 49 a (cv cI cR a σ) (pc + 3) lv (.ref (a 46) :: st)) : aW p l e R s m args below meth c Q D A cells slots 49 a (cv cI cR a σ) (pc) lv (.ref (a 45) :: st) := aw_getf (q := 45) (ci := 0) (j := 1) (T := TX0) (N := 3) C d (by omega) rfl cv_land rfl hin (by decide) hlk rfl rfl k
theorem aw_gX0_noLikes (C : aC p s m args meth c D (cTys cI cZ cR cJ) A cc nL Ts own ret)  (d : decode cc pc = .ok (.getfield ix, 3)) (hin : ∀ w ∈ wsX00, w ∈ Ts) (hlk : Cond.fieldLink own ix "HutRings$Land" "noLikes" "LHutRings$Row;" ∈ Ts) (k : aW p l e R s m args below meth c Q D A cells slots 49 a (cv cI cR a σ) (pc + 3) lv (.ref (ra a 11) :: st)) : aW p l e R s m args below meth c Q D A cells slots 49 a (cv cI cR a σ) (pc) lv (.ref (a 45) :: st) := aw_getf (q := 45) (ci := 0) (j := 2) (T := TX0) (N := 3) C d (by omega) rfl cv_land rfl hin (by decide) hlk rfl rfl k
theorem aw_gX2_land (C : aC p s m args meth c D (cTys cI cZ cR cJ) A cc nL Ts own ret) (ht : t < 2) (d : decode cc pc = .ok (.getfield ix, 3)) (hin : ∀ w ∈ wsX20, w ∈ Ts) (hlk : Cond.fieldLink own ix "HutRings$Trade" "land" "LHutRings$Land;" ∈ Ts) (k : aW p l e R s m args below meth c Q D A cells slots 49 a (cv cI cR a σ) (pc + 3) lv (.ref (a 45) :: st)) : aW p l e R s m args below meth c Q D A cells slots 49 a (cv cI cR a σ) (pc) lv (.ref (ta a t) :: st) := aw_getf (q := 47 + t) (ci := 2) (j := 0) (T := TX2) (N := 9) C d (by omega) rfl (cv_tr ht) rfl hin (by decide) hlk rfl rfl k
theorem aw_gX2_gets (C : aC p s m args meth c D (cTys cI cZ cR cJ) A cc nL Ts own ret) (ht : t < 2) (d : decode cc pc = .ok (.getfield ix, 3)) (hin : ∀ w ∈ wsX20, w ∈ Ts) (hlk : Cond.fieldLink own ix "HutRings$Trade" "gets" "LHutRings$Row;" ∈ Ts) (k : aW p l e R s m args below meth c Q D A cells slots 49 a (cv cI cR a σ) (pc + 3) lv (.ref (ra a (gR t)) :: st)) : aW p l e R s m args below meth c Q D A cells slots 49 a (cv cI cR a σ) (pc) lv (.ref (ta a t) :: st) := aw_getf (q := 47 + t) (ci := 2) (j := 1) (T := TX2) (N := 9) C d (by omega) rfl (cv_tr ht) rfl hin (by decide) hlk rfl rfl k
theorem aw_gX2_doneIn (C : aC p s m args meth c D (cTys cI cZ cR cJ) A cc nL Ts own ret) (ht : t < 2) (d : decode cc pc = .ok (.getfield ix, 3)) (hin : ∀ w ∈ wsX20, w ∈ Ts) (hlk : Cond.fieldLink own ix "HutRings$Trade" "doneIn" "LHutRings$Row;" ∈ Ts) (k : aW p l e R s m args below meth c Q D A cells slots 49 a (cv cI cR a σ) (pc + 3) lv (.ref (ra a (dR t)) :: st)) : aW p l e R s m args below meth c Q D A cells slots 49 a (cv cI cR a σ) (pc) lv (.ref (ta a t) :: st) := aw_getf (q := 47 + t) (ci := 2) (j := 2) (T := TX2) (N := 9) C d (by omega) rfl (cv_tr ht) rfl hin (by decide) hlk rfl rfl k
theorem aw_gX2_ringSizes (C : aC p s m args meth c D (cTys cI cZ cR cJ) A cc nL Ts own ret) (ht : t < 2) (d : decode cc pc = .ok (.getfield ix, 3)) (hin : ∀ w ∈ wsX20, w ∈ Ts) (hlk : Cond.fieldLink own ix "HutRings$Trade" "ringSizes" "LHutRings$Row;" ∈ Ts) (k : aW p l e R s m args below meth c Q D A cells slots 49 a (cv cI cR a σ) (pc + 3) lv (.ref (ra a (zR t)) :: st)) : aW p l e R s m args below meth c Q D A cells slots 49 a (cv cI cR a σ) (pc) lv (.ref (ta a t) :: st) := aw_getf (q := 47 + t) (ci := 2) (j := 3) (T := TX2) (N := 9) C d (by omega) rfl (cv_tr ht) rfl hin (by decide) hlk rfl rfl k
theorem aw_gX2_aims (C : aC p s m args meth c D (cTys cI cZ cR cJ) A cc nL Ts own ret) (ht : t < 2) (d : decode cc pc = .ok (.getfield ix, 3)) (hin : ∀ w ∈ wsX20, w ∈ Ts) (hlk : Cond.fieldLink own ix "HutRings$Trade" "aims" "LHutRings$Row;" ∈ Ts) (k : aW p l e R s m args below meth c Q D A cells slots 49 a (cv cI cR a σ) (pc + 3) lv (.ref (ra a (mR t)) :: st)) : aW p l e R s m args below meth c Q D A cells slots 49 a (cv cI cR a σ) (pc) lv (.ref (ta a t) :: st) := aw_getf (q := 47 + t) (ci := 2) (j := 4) (T := TX2) (N := 9) C d (by omega) rfl (cv_tr ht) rfl hin (by decide) hlk rfl rfl k
theorem aw_gX2_feignedLikes (C : aC p s m args meth c D (cTys cI cZ cR cJ) A cc nL Ts own ret) (ht : t < 2) (d : decode cc pc = .ok (.getfield ix, 3)) (hin : ∀ w ∈ wsX20, w ∈ Ts) (hlk : Cond.fieldLink own ix "HutRings$Trade" "feignedLikes" "LHutRings$Row;" ∈ Ts) (k : aW p l e R s m args below meth c Q D A cells slots 49 a (cv cI cR a σ) (pc + 3) lv (.ref (ra a (fR t)) :: st)) : aW p l e R s m args below meth c Q D A cells slots 49 a (cv cI cR a σ) (pc) lv (.ref (ta a t) :: st) := aw_getf (q := 47 + t) (ci := 2) (j := 5) (T := TX2) (N := 9) C d (by omega) rfl (cv_tr ht) rfl hin (by decide) hlk rfl rfl k
theorem aw_gX2_feigner (C : aC p s m args meth c D (cTys cI cZ cR cJ) A cc nL Ts own ret) (ht : t < 2) (d : decode cc pc = .ok (.getfield ix, 3)) (hin : ∀ w ∈ wsX20, w ∈ Ts) (hlk : Cond.fieldLink own ix "HutRings$Trade" "feigner" "I" ∈ Ts) (k : aW p l e R s m args below meth c Q D A cells slots 49 a (cv cI cR a σ) (pc + 3) lv (.int (σ.2.2 (3 * t)) :: st)) : aW p l e R s m args below meth c Q D A cells slots 49 a (cv cI cR a σ) (pc) lv (.ref (ta a t) :: st) := aw_getf (q := 47 + t) (ci := 2) (j := 6) (T := TX2) (N := 9) C d (by omega) rfl (cv_tr ht) rfl hin (by decide) hlk rfl rfl k
theorem aw_gX2_rounds (C : aC p s m args meth c D (cTys cI cZ cR cJ) A cc nL Ts own ret) (ht : t < 2) (d : decode cc pc = .ok (.getfield ix, 3)) (hin : ∀ w ∈ wsX20, w ∈ Ts) (hlk : Cond.fieldLink own ix "HutRings$Trade" "rounds" "I" ∈ Ts) (k : aW p l e R s m args below meth c Q D A cells slots 49 a (cv cI cR a σ) (pc + 3) lv (.int (σ.2.2 (3 * t + 1)) :: st)) : aW p l e R s m args below meth c Q D A cells slots 49 a (cv cI cR a σ) (pc) lv (.ref (ta a t) :: st) := aw_getf (q := 47 + t) (ci := 2) (j := 7) (T := TX2) (N := 9) C d (by omega) rfl (cv_tr ht) rfl hin (by decide) hlk rfl rfl k
theorem aw_gX2_ringsOfMore (C : aC p s m args meth c D (cTys cI cZ cR cJ) A cc nL Ts own ret) (ht : t < 2) (d : decode cc pc = .ok (.getfield ix, 3)) (hin : ∀ w ∈ wsX20, w ∈ Ts) (hlk : Cond.fieldLink own ix "HutRings$Trade" "ringsOfMore" "I" ∈ Ts) (k : aW p l e R s m args below meth c Q D A cells slots 49 a (cv cI cR a σ) (pc + 3) lv (.int (σ.2.2 (3 * t + 2)) :: st)) : aW p l e R s m args below meth c Q D A cells slots 49 a (cv cI cR a σ) (pc) lv (.ref (ta a t) :: st) := aw_getf (q := 47 + t) (ci := 2) (j := 8) (T := TX2) (N := 9) C d (by omega) rfl (cv_tr ht) rfl hin (by decide) hlk rfl rfl k
theorem aw_gX3_land (C : aC p s m args meth c D (cTys cI cZ cR cJ) A cc nL Ts own ret)  (d : decode cc pc = .ok (.getfield ix, 3)) (hin : ∀ w ∈ wsX30, w ∈ Ts) (hlk : Cond.fieldLink own ix "HutRings" "land" "LHutRings$Land;" ∈ Ts) (k : aW p l e R s m args below meth c Q D A cells slots 49 a (cv cI cR a σ) (pc + 3) lv (.ref (a 45) :: st)) : aW p l e R s m args below meth c Q D A cells slots 49 a (cv cI cR a σ) (pc) lv (.ref (a 44) :: st) := aw_getf (q := 44) (ci := 3) (j := 0) (T := TX3) (N := 3) C d (by omega) rfl cv_hut rfl hin (by decide) hlk rfl rfl k
theorem aw_gX3_trade (C : aC p s m args meth c D (cTys cI cZ cR cJ) A cc nL Ts own ret)  (d : decode cc pc = .ok (.getfield ix, 3)) (hin : ∀ w ∈ wsX30, w ∈ Ts) (hlk : Cond.fieldLink own ix "HutRings" "trade" "LHutRings$Trade;" ∈ Ts) (k : aW p l e R s m args below meth c Q D A cells slots 49 a (cv cI cR a σ) (pc + 3) lv (.ref (ta a 0) :: st)) : aW p l e R s m args below meth c Q D A cells slots 49 a (cv cI cR a σ) (pc) lv (.ref (a 44) :: st) := aw_getf (q := 44) (ci := 3) (j := 1) (T := TX3) (N := 3) C d (by omega) rfl cv_hut rfl hin (by decide) hlk rfl rfl k
theorem aw_gX3_imagined (C : aC p s m args meth c D (cTys cI cZ cR cJ) A cc nL Ts own ret)  (d : decode cc pc = .ok (.getfield ix, 3)) (hin : ∀ w ∈ wsX30, w ∈ Ts) (hlk : Cond.fieldLink own ix "HutRings" "imagined" "LHutRings$Trade;" ∈ Ts) (k : aW p l e R s m args below meth c Q D A cells slots 49 a (cv cI cR a σ) (pc + 3) lv (.ref (ta a 1) :: st)) : aW p l e R s m args below meth c Q D A cells slots 49 a (cv cI cR a σ) (pc) lv (.ref (a 44) :: st) := aw_getf (q := 44) (ci := 3) (j := 2) (T := TX3) (N := 3) C d (by omega) rfl cv_hut rfl hin (by decide) hlk rfl rfl k
theorem aw_pX1_size (C : aC p s m args meth c D (cTys cI cZ cR cJ) A cc nL Ts own ret) (hj : j < 22) {x : Nat} (d : decode cc pc = .ok (.putfield ix, 3)) (hin : ∀ w ∈ wsX10, w ∈ Ts) (hlk : Cond.fieldLink own ix "HutRings$Row" "size" "I" ∈ Ts) (k : aW p l e R s m args below meth c Q D A cells slots 49 a (cv cI cR a (cs1 σ j x)) (pc + 3) lv (st)) : aW p l e R s m args below meth c Q D A cells slots 49 a (cv cI cR a σ) (pc) lv (.int (nI x) :: .ref (ra a j) :: st) := aw_putf (q := 2 * j) (ci := 1) (j := 1) (T := TX1) (N := 2) (ty0 := tyX1) C d (by omega) rfl (cv_row hj) rfl hin tyX1_ok nmX1 (by decide) hlk rfl rfl rfl rfl (Nat.le_of_ble_eq_true rfl) rfl (cv_s1 hj) k
theorem aw_pX2_feigner (C : aC p s m args meth c D (cTys cI cZ cR cJ) A cc nL Ts own ret) (ht : t < 2) {x : Int32} (d : decode cc pc = .ok (.putfield ix, 3)) (hin : ∀ w ∈ wsX20, w ∈ Ts) (hlk : Cond.fieldLink own ix "HutRings$Trade" "feigner" "I" ∈ Ts) (k : aW p l e R s m args below meth c Q D A cells slots 49 a (cv cI cR a (cs3 σ (3 * t) x)) (pc + 3) lv (st)) : aW p l e R s m args below meth c Q D A cells slots 49 a (cv cI cR a σ) (pc) lv (.int x :: .ref (ta a t) :: st) := aw_putf (q := 47 + t) (ci := 2) (j := 6) (T := TX2) (N := 9) (ty0 := tyX2) C d (by omega) rfl (cv_tr ht) rfl hin tyX2_ok nmX2 (by decide) hlk rfl rfl rfl rfl (Nat.le_of_ble_eq_true rfl) rfl (cv_s3_0 ht) k
theorem aw_pX2_rounds (C : aC p s m args meth c D (cTys cI cZ cR cJ) A cc nL Ts own ret) (ht : t < 2) {x : Int32} (d : decode cc pc = .ok (.putfield ix, 3)) (hin : ∀ w ∈ wsX20, w ∈ Ts) (hlk : Cond.fieldLink own ix "HutRings$Trade" "rounds" "I" ∈ Ts) (k : aW p l e R s m args below meth c Q D A cells slots 49 a (cv cI cR a (cs3 σ (3 * t + 1) x)) (pc + 3) lv (st)) : aW p l e R s m args below meth c Q D A cells slots 49 a (cv cI cR a σ) (pc) lv (.int x :: .ref (ta a t) :: st) := aw_putf (q := 47 + t) (ci := 2) (j := 7) (T := TX2) (N := 9) (ty0 := tyX2) C d (by omega) rfl (cv_tr ht) rfl hin tyX2_ok nmX2 (by decide) hlk rfl rfl rfl rfl (Nat.le_of_ble_eq_true rfl) rfl (cv_s3_1 ht) k
theorem aw_pX2_ringsOfMore (C : aC p s m args meth c D (cTys cI cZ cR cJ) A cc nL Ts own ret) (ht : t < 2) {x : Int32} (d : decode cc pc = .ok (.putfield ix, 3)) (hin : ∀ w ∈ wsX20, w ∈ Ts) (hlk : Cond.fieldLink own ix "HutRings$Trade" "ringsOfMore" "I" ∈ Ts) (k : aW p l e R s m args below meth c Q D A cells slots 49 a (cv cI cR a (cs3 σ (3 * t + 2) x)) (pc + 3) lv (st)) : aW p l e R s m args below meth c Q D A cells slots 49 a (cv cI cR a σ) (pc) lv (.int x :: .ref (ta a t) :: st) := aw_putf (q := 47 + t) (ci := 2) (j := 8) (T := TX2) (N := 9) (ty0 := tyX2) C d (by omega) rfl (cv_tr ht) rfl hin tyX2_ok nmX2 (by decide) hlk rfl rfl rfl rfl (Nat.le_of_ble_eq_true rfl) rfl (cv_s3_2 ht) k
theorem aw_alX1 (C : aC p s m args meth c D (cTys cI cZ cR cJ) A cc nL Ts own ret) (hj : j < 22) (d : decode cc pc = .ok (.arraylength, 1)) (k : aW p l e R s m args below meth c Q D A cells slots 49 a (cv cI cR a σ) (pc + 1) lv (.int (nI 10) :: st)) : aW p l e R s m args below meth c Q D A cells slots 49 a (cv cI cR a σ) (pc) lv (.ref (ca a j) :: st) := aw_alen (q := 2 * j + 1) (t0 := 0) C d (by omega) rfl (cv_cel hj) rfl rfl k
theorem aw_alX0 (C : aC p s m args meth c D (cTys cI cZ cR cJ) A cc nL Ts own ret) (d : decode cc pc = .ok (.arraylength, 1)) (k : aW p l e R s m args below meth c Q D A cells slots 49 a (cv cI cR a σ) (pc + 1) lv (.int (nI 10) :: st)) : aW p l e R s m args below meth c Q D A cells slots 49 a (cv cI cR a σ) (pc) lv (.ref (a 46) :: st) := aw_alen (q := 46) (t0 := 2) C d (by omega) rfl cv_lik rfl rfl k
theorem aw_ilX1 (C : aC p s m args meth c D (cTys cI cZ cR cJ) A cc nL Ts own ret) (hj : j < 22) {x : Int32} (d : decode cc pc = .ok (.iaload, 1)) (hi : vp_in x 10) (k : aW p l e R s m args below meth c Q D A cells slots 49 a (cv cI cR a σ) (pc + 1) lv (.int (σ.2.1 j x.toNatClampNeg) :: st)) : aW p l e R s m args below meth c Q D A cells slots 49 a (cv cI cR a σ) (pc) lv (.int x :: .ref (ca a j) :: st) := aw_iald (q := 2 * j + 1) (t0 := 0) C d (by omega) rfl (cv_cel hj) rfl hi k
theorem aw_isX1 (C : aC p s m args meth c D (cTys cI cZ cR cJ) A cc nL Ts own ret) (hj : j < 22) {x y : Int32} (d : decode cc pc = .ok (.iastore, 1)) (hi : vp_in x 10) (k : aW p l e R s m args below meth c Q D A cells slots 49 a (cv cI cR a (cs2 σ j x.toNatClampNeg y)) (pc + 1) lv (st)) : aW p l e R s m args below meth c Q D A cells slots 49 a (cv cI cR a σ) (pc) lv (.int y :: .int x :: .ref (ca a j) :: st) := aw_iast (q := 2 * j + 1) (t0 := 0) C d (by omega) rfl (cv_cel hj) rfl hi (cv_s2 hj) k
theorem aw_ilX1n (C : aC p s m args meth c D (cTys cI cZ cR cJ) A cc nL Ts own ret) (hj : j < 22) {i : Nat} (d : decode cc pc = .ok (.iaload, 1)) (hi : i < 10) (k : aW p l e R s m args below meth c Q D A cells slots 49 a (cv cI cR a σ) (pc + 1) lv (.int (σ.2.1 j i) :: st)) : aW p l e R s m args below meth c Q D A cells slots 49 a (cv cI cR a σ) (pc) lv (.int (nI i) :: .ref (ca a j) :: st) := aw_ilX1 C hj d (vp_in_nI hi (by omega)) (by rw [nI_clamp (by omega)]; exact k)
theorem aw_isX1n (C : aC p s m args meth c D (cTys cI cZ cR cJ) A cc nL Ts own ret) (hj : j < 22) {i : Nat} {y : Int32} (d : decode cc pc = .ok (.iastore, 1)) (hi : i < 10) (k : aW p l e R s m args below meth c Q D A cells slots 49 a (cv cI cR a (cs2 σ j i y)) (pc + 1) lv (st)) : aW p l e R s m args below meth c Q D A cells slots 49 a (cv cI cR a σ) (pc) lv (.int y :: .int (nI i) :: .ref (ca a j) :: st) := aw_isX1 C hj d (vp_in_nI hi (by omega)) (by rw [nI_clamp (by omega)]; exact k)
theorem aw_aaX0 (C : aC p s m args meth c D (cTys cI cZ cR cJ) A cc nL Ts own ret) {i : Nat} (hi : i < 10) (d : decode cc pc = .ok (.aaload, 1)) (k : aW p l e R s m args below meth c Q D A cells slots 49 a (cv cI cR a σ) (pc + 1) lv (.ref (ra a (kR i)) :: st)) : aW p l e R s m args below meth c Q D A cells slots 49 a (cv cI cR a σ) (pc) lv (.int (nI i) :: .ref (a 46) :: st) := aw_aald (q := 46) (t0 := 2) C d (by omega) rfl cv_lik rfl (vp_in_nI hi (by omega)) (by rw [nI_clamp (by omega), if_pos hi]; exact k)
end CVR
/-! THE REFERENCE'S WORLD: the object at b 0, its arrays at b 1 .. b 8 -/
abbrev MS : Type := (Nat → Int32) × (Nat → Nat → Int32)
def mLen (k : Nat) : Nat := if k = 3 then 100 else 10
def mv (cI cZ : ClassId) (b : Nat → Nat) (τ : MS) : Nat → va_E := fun k =>
  if k = 0 then .inr (4, [.int (τ.1 0), .int (τ.1 1), .ref (b 1), .ref (b 2), .ref (b 3), .ref (b 4), .ref (b 5), .ref (b 6), .ref (b 7), .ref (b 8), .int (τ.1 10), .int (τ.1 11), .int (τ.1 12), .int (τ.1 13), .int (τ.1 14), .int (τ.1 15)])
  else .inl (if k = 8 then cZ else cI, mLen k, .inl (τ.2 k))
def ms1 (τ : MS) (i : Nat) (x : Int32) : MS := (upd τ.1 i x, τ.2)
def ms2 (τ : MS) (k i : Nat) (x : Int32) : MS := (τ.1, fun q => if q = k then upd (τ.2 k) i x else τ.2 q)
section MVT
variable {cI cZ : ClassId} {b : Nat → Nat} {τ : MS} {i : Nat} {x : Int32}
theorem mv_o : mv cI cZ b τ 0 = .inr (4, [.int (τ.1 0), .int (τ.1 1), .ref (b 1), .ref (b 2), .ref (b 3), .ref (b 4), .ref (b 5), .ref (b 6), .ref (b 7), .ref (b 8), .int (τ.1 10), .int (τ.1 11), .int (τ.1 12), .int (τ.1 13), .int (τ.1 14), .int (τ.1 15)]) := rfl
theorem mv_s2 {k : Nat} (hk : k ≠ 0) : wset (mv cI cZ b τ) k (.inl (if k = 8 then cZ else cI, mLen k, .inl (upd (τ.2 k) i x))) = mv cI cZ b (ms2 τ k i x) := by
  funext q
  by_cases e : q = k
  · subst e
    simp [wset, mv, ms2, hk]
  · by_cases h : q = 0
    · simp [wset, mv, ms2, h, Ne.symm hk]
    · simp [wset, mv, ms2, e, h]
theorem mv_s1_0 : wset (mv cI cZ b τ) 0 (.inr (4, [.int x, .int (τ.1 1), .ref (b 1), .ref (b 2), .ref (b 3), .ref (b 4), .ref (b 5), .ref (b 6), .ref (b 7), .ref (b 8), .int (τ.1 10), .int (τ.1 11), .int (τ.1 12), .int (τ.1 13), .int (τ.1 14), .int (τ.1 15)])) = mv cI cZ b (ms1 τ 0 x) := by
  funext q
  by_cases e : q = 0
  · subst e
    simp [wset, mv, ms1, upd]
  · simp [wset, mv, ms1, e]
theorem mv_s1_1 : wset (mv cI cZ b τ) 0 (.inr (4, [.int (τ.1 0), .int x, .ref (b 1), .ref (b 2), .ref (b 3), .ref (b 4), .ref (b 5), .ref (b 6), .ref (b 7), .ref (b 8), .int (τ.1 10), .int (τ.1 11), .int (τ.1 12), .int (τ.1 13), .int (τ.1 14), .int (τ.1 15)])) = mv cI cZ b (ms1 τ 1 x) := by
  funext q
  by_cases e : q = 0
  · subst e
    simp [wset, mv, ms1, upd]
  · simp [wset, mv, ms1, e]
theorem mv_s1_10 : wset (mv cI cZ b τ) 0 (.inr (4, [.int (τ.1 0), .int (τ.1 1), .ref (b 1), .ref (b 2), .ref (b 3), .ref (b 4), .ref (b 5), .ref (b 6), .ref (b 7), .ref (b 8), .int x, .int (τ.1 11), .int (τ.1 12), .int (τ.1 13), .int (τ.1 14), .int (τ.1 15)])) = mv cI cZ b (ms1 τ 10 x) := by
  funext q
  by_cases e : q = 0
  · subst e
    simp [wset, mv, ms1, upd]
  · simp [wset, mv, ms1, e]
theorem mv_s1_11 : wset (mv cI cZ b τ) 0 (.inr (4, [.int (τ.1 0), .int (τ.1 1), .ref (b 1), .ref (b 2), .ref (b 3), .ref (b 4), .ref (b 5), .ref (b 6), .ref (b 7), .ref (b 8), .int (τ.1 10), .int x, .int (τ.1 12), .int (τ.1 13), .int (τ.1 14), .int (τ.1 15)])) = mv cI cZ b (ms1 τ 11 x) := by
  funext q
  by_cases e : q = 0
  · subst e
    simp [wset, mv, ms1, upd]
  · simp [wset, mv, ms1, e]
theorem mv_s1_12 : wset (mv cI cZ b τ) 0 (.inr (4, [.int (τ.1 0), .int (τ.1 1), .ref (b 1), .ref (b 2), .ref (b 3), .ref (b 4), .ref (b 5), .ref (b 6), .ref (b 7), .ref (b 8), .int (τ.1 10), .int (τ.1 11), .int x, .int (τ.1 13), .int (τ.1 14), .int (τ.1 15)])) = mv cI cZ b (ms1 τ 12 x) := by
  funext q
  by_cases e : q = 0
  · subst e
    simp [wset, mv, ms1, upd]
  · simp [wset, mv, ms1, e]
theorem mv_s1_13 : wset (mv cI cZ b τ) 0 (.inr (4, [.int (τ.1 0), .int (τ.1 1), .ref (b 1), .ref (b 2), .ref (b 3), .ref (b 4), .ref (b 5), .ref (b 6), .ref (b 7), .ref (b 8), .int (τ.1 10), .int (τ.1 11), .int (τ.1 12), .int x, .int (τ.1 14), .int (τ.1 15)])) = mv cI cZ b (ms1 τ 13 x) := by
  funext q
  by_cases e : q = 0
  · subst e
    simp [wset, mv, ms1, upd]
  · simp [wset, mv, ms1, e]
theorem mv_s1_14 : wset (mv cI cZ b τ) 0 (.inr (4, [.int (τ.1 0), .int (τ.1 1), .ref (b 1), .ref (b 2), .ref (b 3), .ref (b 4), .ref (b 5), .ref (b 6), .ref (b 7), .ref (b 8), .int (τ.1 10), .int (τ.1 11), .int (τ.1 12), .int (τ.1 13), .int x, .int (τ.1 15)])) = mv cI cZ b (ms1 τ 14 x) := by
  funext q
  by_cases e : q = 0
  · subst e
    simp [wset, mv, ms1, upd]
  · simp [wset, mv, ms1, e]
theorem mv_s1_15 : wset (mv cI cZ b τ) 0 (.inr (4, [.int (τ.1 0), .int (τ.1 1), .ref (b 1), .ref (b 2), .ref (b 3), .ref (b 4), .ref (b 5), .ref (b 6), .ref (b 7), .ref (b 8), .int (τ.1 10), .int (τ.1 11), .int (τ.1 12), .int (τ.1 13), .int (τ.1 14), .int x])) = mv cI cZ b (ms1 τ 15 x) := by
  funext q
  by_cases e : q = 0
  · subst e
    simp [wset, mv, ms1, upd]
  · simp [wset, mv, ms1, e]
end MVT
section MVR
variable {p : Program} {l : Launch} {e : Env} {R : Room} {s : State} {m : MethodId} {args : Array Value} {below : List Frame} {meth : Method} {c : Code} {Q : State → Prop} {D : va_G} {A : Nat → Prop} {cells slots nL pc ix : Nat} {b : Nat → Nat} {τ : MS} {lv : List (Option Value)} {st : List Value} {cc : ByteArray} {Ts : List Cond} {own : String} {ret : Option FieldType} {cI cZ cR cJ : ClassId}
theorem recMod : aRec 9 b (mv cI cZ b τ) (b 0) RX4 := ⟨0, 4, _, TX4, 16, by omega, rfl, mv_o, rfl⟩
theorem aw_gX4_thrown (C : aC p s m args meth c D (cTys cI cZ cR cJ) A cc nL Ts own ret) (d : decode cc pc = .ok (.getfield ix, 3)) (hin : ∀ w ∈ wsX40, w ∈ Ts) (hlk : Cond.fieldLink own ix "HutRingsModel" "thrown" "I" ∈ Ts) (k : aW p l e R s m args below meth c Q D A cells slots 9 b (mv cI cZ b τ) (pc + 3) lv (.int (τ.1 0) :: st)) : aW p l e R s m args below meth c Q D A cells slots 9 b (mv cI cZ b τ) (pc) lv (.ref (b 0) :: st) := aw_getf (q := 0) (ci := 4) (j := 0) (T := TX4) (N := 16) C d (by omega) rfl mv_o rfl hin (by decide) hlk rfl rfl k
theorem aw_pX4_thrown (C : aC p s m args meth c D (cTys cI cZ cR cJ) A cc nL Ts own ret) {x : Int32} (d : decode cc pc = .ok (.putfield ix, 3)) (hin : ∀ w ∈ wsX40, w ∈ Ts) (hlk : Cond.fieldLink own ix "HutRingsModel" "thrown" "I" ∈ Ts) (k : aW p l e R s m args below meth c Q D A cells slots 9 b (mv cI cZ b (ms1 τ 0 x)) (pc + 3) lv (st)) : aW p l e R s m args below meth c Q D A cells slots 9 b (mv cI cZ b τ) (pc) lv (.int x :: .ref (b 0) :: st) := aw_putf (q := 0) (ci := 4) (j := 0) (T := TX4) (N := 16) (ty0 := tyX4) C d (by omega) rfl mv_o rfl hin tyX4_ok nmX4 (by decide) hlk rfl rfl rfl rfl (Nat.le_of_ble_eq_true rfl) rfl mv_s1_0 k
theorem aw_gX4_keepers (C : aC p s m args meth c D (cTys cI cZ cR cJ) A cc nL Ts own ret) (d : decode cc pc = .ok (.getfield ix, 3)) (hin : ∀ w ∈ wsX40, w ∈ Ts) (hlk : Cond.fieldLink own ix "HutRingsModel" "keepers" "I" ∈ Ts) (k : aW p l e R s m args below meth c Q D A cells slots 9 b (mv cI cZ b τ) (pc + 3) lv (.int (τ.1 1) :: st)) : aW p l e R s m args below meth c Q D A cells slots 9 b (mv cI cZ b τ) (pc) lv (.ref (b 0) :: st) := aw_getf (q := 0) (ci := 4) (j := 1) (T := TX4) (N := 16) C d (by omega) rfl mv_o rfl hin (by decide) hlk rfl rfl k
theorem aw_pX4_keepers (C : aC p s m args meth c D (cTys cI cZ cR cJ) A cc nL Ts own ret) {x : Int32} (d : decode cc pc = .ok (.putfield ix, 3)) (hin : ∀ w ∈ wsX40, w ∈ Ts) (hlk : Cond.fieldLink own ix "HutRingsModel" "keepers" "I" ∈ Ts) (k : aW p l e R s m args below meth c Q D A cells slots 9 b (mv cI cZ b (ms1 τ 1 x)) (pc + 3) lv (st)) : aW p l e R s m args below meth c Q D A cells slots 9 b (mv cI cZ b τ) (pc) lv (.int x :: .ref (b 0) :: st) := aw_putf (q := 0) (ci := 4) (j := 1) (T := TX4) (N := 16) (ty0 := tyX4) C d (by omega) rfl mv_o rfl hin tyX4_ok nmX4 (by decide) hlk rfl rfl rfl rfl (Nat.le_of_ble_eq_true rfl) rfl mv_s1_1 k
theorem aw_gX4_has (C : aC p s m args meth c D (cTys cI cZ cR cJ) A cc nL Ts own ret) (d : decode cc pc = .ok (.getfield ix, 3)) (hin : ∀ w ∈ wsX40, w ∈ Ts) (hlk : Cond.fieldLink own ix "HutRingsModel" "has" "[I" ∈ Ts) (k : aW p l e R s m args below meth c Q D A cells slots 9 b (mv cI cZ b τ) (pc + 3) lv (.ref (b 1) :: st)) : aW p l e R s m args below meth c Q D A cells slots 9 b (mv cI cZ b τ) (pc) lv (.ref (b 0) :: st) := aw_getf (q := 0) (ci := 4) (j := 2) (T := TX4) (N := 16) C d (by omega) rfl mv_o rfl hin (by decide) hlk rfl rfl k
theorem aw_gX4_longs (C : aC p s m args meth c D (cTys cI cZ cR cJ) A cc nL Ts own ret) (d : decode cc pc = .ok (.getfield ix, 3)) (hin : ∀ w ∈ wsX40, w ∈ Ts) (hlk : Cond.fieldLink own ix "HutRingsModel" "longs" "[I" ∈ Ts) (k : aW p l e R s m args below meth c Q D A cells slots 9 b (mv cI cZ b τ) (pc + 3) lv (.ref (b 2) :: st)) : aW p l e R s m args below meth c Q D A cells slots 9 b (mv cI cZ b τ) (pc) lv (.ref (b 0) :: st) := aw_getf (q := 0) (ci := 4) (j := 3) (T := TX4) (N := 16) C d (by omega) rfl mv_o rfl hin (by decide) hlk rfl rfl k
theorem aw_gX4_lists (C : aC p s m args meth c D (cTys cI cZ cR cJ) A cc nL Ts own ret) (d : decode cc pc = .ok (.getfield ix, 3)) (hin : ∀ w ∈ wsX40, w ∈ Ts) (hlk : Cond.fieldLink own ix "HutRingsModel" "lists" "[I" ∈ Ts) (k : aW p l e R s m args below meth c Q D A cells slots 9 b (mv cI cZ b τ) (pc + 3) lv (.ref (b 3) :: st)) : aW p l e R s m args below meth c Q D A cells slots 9 b (mv cI cZ b τ) (pc) lv (.ref (b 0) :: st) := aw_getf (q := 0) (ci := 4) (j := 4) (T := TX4) (N := 16) C d (by omega) rfl mv_o rfl hin (by decide) hlk rfl rfl k
theorem aw_gX4_gets (C : aC p s m args meth c D (cTys cI cZ cR cJ) A cc nL Ts own ret) (d : decode cc pc = .ok (.getfield ix, 3)) (hin : ∀ w ∈ wsX40, w ∈ Ts) (hlk : Cond.fieldLink own ix "HutRingsModel" "gets" "[I" ∈ Ts) (k : aW p l e R s m args below meth c Q D A cells slots 9 b (mv cI cZ b τ) (pc + 3) lv (.ref (b 4) :: st)) : aW p l e R s m args below meth c Q D A cells slots 9 b (mv cI cZ b τ) (pc) lv (.ref (b 0) :: st) := aw_getf (q := 0) (ci := 4) (j := 5) (T := TX4) (N := 16) C d (by omega) rfl mv_o rfl hin (by decide) hlk rfl rfl k
theorem aw_gX4_rounds (C : aC p s m args meth c D (cTys cI cZ cR cJ) A cc nL Ts own ret) (d : decode cc pc = .ok (.getfield ix, 3)) (hin : ∀ w ∈ wsX40, w ∈ Ts) (hlk : Cond.fieldLink own ix "HutRingsModel" "rounds" "[I" ∈ Ts) (k : aW p l e R s m args below meth c Q D A cells slots 9 b (mv cI cZ b τ) (pc + 3) lv (.ref (b 5) :: st)) : aW p l e R s m args below meth c Q D A cells slots 9 b (mv cI cZ b τ) (pc) lv (.ref (b 0) :: st) := aw_getf (q := 0) (ci := 4) (j := 6) (T := TX4) (N := 16) C d (by omega) rfl mv_o rfl hin (by decide) hlk rfl rfl k
theorem aw_gX4_ring (C : aC p s m args meth c D (cTys cI cZ cR cJ) A cc nL Ts own ret) (d : decode cc pc = .ok (.getfield ix, 3)) (hin : ∀ w ∈ wsX40, w ∈ Ts) (hlk : Cond.fieldLink own ix "HutRingsModel" "ring" "[I" ∈ Ts) (k : aW p l e R s m args below meth c Q D A cells slots 9 b (mv cI cZ b τ) (pc + 3) lv (.ref (b 6) :: st)) : aW p l e R s m args below meth c Q D A cells slots 9 b (mv cI cZ b τ) (pc) lv (.ref (b 0) :: st) := aw_getf (q := 0) (ci := 4) (j := 7) (T := TX4) (N := 16) C d (by omega) rfl mv_o rfl hin (by decide) hlk rfl rfl k
theorem aw_gX4_aims (C : aC p s m args meth c D (cTys cI cZ cR cJ) A cc nL Ts own ret) (d : decode cc pc = .ok (.getfield ix, 3)) (hin : ∀ w ∈ wsX40, w ∈ Ts) (hlk : Cond.fieldLink own ix "HutRingsModel" "aims" "[I" ∈ Ts) (k : aW p l e R s m args below meth c Q D A cells slots 9 b (mv cI cZ b τ) (pc + 3) lv (.ref (b 7) :: st)) : aW p l e R s m args below meth c Q D A cells slots 9 b (mv cI cZ b τ) (pc) lv (.ref (b 0) :: st) := aw_getf (q := 0) (ci := 4) (j := 8) (T := TX4) (N := 16) C d (by omega) rfl mv_o rfl hin (by decide) hlk rfl rfl k
theorem aw_gX4_there (C : aC p s m args meth c D (cTys cI cZ cR cJ) A cc nL Ts own ret) (d : decode cc pc = .ok (.getfield ix, 3)) (hin : ∀ w ∈ wsX40, w ∈ Ts) (hlk : Cond.fieldLink own ix "HutRingsModel" "there" "[Z" ∈ Ts) (k : aW p l e R s m args below meth c Q D A cells slots 9 b (mv cI cZ b τ) (pc + 3) lv (.ref (b 8) :: st)) : aW p l e R s m args below meth c Q D A cells slots 9 b (mv cI cZ b τ) (pc) lv (.ref (b 0) :: st) := aw_getf (q := 0) (ci := 4) (j := 9) (T := TX4) (N := 16) C d (by omega) rfl mv_o rfl hin (by decide) hlk rfl rfl k
theorem aw_gX4_last (C : aC p s m args meth c D (cTys cI cZ cR cJ) A cc nL Ts own ret) (d : decode cc pc = .ok (.getfield ix, 3)) (hin : ∀ w ∈ wsX40, w ∈ Ts) (hlk : Cond.fieldLink own ix "HutRingsModel" "last" "I" ∈ Ts) (k : aW p l e R s m args below meth c Q D A cells slots 9 b (mv cI cZ b τ) (pc + 3) lv (.int (τ.1 10) :: st)) : aW p l e R s m args below meth c Q D A cells slots 9 b (mv cI cZ b τ) (pc) lv (.ref (b 0) :: st) := aw_getf (q := 0) (ci := 4) (j := 10) (T := TX4) (N := 16) C d (by omega) rfl mv_o rfl hin (by decide) hlk rfl rfl k
theorem aw_pX4_last (C : aC p s m args meth c D (cTys cI cZ cR cJ) A cc nL Ts own ret) {x : Int32} (d : decode cc pc = .ok (.putfield ix, 3)) (hin : ∀ w ∈ wsX40, w ∈ Ts) (hlk : Cond.fieldLink own ix "HutRingsModel" "last" "I" ∈ Ts) (k : aW p l e R s m args below meth c Q D A cells slots 9 b (mv cI cZ b (ms1 τ 10 x)) (pc + 3) lv (st)) : aW p l e R s m args below meth c Q D A cells slots 9 b (mv cI cZ b τ) (pc) lv (.int x :: .ref (b 0) :: st) := aw_putf (q := 0) (ci := 4) (j := 10) (T := TX4) (N := 16) (ty0 := tyX4) C d (by omega) rfl mv_o rfl hin tyX4_ok nmX4 (by decide) hlk rfl rfl rfl rfl (Nat.le_of_ble_eq_true rfl) rfl mv_s1_10 k
theorem aw_gX4_rings (C : aC p s m args meth c D (cTys cI cZ cR cJ) A cc nL Ts own ret) (d : decode cc pc = .ok (.getfield ix, 3)) (hin : ∀ w ∈ wsX40, w ∈ Ts) (hlk : Cond.fieldLink own ix "HutRingsModel" "rings" "I" ∈ Ts) (k : aW p l e R s m args below meth c Q D A cells slots 9 b (mv cI cZ b τ) (pc + 3) lv (.int (τ.1 11) :: st)) : aW p l e R s m args below meth c Q D A cells slots 9 b (mv cI cZ b τ) (pc) lv (.ref (b 0) :: st) := aw_getf (q := 0) (ci := 4) (j := 11) (T := TX4) (N := 16) C d (by omega) rfl mv_o rfl hin (by decide) hlk rfl rfl k
theorem aw_pX4_rings (C : aC p s m args meth c D (cTys cI cZ cR cJ) A cc nL Ts own ret) {x : Int32} (d : decode cc pc = .ok (.putfield ix, 3)) (hin : ∀ w ∈ wsX40, w ∈ Ts) (hlk : Cond.fieldLink own ix "HutRingsModel" "rings" "I" ∈ Ts) (k : aW p l e R s m args below meth c Q D A cells slots 9 b (mv cI cZ b (ms1 τ 11 x)) (pc + 3) lv (st)) : aW p l e R s m args below meth c Q D A cells slots 9 b (mv cI cZ b τ) (pc) lv (.int x :: .ref (b 0) :: st) := aw_putf (q := 0) (ci := 4) (j := 11) (T := TX4) (N := 16) (ty0 := tyX4) C d (by omega) rfl mv_o rfl hin tyX4_ok nmX4 (by decide) hlk rfl rfl rfl rfl (Nat.le_of_ble_eq_true rfl) rfl mv_s1_11 k
theorem aw_gX4_greatest (C : aC p s m args meth c D (cTys cI cZ cR cJ) A cc nL Ts own ret) (d : decode cc pc = .ok (.getfield ix, 3)) (hin : ∀ w ∈ wsX40, w ∈ Ts) (hlk : Cond.fieldLink own ix "HutRingsModel" "greatest" "I" ∈ Ts) (k : aW p l e R s m args below meth c Q D A cells slots 9 b (mv cI cZ b τ) (pc + 3) lv (.int (τ.1 12) :: st)) : aW p l e R s m args below meth c Q D A cells slots 9 b (mv cI cZ b τ) (pc) lv (.ref (b 0) :: st) := aw_getf (q := 0) (ci := 4) (j := 12) (T := TX4) (N := 16) C d (by omega) rfl mv_o rfl hin (by decide) hlk rfl rfl k
theorem aw_pX4_greatest (C : aC p s m args meth c D (cTys cI cZ cR cJ) A cc nL Ts own ret) {x : Int32} (d : decode cc pc = .ok (.putfield ix, 3)) (hin : ∀ w ∈ wsX40, w ∈ Ts) (hlk : Cond.fieldLink own ix "HutRingsModel" "greatest" "I" ∈ Ts) (k : aW p l e R s m args below meth c Q D A cells slots 9 b (mv cI cZ b (ms1 τ 12 x)) (pc + 3) lv (st)) : aW p l e R s m args below meth c Q D A cells slots 9 b (mv cI cZ b τ) (pc) lv (.int x :: .ref (b 0) :: st) := aw_putf (q := 0) (ci := 4) (j := 12) (T := TX4) (N := 16) (ty0 := tyX4) C d (by omega) rfl mv_o rfl hin tyX4_ok nmX4 (by decide) hlk rfl rfl rfl rfl (Nat.le_of_ble_eq_true rfl) rfl mv_s1_12 k
theorem aw_gX4_gone (C : aC p s m args meth c D (cTys cI cZ cR cJ) A cc nL Ts own ret) (d : decode cc pc = .ok (.getfield ix, 3)) (hin : ∀ w ∈ wsX40, w ∈ Ts) (hlk : Cond.fieldLink own ix "HutRingsModel" "gone" "I" ∈ Ts) (k : aW p l e R s m args below meth c Q D A cells slots 9 b (mv cI cZ b τ) (pc + 3) lv (.int (τ.1 13) :: st)) : aW p l e R s m args below meth c Q D A cells slots 9 b (mv cI cZ b τ) (pc) lv (.ref (b 0) :: st) := aw_getf (q := 0) (ci := 4) (j := 13) (T := TX4) (N := 16) C d (by omega) rfl mv_o rfl hin (by decide) hlk rfl rfl k
theorem aw_pX4_gone (C : aC p s m args meth c D (cTys cI cZ cR cJ) A cc nL Ts own ret) {x : Int32} (d : decode cc pc = .ok (.putfield ix, 3)) (hin : ∀ w ∈ wsX40, w ∈ Ts) (hlk : Cond.fieldLink own ix "HutRingsModel" "gone" "I" ∈ Ts) (k : aW p l e R s m args below meth c Q D A cells slots 9 b (mv cI cZ b (ms1 τ 13 x)) (pc + 3) lv (st)) : aW p l e R s m args below meth c Q D A cells slots 9 b (mv cI cZ b τ) (pc) lv (.int x :: .ref (b 0) :: st) := aw_putf (q := 0) (ci := 4) (j := 13) (T := TX4) (N := 16) (ty0 := tyX4) C d (by omega) rfl mv_o rfl hin tyX4_ok nmX4 (by decide) hlk rfl rfl rfl rfl (Nat.le_of_ble_eq_true rfl) rfl mv_s1_13 k
theorem aw_gX4_feigner (C : aC p s m args meth c D (cTys cI cZ cR cJ) A cc nL Ts own ret) (d : decode cc pc = .ok (.getfield ix, 3)) (hin : ∀ w ∈ wsX40, w ∈ Ts) (hlk : Cond.fieldLink own ix "HutRingsModel" "feigner" "I" ∈ Ts) (k : aW p l e R s m args below meth c Q D A cells slots 9 b (mv cI cZ b τ) (pc + 3) lv (.int (τ.1 14) :: st)) : aW p l e R s m args below meth c Q D A cells slots 9 b (mv cI cZ b τ) (pc) lv (.ref (b 0) :: st) := aw_getf (q := 0) (ci := 4) (j := 14) (T := TX4) (N := 16) C d (by omega) rfl mv_o rfl hin (by decide) hlk rfl rfl k
theorem aw_pX4_feigner (C : aC p s m args meth c D (cTys cI cZ cR cJ) A cc nL Ts own ret) {x : Int32} (d : decode cc pc = .ok (.putfield ix, 3)) (hin : ∀ w ∈ wsX40, w ∈ Ts) (hlk : Cond.fieldLink own ix "HutRingsModel" "feigner" "I" ∈ Ts) (k : aW p l e R s m args below meth c Q D A cells slots 9 b (mv cI cZ b (ms1 τ 14 x)) (pc + 3) lv (st)) : aW p l e R s m args below meth c Q D A cells slots 9 b (mv cI cZ b τ) (pc) lv (.int x :: .ref (b 0) :: st) := aw_putf (q := 0) (ci := 4) (j := 14) (T := TX4) (N := 16) (ty0 := tyX4) C d (by omega) rfl mv_o rfl hin tyX4_ok nmX4 (by decide) hlk rfl rfl rfl rfl (Nat.le_of_ble_eq_true rfl) rfl mv_s1_14 k
theorem aw_gX4_feigned (C : aC p s m args meth c D (cTys cI cZ cR cJ) A cc nL Ts own ret) (d : decode cc pc = .ok (.getfield ix, 3)) (hin : ∀ w ∈ wsX40, w ∈ Ts) (hlk : Cond.fieldLink own ix "HutRingsModel" "feigned" "I" ∈ Ts) (k : aW p l e R s m args below meth c Q D A cells slots 9 b (mv cI cZ b τ) (pc + 3) lv (.int (τ.1 15) :: st)) : aW p l e R s m args below meth c Q D A cells slots 9 b (mv cI cZ b τ) (pc) lv (.ref (b 0) :: st) := aw_getf (q := 0) (ci := 4) (j := 15) (T := TX4) (N := 16) C d (by omega) rfl mv_o rfl hin (by decide) hlk rfl rfl k
theorem aw_pX4_feigned (C : aC p s m args meth c D (cTys cI cZ cR cJ) A cc nL Ts own ret) {x : Int32} (d : decode cc pc = .ok (.putfield ix, 3)) (hin : ∀ w ∈ wsX40, w ∈ Ts) (hlk : Cond.fieldLink own ix "HutRingsModel" "feigned" "I" ∈ Ts) (k : aW p l e R s m args below meth c Q D A cells slots 9 b (mv cI cZ b (ms1 τ 15 x)) (pc + 3) lv (st)) : aW p l e R s m args below meth c Q D A cells slots 9 b (mv cI cZ b τ) (pc) lv (.int x :: .ref (b 0) :: st) := aw_putf (q := 0) (ci := 4) (j := 15) (T := TX4) (N := 16) (ty0 := tyX4) C d (by omega) rfl mv_o rfl hin tyX4_ok nmX4 (by decide) hlk rfl rfl rfl rfl (Nat.le_of_ble_eq_true rfl) rfl mv_s1_15 k
theorem aw_ilX4_1 (C : aC p s m args meth c D (cTys cI cZ cR cJ) A cc nL Ts own ret) {x : Int32} (d : decode cc pc = .ok (.iaload, 1)) (hi : vp_in x 10) (k : aW p l e R s m args below meth c Q D A cells slots 9 b (mv cI cZ b τ) (pc + 1) lv (.int (τ.2 1 x.toNatClampNeg) :: st)) : aW p l e R s m args below meth c Q D A cells slots 9 b (mv cI cZ b τ) (pc) lv (.int x :: .ref (b 1) :: st) := aw_iald (q := 1) (t0 := 0) C d (by omega) rfl rfl rfl hi k
theorem aw_isX4_1 (C : aC p s m args meth c D (cTys cI cZ cR cJ) A cc nL Ts own ret) {x y : Int32} (d : decode cc pc = .ok (.iastore, 1)) (hi : vp_in x 10) (k : aW p l e R s m args below meth c Q D A cells slots 9 b (mv cI cZ b (ms2 τ 1 x.toNatClampNeg y)) (pc + 1) lv (st)) : aW p l e R s m args below meth c Q D A cells slots 9 b (mv cI cZ b τ) (pc) lv (.int y :: .int x :: .ref (b 1) :: st) := aw_iast (q := 1) (t0 := 0) C d (by omega) rfl rfl rfl hi (mv_s2 (k := 1) (by decide)) k
theorem aw_ilX4_2 (C : aC p s m args meth c D (cTys cI cZ cR cJ) A cc nL Ts own ret) {x : Int32} (d : decode cc pc = .ok (.iaload, 1)) (hi : vp_in x 10) (k : aW p l e R s m args below meth c Q D A cells slots 9 b (mv cI cZ b τ) (pc + 1) lv (.int (τ.2 2 x.toNatClampNeg) :: st)) : aW p l e R s m args below meth c Q D A cells slots 9 b (mv cI cZ b τ) (pc) lv (.int x :: .ref (b 2) :: st) := aw_iald (q := 2) (t0 := 0) C d (by omega) rfl rfl rfl hi k
theorem aw_isX4_2 (C : aC p s m args meth c D (cTys cI cZ cR cJ) A cc nL Ts own ret) {x y : Int32} (d : decode cc pc = .ok (.iastore, 1)) (hi : vp_in x 10) (k : aW p l e R s m args below meth c Q D A cells slots 9 b (mv cI cZ b (ms2 τ 2 x.toNatClampNeg y)) (pc + 1) lv (st)) : aW p l e R s m args below meth c Q D A cells slots 9 b (mv cI cZ b τ) (pc) lv (.int y :: .int x :: .ref (b 2) :: st) := aw_iast (q := 2) (t0 := 0) C d (by omega) rfl rfl rfl hi (mv_s2 (k := 2) (by decide)) k
theorem aw_ilX4_3 (C : aC p s m args meth c D (cTys cI cZ cR cJ) A cc nL Ts own ret) {x : Int32} (d : decode cc pc = .ok (.iaload, 1)) (hi : vp_in x 100) (k : aW p l e R s m args below meth c Q D A cells slots 9 b (mv cI cZ b τ) (pc + 1) lv (.int (τ.2 3 x.toNatClampNeg) :: st)) : aW p l e R s m args below meth c Q D A cells slots 9 b (mv cI cZ b τ) (pc) lv (.int x :: .ref (b 3) :: st) := aw_iald (q := 3) (t0 := 0) C d (by omega) rfl rfl rfl hi k
theorem aw_isX4_3 (C : aC p s m args meth c D (cTys cI cZ cR cJ) A cc nL Ts own ret) {x y : Int32} (d : decode cc pc = .ok (.iastore, 1)) (hi : vp_in x 100) (k : aW p l e R s m args below meth c Q D A cells slots 9 b (mv cI cZ b (ms2 τ 3 x.toNatClampNeg y)) (pc + 1) lv (st)) : aW p l e R s m args below meth c Q D A cells slots 9 b (mv cI cZ b τ) (pc) lv (.int y :: .int x :: .ref (b 3) :: st) := aw_iast (q := 3) (t0 := 0) C d (by omega) rfl rfl rfl hi (mv_s2 (k := 3) (by decide)) k
theorem aw_ilX4_4 (C : aC p s m args meth c D (cTys cI cZ cR cJ) A cc nL Ts own ret) {x : Int32} (d : decode cc pc = .ok (.iaload, 1)) (hi : vp_in x 10) (k : aW p l e R s m args below meth c Q D A cells slots 9 b (mv cI cZ b τ) (pc + 1) lv (.int (τ.2 4 x.toNatClampNeg) :: st)) : aW p l e R s m args below meth c Q D A cells slots 9 b (mv cI cZ b τ) (pc) lv (.int x :: .ref (b 4) :: st) := aw_iald (q := 4) (t0 := 0) C d (by omega) rfl rfl rfl hi k
theorem aw_isX4_4 (C : aC p s m args meth c D (cTys cI cZ cR cJ) A cc nL Ts own ret) {x y : Int32} (d : decode cc pc = .ok (.iastore, 1)) (hi : vp_in x 10) (k : aW p l e R s m args below meth c Q D A cells slots 9 b (mv cI cZ b (ms2 τ 4 x.toNatClampNeg y)) (pc + 1) lv (st)) : aW p l e R s m args below meth c Q D A cells slots 9 b (mv cI cZ b τ) (pc) lv (.int y :: .int x :: .ref (b 4) :: st) := aw_iast (q := 4) (t0 := 0) C d (by omega) rfl rfl rfl hi (mv_s2 (k := 4) (by decide)) k
theorem aw_ilX4_5 (C : aC p s m args meth c D (cTys cI cZ cR cJ) A cc nL Ts own ret) {x : Int32} (d : decode cc pc = .ok (.iaload, 1)) (hi : vp_in x 10) (k : aW p l e R s m args below meth c Q D A cells slots 9 b (mv cI cZ b τ) (pc + 1) lv (.int (τ.2 5 x.toNatClampNeg) :: st)) : aW p l e R s m args below meth c Q D A cells slots 9 b (mv cI cZ b τ) (pc) lv (.int x :: .ref (b 5) :: st) := aw_iald (q := 5) (t0 := 0) C d (by omega) rfl rfl rfl hi k
theorem aw_isX4_5 (C : aC p s m args meth c D (cTys cI cZ cR cJ) A cc nL Ts own ret) {x y : Int32} (d : decode cc pc = .ok (.iastore, 1)) (hi : vp_in x 10) (k : aW p l e R s m args below meth c Q D A cells slots 9 b (mv cI cZ b (ms2 τ 5 x.toNatClampNeg y)) (pc + 1) lv (st)) : aW p l e R s m args below meth c Q D A cells slots 9 b (mv cI cZ b τ) (pc) lv (.int y :: .int x :: .ref (b 5) :: st) := aw_iast (q := 5) (t0 := 0) C d (by omega) rfl rfl rfl hi (mv_s2 (k := 5) (by decide)) k
theorem aw_ilX4_6 (C : aC p s m args meth c D (cTys cI cZ cR cJ) A cc nL Ts own ret) {x : Int32} (d : decode cc pc = .ok (.iaload, 1)) (hi : vp_in x 10) (k : aW p l e R s m args below meth c Q D A cells slots 9 b (mv cI cZ b τ) (pc + 1) lv (.int (τ.2 6 x.toNatClampNeg) :: st)) : aW p l e R s m args below meth c Q D A cells slots 9 b (mv cI cZ b τ) (pc) lv (.int x :: .ref (b 6) :: st) := aw_iald (q := 6) (t0 := 0) C d (by omega) rfl rfl rfl hi k
theorem aw_isX4_6 (C : aC p s m args meth c D (cTys cI cZ cR cJ) A cc nL Ts own ret) {x y : Int32} (d : decode cc pc = .ok (.iastore, 1)) (hi : vp_in x 10) (k : aW p l e R s m args below meth c Q D A cells slots 9 b (mv cI cZ b (ms2 τ 6 x.toNatClampNeg y)) (pc + 1) lv (st)) : aW p l e R s m args below meth c Q D A cells slots 9 b (mv cI cZ b τ) (pc) lv (.int y :: .int x :: .ref (b 6) :: st) := aw_iast (q := 6) (t0 := 0) C d (by omega) rfl rfl rfl hi (mv_s2 (k := 6) (by decide)) k
theorem aw_ilX4_7 (C : aC p s m args meth c D (cTys cI cZ cR cJ) A cc nL Ts own ret) {x : Int32} (d : decode cc pc = .ok (.iaload, 1)) (hi : vp_in x 10) (k : aW p l e R s m args below meth c Q D A cells slots 9 b (mv cI cZ b τ) (pc + 1) lv (.int (τ.2 7 x.toNatClampNeg) :: st)) : aW p l e R s m args below meth c Q D A cells slots 9 b (mv cI cZ b τ) (pc) lv (.int x :: .ref (b 7) :: st) := aw_iald (q := 7) (t0 := 0) C d (by omega) rfl rfl rfl hi k
theorem aw_isX4_7 (C : aC p s m args meth c D (cTys cI cZ cR cJ) A cc nL Ts own ret) {x y : Int32} (d : decode cc pc = .ok (.iastore, 1)) (hi : vp_in x 10) (k : aW p l e R s m args below meth c Q D A cells slots 9 b (mv cI cZ b (ms2 τ 7 x.toNatClampNeg y)) (pc + 1) lv (st)) : aW p l e R s m args below meth c Q D A cells slots 9 b (mv cI cZ b τ) (pc) lv (.int y :: .int x :: .ref (b 7) :: st) := aw_iast (q := 7) (t0 := 0) C d (by omega) rfl rfl rfl hi (mv_s2 (k := 7) (by decide)) k
theorem aw_ilX4_8 (C : aC p s m args meth c D (cTys cI cZ cR cJ) A cc nL Ts own ret) {x : Int32} (d : decode cc pc = .ok (.baload, 1)) (hi : vp_in x 10) (k : aW p l e R s m args below meth c Q D A cells slots 9 b (mv cI cZ b τ) (pc + 1) lv (.int (τ.2 8 x.toNatClampNeg) :: st)) : aW p l e R s m args below meth c Q D A cells slots 9 b (mv cI cZ b τ) (pc) lv (.int x :: .ref (b 8) :: st) := aw_zald (q := 8) (t0 := 1) C d (by omega) rfl rfl rfl hi k
theorem aw_isX4_8 (C : aC p s m args meth c D (cTys cI cZ cR cJ) A cc nL Ts own ret) {x y : Int32} (hy : vp_nar .boolean y = y) (d : decode cc pc = .ok (.bastore, 1)) (hi : vp_in x 10) (k : aW p l e R s m args below meth c Q D A cells slots 9 b (mv cI cZ b (ms2 τ 8 x.toNatClampNeg y)) (pc + 1) lv (st)) : aW p l e R s m args below meth c Q D A cells slots 9 b (mv cI cZ b τ) (pc) lv (.int y :: .int x :: .ref (b 8) :: st) := aw_zast (q := 8) (t0 := 1) C d (by omega) rfl rfl rfl hi (by rw [hy]; exact mv_s2 (k := 8) (by decide)) k
theorem aw_ilX4n_1 (C : aC p s m args meth c D (cTys cI cZ cR cJ) A cc nL Ts own ret) {i : Nat} (d : decode cc pc = .ok (.iaload, 1)) (hi : i < 10) (k : aW p l e R s m args below meth c Q D A cells slots 9 b (mv cI cZ b τ) (pc + 1) lv (.int (τ.2 1 i) :: st)) : aW p l e R s m args below meth c Q D A cells slots 9 b (mv cI cZ b τ) (pc) lv (.int (nI i) :: .ref (b 1) :: st) := aw_ilX4_1 C d (vp_in_nI hi (by omega)) (by rw [nI_clamp (by omega)]; exact k)
theorem aw_isX4n_1 (C : aC p s m args meth c D (cTys cI cZ cR cJ) A cc nL Ts own ret) {i : Nat} {y : Int32} (d : decode cc pc = .ok (.iastore, 1)) (hi : i < 10) (k : aW p l e R s m args below meth c Q D A cells slots 9 b (mv cI cZ b (ms2 τ 1 i y)) (pc + 1) lv (st)) : aW p l e R s m args below meth c Q D A cells slots 9 b (mv cI cZ b τ) (pc) lv (.int y :: .int (nI i) :: .ref (b 1) :: st) := aw_isX4_1 C d (vp_in_nI hi (by omega)) (by rw [nI_clamp (by omega)]; exact k)
theorem aw_ilX4n_2 (C : aC p s m args meth c D (cTys cI cZ cR cJ) A cc nL Ts own ret) {i : Nat} (d : decode cc pc = .ok (.iaload, 1)) (hi : i < 10) (k : aW p l e R s m args below meth c Q D A cells slots 9 b (mv cI cZ b τ) (pc + 1) lv (.int (τ.2 2 i) :: st)) : aW p l e R s m args below meth c Q D A cells slots 9 b (mv cI cZ b τ) (pc) lv (.int (nI i) :: .ref (b 2) :: st) := aw_ilX4_2 C d (vp_in_nI hi (by omega)) (by rw [nI_clamp (by omega)]; exact k)
theorem aw_isX4n_2 (C : aC p s m args meth c D (cTys cI cZ cR cJ) A cc nL Ts own ret) {i : Nat} {y : Int32} (d : decode cc pc = .ok (.iastore, 1)) (hi : i < 10) (k : aW p l e R s m args below meth c Q D A cells slots 9 b (mv cI cZ b (ms2 τ 2 i y)) (pc + 1) lv (st)) : aW p l e R s m args below meth c Q D A cells slots 9 b (mv cI cZ b τ) (pc) lv (.int y :: .int (nI i) :: .ref (b 2) :: st) := aw_isX4_2 C d (vp_in_nI hi (by omega)) (by rw [nI_clamp (by omega)]; exact k)
theorem aw_ilX4n_3 (C : aC p s m args meth c D (cTys cI cZ cR cJ) A cc nL Ts own ret) {i : Nat} (d : decode cc pc = .ok (.iaload, 1)) (hi : i < 100) (k : aW p l e R s m args below meth c Q D A cells slots 9 b (mv cI cZ b τ) (pc + 1) lv (.int (τ.2 3 i) :: st)) : aW p l e R s m args below meth c Q D A cells slots 9 b (mv cI cZ b τ) (pc) lv (.int (nI i) :: .ref (b 3) :: st) := aw_ilX4_3 C d (vp_in_nI hi (by omega)) (by rw [nI_clamp (by omega)]; exact k)
theorem aw_isX4n_3 (C : aC p s m args meth c D (cTys cI cZ cR cJ) A cc nL Ts own ret) {i : Nat} {y : Int32} (d : decode cc pc = .ok (.iastore, 1)) (hi : i < 100) (k : aW p l e R s m args below meth c Q D A cells slots 9 b (mv cI cZ b (ms2 τ 3 i y)) (pc + 1) lv (st)) : aW p l e R s m args below meth c Q D A cells slots 9 b (mv cI cZ b τ) (pc) lv (.int y :: .int (nI i) :: .ref (b 3) :: st) := aw_isX4_3 C d (vp_in_nI hi (by omega)) (by rw [nI_clamp (by omega)]; exact k)
theorem aw_ilX4n_4 (C : aC p s m args meth c D (cTys cI cZ cR cJ) A cc nL Ts own ret) {i : Nat} (d : decode cc pc = .ok (.iaload, 1)) (hi : i < 10) (k : aW p l e R s m args below meth c Q D A cells slots 9 b (mv cI cZ b τ) (pc + 1) lv (.int (τ.2 4 i) :: st)) : aW p l e R s m args below meth c Q D A cells slots 9 b (mv cI cZ b τ) (pc) lv (.int (nI i) :: .ref (b 4) :: st) := aw_ilX4_4 C d (vp_in_nI hi (by omega)) (by rw [nI_clamp (by omega)]; exact k)
theorem aw_isX4n_4 (C : aC p s m args meth c D (cTys cI cZ cR cJ) A cc nL Ts own ret) {i : Nat} {y : Int32} (d : decode cc pc = .ok (.iastore, 1)) (hi : i < 10) (k : aW p l e R s m args below meth c Q D A cells slots 9 b (mv cI cZ b (ms2 τ 4 i y)) (pc + 1) lv (st)) : aW p l e R s m args below meth c Q D A cells slots 9 b (mv cI cZ b τ) (pc) lv (.int y :: .int (nI i) :: .ref (b 4) :: st) := aw_isX4_4 C d (vp_in_nI hi (by omega)) (by rw [nI_clamp (by omega)]; exact k)
theorem aw_ilX4n_5 (C : aC p s m args meth c D (cTys cI cZ cR cJ) A cc nL Ts own ret) {i : Nat} (d : decode cc pc = .ok (.iaload, 1)) (hi : i < 10) (k : aW p l e R s m args below meth c Q D A cells slots 9 b (mv cI cZ b τ) (pc + 1) lv (.int (τ.2 5 i) :: st)) : aW p l e R s m args below meth c Q D A cells slots 9 b (mv cI cZ b τ) (pc) lv (.int (nI i) :: .ref (b 5) :: st) := aw_ilX4_5 C d (vp_in_nI hi (by omega)) (by rw [nI_clamp (by omega)]; exact k)
theorem aw_isX4n_5 (C : aC p s m args meth c D (cTys cI cZ cR cJ) A cc nL Ts own ret) {i : Nat} {y : Int32} (d : decode cc pc = .ok (.iastore, 1)) (hi : i < 10) (k : aW p l e R s m args below meth c Q D A cells slots 9 b (mv cI cZ b (ms2 τ 5 i y)) (pc + 1) lv (st)) : aW p l e R s m args below meth c Q D A cells slots 9 b (mv cI cZ b τ) (pc) lv (.int y :: .int (nI i) :: .ref (b 5) :: st) := aw_isX4_5 C d (vp_in_nI hi (by omega)) (by rw [nI_clamp (by omega)]; exact k)
theorem aw_ilX4n_6 (C : aC p s m args meth c D (cTys cI cZ cR cJ) A cc nL Ts own ret) {i : Nat} (d : decode cc pc = .ok (.iaload, 1)) (hi : i < 10) (k : aW p l e R s m args below meth c Q D A cells slots 9 b (mv cI cZ b τ) (pc + 1) lv (.int (τ.2 6 i) :: st)) : aW p l e R s m args below meth c Q D A cells slots 9 b (mv cI cZ b τ) (pc) lv (.int (nI i) :: .ref (b 6) :: st) := aw_ilX4_6 C d (vp_in_nI hi (by omega)) (by rw [nI_clamp (by omega)]; exact k)
theorem aw_isX4n_6 (C : aC p s m args meth c D (cTys cI cZ cR cJ) A cc nL Ts own ret) {i : Nat} {y : Int32} (d : decode cc pc = .ok (.iastore, 1)) (hi : i < 10) (k : aW p l e R s m args below meth c Q D A cells slots 9 b (mv cI cZ b (ms2 τ 6 i y)) (pc + 1) lv (st)) : aW p l e R s m args below meth c Q D A cells slots 9 b (mv cI cZ b τ) (pc) lv (.int y :: .int (nI i) :: .ref (b 6) :: st) := aw_isX4_6 C d (vp_in_nI hi (by omega)) (by rw [nI_clamp (by omega)]; exact k)
theorem aw_ilX4n_7 (C : aC p s m args meth c D (cTys cI cZ cR cJ) A cc nL Ts own ret) {i : Nat} (d : decode cc pc = .ok (.iaload, 1)) (hi : i < 10) (k : aW p l e R s m args below meth c Q D A cells slots 9 b (mv cI cZ b τ) (pc + 1) lv (.int (τ.2 7 i) :: st)) : aW p l e R s m args below meth c Q D A cells slots 9 b (mv cI cZ b τ) (pc) lv (.int (nI i) :: .ref (b 7) :: st) := aw_ilX4_7 C d (vp_in_nI hi (by omega)) (by rw [nI_clamp (by omega)]; exact k)
theorem aw_isX4n_7 (C : aC p s m args meth c D (cTys cI cZ cR cJ) A cc nL Ts own ret) {i : Nat} {y : Int32} (d : decode cc pc = .ok (.iastore, 1)) (hi : i < 10) (k : aW p l e R s m args below meth c Q D A cells slots 9 b (mv cI cZ b (ms2 τ 7 i y)) (pc + 1) lv (st)) : aW p l e R s m args below meth c Q D A cells slots 9 b (mv cI cZ b τ) (pc) lv (.int y :: .int (nI i) :: .ref (b 7) :: st) := aw_isX4_7 C d (vp_in_nI hi (by omega)) (by rw [nI_clamp (by omega)]; exact k)
theorem aw_ilX4n_8 (C : aC p s m args meth c D (cTys cI cZ cR cJ) A cc nL Ts own ret) {i : Nat} (d : decode cc pc = .ok (.baload, 1)) (hi : i < 10) (k : aW p l e R s m args below meth c Q D A cells slots 9 b (mv cI cZ b τ) (pc + 1) lv (.int (τ.2 8 i) :: st)) : aW p l e R s m args below meth c Q D A cells slots 9 b (mv cI cZ b τ) (pc) lv (.int (nI i) :: .ref (b 8) :: st) := aw_ilX4_8 C d (vp_in_nI hi (by omega)) (by rw [nI_clamp (by omega)]; exact k)
theorem aw_isX4n_8 (C : aC p s m args meth c D (cTys cI cZ cR cJ) A cc nL Ts own ret) {i : Nat} {y : Int32} (hy : vp_nar .boolean y = y) (d : decode cc pc = .ok (.bastore, 1)) (hi : i < 10) (k : aW p l e R s m args below meth c Q D A cells slots 9 b (mv cI cZ b (ms2 τ 8 i y)) (pc + 1) lv (st)) : aW p l e R s m args below meth c Q D A cells slots 9 b (mv cI cZ b τ) (pc) lv (.int y :: .int (nI i) :: .ref (b 8) :: st) := aw_isX4_8 C hy d (vp_in_nI hi (by omega)) (by rw [nI_clamp (by omega)]; exact k)
end MVR
/-! what is fixed of each method -/
theorem sX1_init : sY yX1_init RX1 cX1_init 1 none wsX1_init 0 := ⟨⟨_, rfl⟩, rfl, by decide, by decide, by decide +kernel, by decide +kernel⟩
theorem sX0_init : sY yX0_init RX0 cX0_init 2 none wsX0_init 0 := ⟨⟨_, rfl⟩, rfl, by decide, by decide, by decide +kernel, by decide +kernel⟩
theorem sX1_size : sY yX1_size RX1 cX1_size 1 (some .int) wsX1_size 0 := ⟨⟨_, rfl⟩, rfl, by decide, by decide, by decide +kernel, by decide +kernel⟩
theorem sX0_size : sY yX0_size RX0 cX0_size 1 (some .int) wsX0_size 0 := ⟨⟨_, rfl⟩, rfl, by decide, by decide, by decide +kernel, by decide +kernel⟩
theorem sX1_at : sY yX1_at RX1 cX1_at 2 (some .int) wsX1_at 1 := ⟨⟨_, rfl⟩, rfl, by decide, by decide, by decide +kernel, by decide +kernel⟩
theorem sX1_has : sY yX1_has RX1 cX1_has 2 (some .boolean) wsX1_has 1 := ⟨⟨_, rfl⟩, rfl, by decide, by decide, by decide +kernel, by decide +kernel⟩
theorem sX1_put : sY yX1_put RX1 cX1_put 3 none wsX1_put 2 := ⟨⟨_, rfl⟩, rfl, by decide, by decide, by decide +kernel, by decide +kernel⟩
theorem sX1_insert : sY yX1_insert RX1 cX1_insert 4 none wsX1_insert 2 := ⟨⟨_, rfl⟩, rfl, by decide, by decide, by decide +kernel, by decide +kernel⟩
theorem sX0_settle : sY yX0_settle RX0 cX0_settle 2 (some .int) wsX0_settle 0 := ⟨⟨_, rfl⟩, rfl, by decide, by decide, by decide +kernel, by decide +kernel⟩
theorem sX0_hutOf : sY yX0_hutOf RX0 cX0_hutOf 2 (some .int) wsX0_hutOf 1 := ⟨⟨_, rfl⟩, rfl, by decide, by decide, by decide +kernel, by decide +kernel⟩
theorem sX1_placeOf : sY yX1_placeOf RX1 cX1_placeOf 3 (some .int) wsX1_placeOf 1 := ⟨⟨_, rfl⟩, rfl, by decide, by decide, by decide +kernel, by decide +kernel⟩
theorem sX0_keeperIn : sY yX0_keeperIn RX0 cX0_keeperIn 2 (some .int) wsX0_keeperIn 1 := ⟨⟨_, rfl⟩, rfl, by decide, by decide, by decide +kernel, by decide +kernel⟩
theorem sX0_likesOf : sY yX0_likesOf RX0 cX0_likesOf 3 (some (.object "HutRings$Row")) wsX0_likesOf 1 := ⟨⟨_, rfl⟩, rfl, by decide, by decide, by decide +kernel, by decide +kernel⟩
theorem sX0_rankOf : sY yX0_rankOf RX0 cX0_rankOf 4 (some .int) wsX0_rankOf 2 := ⟨⟨_, rfl⟩, rfl, by decide, by decide, by decide +kernel, by decide +kernel⟩
theorem sX1_cutFrom : sY yX1_cutFrom RX1 cX1_cutFrom 2 none wsX1_cutFrom 1 := ⟨⟨_, rfl⟩, rfl, by decide, by decide, by decide +kernel, by decide +kernel⟩
theorem sX0_moveInto : sY yX0_moveInto RX0 cX0_moveInto 4 none wsX0_moveInto 2 := ⟨⟨_, rfl⟩, rfl, by decide, by decide, by decide +kernel, by decide +kernel⟩
theorem sX1_take : sY yX1_take RX1 cX1_take 4 (some .int) wsX1_take 1 := ⟨⟨_, rfl⟩, rfl, by decide, by decide, by decide +kernel, by decide +kernel⟩
theorem sX1_refill : sY yX1_refill RX1 cX1_refill 4 none wsX1_refill 2 := ⟨⟨_, rfl⟩, rfl, by decide, by decide, by decide +kernel, by decide +kernel⟩
theorem sX1_sum : sY yX1_sum RX1 cX1_sum 3 (some .int) wsX1_sum 0 := ⟨⟨_, rfl⟩, rfl, by decide, by decide, by decide +kernel, by decide +kernel⟩
theorem sX1_greatest : sY yX1_greatest RX1 cX1_greatest 3 (some .int) wsX1_greatest 0 := ⟨⟨_, rfl⟩, rfl, by decide, by decide, by decide +kernel, by decide +kernel⟩
theorem sX2_init : sY yX2_init RX2 cX2_init 2 none wsX2_init 1 := ⟨⟨_, rfl⟩, rfl, by decide, by decide, by decide +kernel, by decide +kernel⟩
theorem sX2_start : sY yX2_start RX2 cX2_start 2 none wsX2_start 0 := ⟨⟨_, rfl⟩, rfl, by decide, by decide, by decide +kernel, by decide +kernel⟩
theorem sX2_isThereIn : sY yX2_isThereIn RX2 cX2_isThereIn 4 (some .boolean) wsX2_isThereIn 2 := ⟨⟨_, rfl⟩, rfl, by decide, by decide, by decide +kernel, by decide +kernel⟩
theorem sX2_aimIn : sY yX2_aimIn RX2 cX2_aimIn 6 (some .int) wsX2_aimIn 2 := ⟨⟨_, rfl⟩, rfl, by decide, by decide, by decide +kernel, by decide +kernel⟩
theorem sX2_aimAll : sY yX2_aimAll RX2 cX2_aimAll 3 none wsX2_aimAll 1 := ⟨⟨_, rfl⟩, rfl, by decide, by decide, by decide +kernel, by decide +kernel⟩
theorem sX2_stepsBackTo : sY yX2_stepsBackTo RX2 cX2_stepsBackTo 4 (some .int) wsX2_stepsBackTo 1 := ⟨⟨_, rfl⟩, rfl, by decide, by decide, by decide +kernel, by decide +kernel⟩
theorem sX2_closeRing : sY yX2_closeRing RX2 cX2_closeRing 7 none wsX2_closeRing 3 := ⟨⟨_, rfl⟩, rfl, by decide, by decide, by decide +kernel, by decide +kernel⟩
theorem sX2_closeRings : sY yX2_closeRings RX2 cX2_closeRings 4 none wsX2_closeRings 1 := ⟨⟨_, rfl⟩, rfl, by decide, by decide, by decide +kernel, by decide +kernel⟩
theorem sX2_runRounds : sY yX2_runRounds RX2 cX2_runRounds 2 none wsX2_runRounds 0 := ⟨⟨_, rfl⟩, rfl, by decide, by decide, by decide +kernel, by decide +kernel⟩
theorem sX2_runForAll : sY yX2_runForAll RX2 cX2_runForAll 1 none wsX2_runForAll 0 := ⟨⟨_, rfl⟩, rfl, by decide, by decide, by decide +kernel, by decide +kernel⟩
theorem sX2_runWithout : sY yX2_runWithout RX2 cX2_runWithout 2 none wsX2_runWithout 1 := ⟨⟨_, rfl⟩, rfl, by decide, by decide, by decide +kernel, by decide +kernel⟩
theorem sX2_runFeigning : sY yX2_runFeigning RX2 cX2_runFeigning 3 none wsX2_runFeigning 2 := ⟨⟨_, rfl⟩, rfl, by decide, by decide, by decide +kernel, by decide +kernel⟩
theorem sX2_hutFor : sY yX2_hutFor RX2 cX2_hutFor 2 (some .int) wsX2_hutFor 1 := ⟨⟨_, rfl⟩, rfl, by decide, by decide, by decide +kernel, by decide +kernel⟩
theorem sX2_roundOf : sY yX2_roundOf RX2 cX2_roundOf 2 (some .int) wsX2_roundOf 1 := ⟨⟨_, rfl⟩, rfl, by decide, by decide, by decide +kernel, by decide +kernel⟩
theorem sX2_ringSizeOf : sY yX2_ringSizeOf RX2 cX2_ringSizeOf 2 (some .int) wsX2_ringSizeOf 1 := ⟨⟨_, rfl⟩, rfl, by decide, by decide, by decide +kernel, by decide +kernel⟩
theorem sX2_rounds : sY yX2_rounds RX2 cX2_rounds 1 (some .int) wsX2_rounds 0 := ⟨⟨_, rfl⟩, rfl, by decide, by decide, by decide +kernel, by decide +kernel⟩
theorem sX2_ringsOfMore : sY yX2_ringsOfMore RX2 cX2_ringsOfMore 1 (some .int) wsX2_ringsOfMore 0 := ⟨⟨_, rfl⟩, rfl, by decide, by decide, by decide +kernel, by decide +kernel⟩
theorem sX2_greatestRing : sY yX2_greatestRing RX2 cX2_greatestRing 1 (some .int) wsX2_greatestRing 0 := ⟨⟨_, rfl⟩, rfl, by decide, by decide, by decide +kernel, by decide +kernel⟩
theorem sX2_roundsAdded : sY yX2_roundsAdded RX2 cX2_roundsAdded 1 (some .int) wsX2_roundsAdded 0 := ⟨⟨_, rfl⟩, rfl, by decide, by decide, by decide +kernel, by decide +kernel⟩
theorem sX3_init : sY yX3_init RX3 cX3_init 1 none wsX3_init 0 := ⟨⟨_, rfl⟩, rfl, by decide, by decide, by decide +kernel, by decide +kernel⟩
theorem sX3_come : sY yX3_come RX3 cX3_come 2 (some .int) wsX3_come 0 := ⟨⟨_, rfl⟩, rfl, by decide, by decide, by decide +kernel, by decide +kernel⟩
theorem sX3_needKeeper : sY yX3_needKeeper RX3 cX3_needKeeper 2 none wsX3_needKeeper 1 := ⟨⟨_, rfl⟩, rfl, by decide, by decide, by decide +kernel, by decide +kernel⟩
theorem sX3_needHut : sY yX3_needHut RX3 cX3_needHut 2 none wsX3_needHut 1 := ⟨⟨_, rfl⟩, rfl, by decide, by decide, by decide +kernel, by decide +kernel⟩
theorem sX3_wish : sY yX3_wish RX3 cX3_wish 5 (some .int) wsX3_wish 3 := ⟨⟨_, rfl⟩, rfl, by decide, by decide, by decide +kernel, by decide +kernel⟩
theorem sX3_needPlace : sY yX3_needPlace RX3 cX3_needPlace 2 none wsX3_needPlace 2 := ⟨⟨_, rfl⟩, rfl, by decide, by decide, by decide +kernel, by decide +kernel⟩
theorem sX3_drop : sY yX3_drop RX3 cX3_drop 5 (some .int) wsX3_drop 2 := ⟨⟨_, rfl⟩, rfl, by decide, by decide, by decide +kernel, by decide +kernel⟩
theorem sX3_list : sY yX3_list RX3 cX3_list 4 (some .int) wsX3_list 2 := ⟨⟨_, rfl⟩, rfl, by decide, by decide, by decide +kernel, by decide +kernel⟩
theorem sX3_rankOfGot : sY yX3_rankOfGot RX3 cX3_rankOfGot 2 (some .int) wsX3_rankOfGot 1 := ⟨⟨_, rfl⟩, rfl, by decide, by decide, by decide +kernel, by decide +kernel⟩
theorem sX3_told : sY yX3_told RX3 cX3_told 3 (some .int) wsX3_told 2 := ⟨⟨_, rfl⟩, rfl, by decide, by decide, by decide +kernel, by decide +kernel⟩
theorem sX3_points : sY yX3_points RX3 cX3_points 3 (some .int) wsX3_points 2 := ⟨⟨_, rfl⟩, rfl, by decide, by decide, by decide +kernel, by decide +kernel⟩
theorem sX3_rank : sY yX3_rank RX3 cX3_rank 3 (some .int) wsX3_rank 2 := ⟨⟨_, rfl⟩, rfl, by decide, by decide, by decide +kernel, by decide +kernel⟩
theorem sX3_keepersWithAnotherHut : sY yX3_keepersWithAnotherHut RX3 cX3_keepersWithAnotherHut 3 (some .int) wsX3_keepersWithAnotherHut 0 := ⟨⟨_, rfl⟩, rfl, by decide, by decide, by decide +kernel, by decide +kernel⟩
theorem sX3_ranksAdded : sY yX3_ranksAdded RX3 cX3_ranksAdded 3 (some .int) wsX3_ranksAdded 0 := ⟨⟨_, rfl⟩, rfl, by decide, by decide, by decide +kernel, by decide +kernel⟩
theorem sX3_count : sY yX3_count RX3 cX3_count 2 (some .int) wsX3_count 1 := ⟨⟨_, rfl⟩, rfl, by decide, by decide, by decide +kernel, by decide +kernel⟩
theorem sX3_hadRather : sY yX3_hadRather RX3 cX3_hadRather 4 (some .boolean) wsX3_hadRather 2 := ⟨⟨_, rfl⟩, rfl, by decide, by decide, by decide +kernel, by decide +kernel⟩
theorem sX3_swaps : sY yX3_swaps RX3 cX3_swaps 3 (some .boolean) wsX3_swaps 2 := ⟨⟨_, rfl⟩, rfl, by decide, by decide, by decide +kernel, by decide +kernel⟩
theorem sX3_without : sY yX3_without RX3 cX3_without 3 (some .int) wsX3_without 2 := ⟨⟨_, rfl⟩, rfl, by decide, by decide, by decide +kernel, by decide +kernel⟩
theorem sX3_feign : sY yX3_feign RX3 cX3_feign 3 (some .int) wsX3_feign 2 := ⟨⟨_, rfl⟩, rfl, by decide, by decide, by decide +kernel, by decide +kernel⟩
theorem sX3_move : sY yX3_move RX3 cX3_move 3 (some .int) wsX3_move 0 := ⟨⟨_, rfl⟩, rfl, by decide, by decide, by decide +kernel, by decide +kernel⟩
theorem sX3_mean : sY yX3_mean RX3 cX3_mean 2 (some .double) wsX3_mean 0 := ⟨⟨_, rfl⟩, rfl, by decide, by decide, by decide +kernel, by decide +kernel⟩
theorem sX3_digestWithKeeper : sY yX3_digestWithKeeper RX3 cX3_digestWithKeeper 8 (some .long) wsX3_digestWithKeeper 2 := ⟨⟨_, rfl⟩, rfl, by decide, by decide, by decide +kernel, by decide +kernel⟩
theorem sX3_digest : sY yX3_digest RX3 cX3_digest 4 (some .long) wsX3_digest 0 := ⟨⟨_, rfl⟩, rfl, by decide, by decide, by decide +kernel, by decide +kernel⟩
theorem sX4_init : sY yX4_init RX4 cX4_init 1 none wsX4_init 0 := ⟨⟨_, rfl⟩, rfl, by decide, by decide, by decide +kernel, by decide +kernel⟩
theorem sX4_thrown : sY yX4_thrown RX4 cX4_thrown 1 (some .int) wsX4_thrown 0 := ⟨⟨_, rfl⟩, rfl, by decide, by decide, by decide +kernel, by decide +kernel⟩
theorem sX4_fail : sY yX4_fail RX4 cX4_fail 2 (some .int) wsX4_fail 1 := ⟨⟨_, rfl⟩, rfl, by decide, by decide, by decide +kernel, by decide +kernel⟩
theorem sX4_isIn : sY yX4_isIn RX4 cX4_isIn 3 (some .boolean) wsX4_isIn 3 := ⟨⟨_, rfl⟩, rfl, by decide, by decide, by decide +kernel, by decide +kernel⟩
theorem sX4_isKeeper : sY yX4_isKeeper RX4 cX4_isKeeper 2 (some .boolean) wsX4_isKeeper 1 := ⟨⟨_, rfl⟩, rfl, by decide, by decide, by decide +kernel, by decide +kernel⟩
theorem sX4_li : sY yX4_li RX4 cX4_li 3 (some .int) wsX4_li 2 := ⟨⟨_, rfl⟩, rfl, by decide, by decide, by decide +kernel, by decide +kernel⟩
theorem sX4_come : sY yX4_come RX4 cX4_come 1 (some .int) wsX4_come 0 := ⟨⟨_, rfl⟩, rfl, by decide, by decide, by decide +kernel, by decide +kernel⟩
theorem sX4_placeOf : sY yX4_placeOf RX4 cX4_placeOf 4 (some .int) wsX4_placeOf 2 := ⟨⟨_, rfl⟩, rfl, by decide, by decide, by decide +kernel, by decide +kernel⟩
theorem sX4_wish : sY yX4_wish RX4 cX4_wish 5 (some .int) wsX4_wish 3 := ⟨⟨_, rfl⟩, rfl, by decide, by decide, by decide +kernel, by decide +kernel⟩
theorem sX4_drop : sY yX4_drop RX4 cX4_drop 5 (some .int) wsX4_drop 2 := ⟨⟨_, rfl⟩, rfl, by decide, by decide, by decide +kernel, by decide +kernel⟩
theorem sX4_list : sY yX4_list RX4 cX4_list 3 (some .int) wsX4_list 2 := ⟨⟨_, rfl⟩, rfl, by decide, by decide, by decide +kernel, by decide +kernel⟩
theorem sX4_owner : sY yX4_owner RX4 cX4_owner 3 (some .int) wsX4_owner 1 := ⟨⟨_, rfl⟩, rfl, by decide, by decide, by decide +kernel, by decide +kernel⟩
theorem sX4_aim : sY yX4_aim RX4 cX4_aim 3 (some .int) wsX4_aim 1 := ⟨⟨_, rfl⟩, rfl, by decide, by decide, by decide +kernel, by decide +kernel⟩
theorem sX4_around : sY yX4_around RX4 cX4_around 4 (some .int) wsX4_around 1 := ⟨⟨_, rfl⟩, rfl, by decide, by decide, by decide +kernel, by decide +kernel⟩
theorem sX4_aimAll : sY yX4_aimAll RX4 cX4_aimAll 2 none wsX4_aimAll 0 := ⟨⟨_, rfl⟩, rfl, by decide, by decide, by decide +kernel, by decide +kernel⟩
theorem sX4_begin : sY yX4_begin RX4 cX4_begin 2 none wsX4_begin 0 := ⟨⟨_, rfl⟩, rfl, by decide, by decide, by decide +kernel, by decide +kernel⟩
theorem sX4_isAnybody : sY yX4_isAnybody RX4 cX4_isAnybody 2 (some .boolean) wsX4_isAnybody 0 := ⟨⟨_, rfl⟩, rfl, by decide, by decide, by decide +kernel, by decide +kernel⟩
theorem sX4_roundOn : sY yX4_roundOn RX4 cX4_roundOn 5 none wsX4_roundOn 0 := ⟨⟨_, rfl⟩, rfl, by decide, by decide, by decide +kernel, by decide +kernel⟩
theorem sX4_solve : sY yX4_solve RX4 cX4_solve 1 none wsX4_solve 0 := ⟨⟨_, rfl⟩, rfl, by decide, by decide, by decide +kernel, by decide +kernel⟩
theorem sX4_rankOf : sY yX4_rankOf RX4 cX4_rankOf 3 (some .int) wsX4_rankOf 2 := ⟨⟨_, rfl⟩, rfl, by decide, by decide, by decide +kernel, by decide +kernel⟩
theorem sX4_toldOf : sY yX4_toldOf RX4 cX4_toldOf 3 (some .int) wsX4_toldOf 2 := ⟨⟨_, rfl⟩, rfl, by decide, by decide, by decide +kernel, by decide +kernel⟩
theorem sX4_told : sY yX4_told RX4 cX4_told 3 (some .int) wsX4_told 2 := ⟨⟨_, rfl⟩, rfl, by decide, by decide, by decide +kernel, by decide +kernel⟩
theorem sX4_points : sY yX4_points RX4 cX4_points 3 (some .int) wsX4_points 2 := ⟨⟨_, rfl⟩, rfl, by decide, by decide, by decide +kernel, by decide +kernel⟩
theorem sX4_rank : sY yX4_rank RX4 cX4_rank 3 (some .int) wsX4_rank 2 := ⟨⟨_, rfl⟩, rfl, by decide, by decide, by decide +kernel, by decide +kernel⟩
theorem sX4_counted : sY yX4_counted RX4 cX4_counted 4 (some .int) wsX4_counted 1 := ⟨⟨_, rfl⟩, rfl, by decide, by decide, by decide +kernel, by decide +kernel⟩
theorem sX4_count : sY yX4_count RX4 cX4_count 2 (some .int) wsX4_count 1 := ⟨⟨_, rfl⟩, rfl, by decide, by decide, by decide +kernel, by decide +kernel⟩
theorem sX4_isLiked : sY yX4_isLiked RX4 cX4_isLiked 3 (some .boolean) wsX4_isLiked 2 := ⟨⟨_, rfl⟩, rfl, by decide, by decide, by decide +kernel, by decide +kernel⟩
theorem sX4_swaps : sY yX4_swaps RX4 cX4_swaps 3 (some .boolean) wsX4_swaps 2 := ⟨⟨_, rfl⟩, rfl, by decide, by decide, by decide +kernel, by decide +kernel⟩
theorem sX4_without : sY yX4_without RX4 cX4_without 3 (some .int) wsX4_without 2 := ⟨⟨_, rfl⟩, rfl, by decide, by decide, by decide +kernel, by decide +kernel⟩
theorem sX4_feign : sY yX4_feign RX4 cX4_feign 3 (some .int) wsX4_feign 2 := ⟨⟨_, rfl⟩, rfl, by decide, by decide, by decide +kernel, by decide +kernel⟩
theorem sX4_move : sY yX4_move RX4 cX4_move 3 (some .int) wsX4_move 0 := ⟨⟨_, rfl⟩, rfl, by decide, by decide, by decide +kernel, by decide +kernel⟩
theorem sX4_mean : sY yX4_mean RX4 cX4_mean 3 (some .double) wsX4_mean 0 := ⟨⟨_, rfl⟩, rfl, by decide, by decide, by decide +kernel, by decide +kernel⟩
theorem sX4_digest : sY yX4_digest RX4 cX4_digest 5 (some .long) wsX4_digest 0 := ⟨⟨_, rfl⟩, rfl, by decide, by decide, by decide +kernel, by decide +kernel⟩
/-! room of each method -/
abbrev rmX3_init : Room := { frames := 3, cells := 0, slots := 0, locals := 65 }
abbrev rmX3_come : Room := { frames := 6, cells := 0, slots := 0, locals := 133 }
abbrev rmX3_wish : Room := { frames := 6, cells := 0, slots := 0, locals := 133 }
abbrev rmX3_drop : Room := { frames := 6, cells := 0, slots := 0, locals := 133 }
abbrev rmX3_list : Room := { frames := 3, cells := 0, slots := 0, locals := 61 }
abbrev rmX3_told : Room := { frames := 4, cells := 0, slots := 0, locals := 86 }
abbrev rmX3_points : Room := { frames := 3, cells := 0, slots := 0, locals := 69 }
abbrev rmX3_rank : Room := { frames := 3, cells := 0, slots := 0, locals := 65 }
abbrev rmX3_count : Room := { frames := 5, cells := 0, slots := 0, locals := 108 }
abbrev rmX3_swaps : Room := { frames := 5, cells := 0, slots := 0, locals := 109 }
abbrev rmX3_without : Room := { frames := 6, cells := 0, slots := 0, locals := 134 }
abbrev rmX3_feign : Room := { frames := 6, cells := 0, slots := 0, locals := 135 }
abbrev rmX3_move : Room := { frames := 6, cells := 0, slots := 0, locals := 133 }
abbrev rmX3_mean : Room := { frames := 3, cells := 0, slots := 0, locals := 63 }
abbrev rmX3_digest : Room := { frames := 6, cells := 0, slots := 0, locals := 135 }
abbrev rmX3_digestWithKeeper : Room := { frames := 5, cells := 0, slots := 0, locals := 108 }
abbrev rmX3_rankOfGot : Room := { frames := 3, cells := 0, slots := 0, locals := 65 }
abbrev rmX3_hadRather : Room := { frames := 4, cells := 0, slots := 0, locals := 86 }
abbrev rmX3_keepersWithAnotherHut : Room := { frames := 2, cells := 0, slots := 0, locals := 42 }
abbrev rmX3_ranksAdded : Room := { frames := 4, cells := 0, slots := 0, locals := 86 }
abbrev rmX3_needKeeper : Room := { frames := 2, cells := 0, slots := 0, locals := 40 }
abbrev rmX3_needHut : Room := { frames := 2, cells := 0, slots := 0, locals := 40 }
abbrev rmX3_needPlace : Room := { frames := 1, cells := 0, slots := 0, locals := 20 }
abbrev rmX4_init : Room := { frames := 1, cells := 0, slots := 0, locals := 24 }
abbrev rmX4_thrown : Room := { frames := 0, cells := 0, slots := 0, locals := 0 }
abbrev rmX4_fail : Room := { frames := 0, cells := 0, slots := 0, locals := 0 }
abbrev rmX4_isIn : Room := { frames := 0, cells := 0, slots := 0, locals := 0 }
abbrev rmX4_isKeeper : Room := { frames := 1, cells := 0, slots := 0, locals := 22 }
abbrev rmX4_li : Room := { frames := 0, cells := 0, slots := 0, locals := 0 }
abbrev rmX4_come : Room := { frames := 1, cells := 0, slots := 0, locals := 21 }
abbrev rmX4_placeOf : Room := { frames := 1, cells := 0, slots := 0, locals := 22 }
abbrev rmX4_wish : Room := { frames := 2, cells := 0, slots := 0, locals := 45 }
abbrev rmX4_drop : Room := { frames := 2, cells := 0, slots := 0, locals := 43 }
abbrev rmX4_list : Room := { frames := 2, cells := 0, slots := 0, locals := 43 }
abbrev rmX4_owner : Room := { frames := 0, cells := 0, slots := 0, locals := 0 }
abbrev rmX4_aim : Room := { frames := 1, cells := 0, slots := 0, locals := 22 }
abbrev rmX4_around : Room := { frames := 0, cells := 0, slots := 0, locals := 0 }
abbrev rmX4_aimAll : Room := { frames := 2, cells := 0, slots := 0, locals := 44 }
abbrev rmX4_begin : Room := { frames := 0, cells := 0, slots := 0, locals := 0 }
abbrev rmX4_isAnybody : Room := { frames := 0, cells := 0, slots := 0, locals := 0 }
abbrev rmX4_roundOn : Room := { frames := 3, cells := 0, slots := 0, locals := 65 }
abbrev rmX4_solve : Room := { frames := 4, cells := 0, slots := 0, locals := 89 }
abbrev rmX4_rankOf : Room := { frames := 2, cells := 0, slots := 0, locals := 45 }
abbrev rmX4_toldOf : Room := { frames := 3, cells := 0, slots := 0, locals := 67 }
abbrev rmX4_told : Room := { frames := 5, cells := 0, slots := 0, locals := 109 }
abbrev rmX4_points : Room := { frames := 4, cells := 0, slots := 0, locals := 89 }
abbrev rmX4_rank : Room := { frames := 3, cells := 0, slots := 0, locals := 67 }
abbrev rmX4_counted : Room := { frames := 5, cells := 0, slots := 0, locals := 109 }
abbrev rmX4_count : Room := { frames := 6, cells := 0, slots := 0, locals := 132 }
abbrev rmX4_isLiked : Room := { frames := 3, cells := 0, slots := 0, locals := 67 }
abbrev rmX4_swaps : Room := { frames := 5, cells := 0, slots := 0, locals := 109 }
abbrev rmX4_without : Room := { frames := 5, cells := 0, slots := 0, locals := 109 }
abbrev rmX4_feign : Room := { frames := 5, cells := 0, slots := 0, locals := 109 }
abbrev rmX4_move : Room := { frames := 5, cells := 0, slots := 0, locals := 109 }
abbrev rmX4_mean : Room := { frames := 5, cells := 0, slots := 0, locals := 109 }
abbrev rmX4_digest : Room := { frames := 6, cells := 0, slots := 0, locals := 132 }
abbrev rmX0_init : Room := { frames := 2, cells := 0, slots := 0, locals := 44 }
abbrev rmX0_size : Room := { frames := 1, cells := 0, slots := 0, locals := 20 }
abbrev rmX0_settle : Room := { frames := 3, cells := 0, slots := 0, locals := 66 }
abbrev rmX0_hutOf : Room := { frames := 1, cells := 0, slots := 0, locals := 21 }
abbrev rmX0_keeperIn : Room := { frames := 1, cells := 0, slots := 0, locals := 22 }
abbrev rmX0_likesOf : Room := { frames := 0, cells := 0, slots := 0, locals := 0 }
abbrev rmX0_rankOf : Room := { frames := 2, cells := 0, slots := 0, locals := 42 }
abbrev rmX0_moveInto : Room := { frames := 2, cells := 0, slots := 0, locals := 43 }
abbrev rmX1_init : Room := { frames := 1, cells := 0, slots := 0, locals := 24 }
abbrev rmX1_size : Room := { frames := 0, cells := 0, slots := 0, locals := 0 }
abbrev rmX1_at : Room := { frames := 0, cells := 0, slots := 0, locals := 0 }
abbrev rmX1_put : Room := { frames := 1, cells := 0, slots := 0, locals := 21 }
abbrev rmX1_placeOf : Room := { frames := 0, cells := 0, slots := 0, locals := 0 }
abbrev rmX1_insert : Room := { frames := 2, cells := 0, slots := 0, locals := 43 }
abbrev rmX1_take : Room := { frames := 2, cells := 0, slots := 0, locals := 43 }
abbrev rmX1_cutFrom : Room := { frames := 1, cells := 0, slots := 0, locals := 21 }
abbrev rmX1_refill : Room := { frames := 2, cells := 0, slots := 0, locals := 43 }
abbrev rmX1_sum : Room := { frames := 1, cells := 0, slots := 0, locals := 21 }
abbrev rmX1_greatest : Room := { frames := 1, cells := 0, slots := 0, locals := 24 }
abbrev rmX1_has : Room := { frames := 0, cells := 0, slots := 0, locals := 0 }
abbrev rmX2_init : Room := { frames := 2, cells := 0, slots := 0, locals := 44 }
abbrev rmX2_runForAll : Room := { frames := 5, cells := 0, slots := 0, locals := 113 }
abbrev rmX2_runWithout : Room := { frames := 5, cells := 0, slots := 0, locals := 113 }
abbrev rmX2_runFeigning : Room := { frames := 5, cells := 0, slots := 0, locals := 113 }
abbrev rmX2_hutFor : Room := { frames := 1, cells := 0, slots := 0, locals := 21 }
abbrev rmX2_roundOf : Room := { frames := 1, cells := 0, slots := 0, locals := 21 }
abbrev rmX2_ringSizeOf : Room := { frames := 1, cells := 0, slots := 0, locals := 21 }
abbrev rmX2_rounds : Room := { frames := 0, cells := 0, slots := 0, locals := 0 }
abbrev rmX2_ringsOfMore : Room := { frames := 0, cells := 0, slots := 0, locals := 0 }
abbrev rmX2_greatestRing : Room := { frames := 2, cells := 0, slots := 0, locals := 46 }
abbrev rmX2_roundsAdded : Room := { frames := 2, cells := 0, slots := 0, locals := 43 }
abbrev rmX2_isThereIn : Room := { frames := 1, cells := 0, slots := 0, locals := 21 }
abbrev rmX2_aimIn : Room := { frames := 2, cells := 0, slots := 0, locals := 44 }
abbrev rmX2_start : Room := { frames := 3, cells := 0, slots := 0, locals := 66 }
abbrev rmX2_runRounds : Room := { frames := 4, cells := 0, slots := 0, locals := 92 }
abbrev rmX2_aimAll : Room := { frames := 3, cells := 0, slots := 0, locals := 69 }
abbrev rmX2_closeRings : Room := { frames := 3, cells := 0, slots := 0, locals := 69 }
abbrev rmX2_stepsBackTo : Room := { frames := 1, cells := 0, slots := 0, locals := 21 }
abbrev rmX2_closeRing : Room := { frames := 2, cells := 0, slots := 0, locals := 43 }
abbrev rtX3_come : Room := { frames := 6, cells := 1, slots := 6, locals := 133 }
abbrev rtX3_wish : Room := { frames := 7, cells := 1, slots := 6, locals := 133 }
abbrev rtX3_drop : Room := { frames := 7, cells := 1, slots := 6, locals := 133 }
abbrev rtX3_list : Room := { frames := 7, cells := 1, slots := 6, locals := 111 }
abbrev rtX3_told : Room := { frames := 7, cells := 1, slots := 6, locals := 111 }
abbrev rtX3_points : Room := { frames := 7, cells := 1, slots := 6, locals := 111 }
abbrev rtX3_rank : Room := { frames := 7, cells := 1, slots := 6, locals := 111 }
abbrev rtX3_count : Room := { frames := 6, cells := 1, slots := 6, locals := 108 }
abbrev rtX3_swaps : Room := { frames := 7, cells := 1, slots := 6, locals := 111 }
abbrev rtX3_without : Room := { frames := 7, cells := 1, slots := 6, locals := 134 }
abbrev rtX3_feign : Room := { frames := 7, cells := 1, slots := 6, locals := 135 }
abbrev rtX3_needKeeper : Room := { frames := 6, cells := 1, slots := 6, locals := 90 }
abbrev rtX3_needHut : Room := { frames := 6, cells := 1, slots := 6, locals := 90 }
abbrev rtX3_needPlace : Room := { frames := 6, cells := 1, slots := 6, locals := 90 }
