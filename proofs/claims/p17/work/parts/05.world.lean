/-! call rows by the kind of answer -/
section AWN
variable {p : Program} {l : Launch} {e : Env} {R : Room} {s : State} {m : MethodId} {args : Array Value} {below : List Frame} {meth : Method} {c : Code} {Q : State → Prop} {D : va_G} {tys : List (ClassId × FieldType)} {A : Nat → Prop} {cells slots nL n pc : Nat} {a : Nat → Nat} {v v' : Nat → va_E} {lv : List (Option Value)} {st rest : List Value} {cc bytes : ByteArray} {Ts ws : List Cond} {own C' : String} {ret ret' : Option FieldType} {y : MethodName} {rm : Room} {maxL ix b : Nat}
theorem aw_cV0 {x : Value} (C : aC p s m args meth c D tys A cc nL Ts own ret) (d : decode cc pc = .ok (.invokevirtual ix, 3)) (g : GoodIn Ts (wsV own ix C' y ws)) (sy : sY y C' bytes maxL ret' ws 0) (hk : aChk rm maxL R lv nL cells slots 0 0 rest = true) (hr : aRec n a v b C') (hM : aM l D tys n a y ws rm [.ref b] v (some x) v') (k : aW p l e R s m args below meth c Q D A cells slots n a v' (pc + 3) lv (x :: rest)) : aW p l e R s m args below meth c Q D A cells slots n a v pc lv (.ref b :: rest) := aw_callV0 C d g sy hk hr hM k
theorem aw_cV0v (C : aC p s m args meth c D tys A cc nL Ts own ret) (d : decode cc pc = .ok (.invokevirtual ix, 3)) (g : GoodIn Ts (wsV own ix C' y ws)) (sy : sY y C' bytes maxL ret' ws 0) (hk : aChk rm maxL R lv nL cells slots 0 0 rest = true) (hr : aRec n a v b C') (hM : aM l D tys n a y ws rm [.ref b] v none v') (k : aW p l e R s m args below meth c Q D A cells slots n a v' (pc + 3) lv (rest)) : aW p l e R s m args below meth c Q D A cells slots n a v pc lv (.ref b :: rest) := aw_callV0 C d g sy hk hr hM k
theorem aw_cV1 {x1 : Value} {x : Value} (C : aC p s m args meth c D tys A cc nL Ts own ret) (d : decode cc pc = .ok (.invokevirtual ix, 3)) (g : GoodIn Ts (wsV own ix C' y ws)) (sy : sY y C' bytes maxL ret' ws 1) (hk : aChk rm maxL R lv nL cells slots 0 0 rest = true) (hr : aRec n a v b C') (hM : aM l D tys n a y ws rm [.ref b, x1] v (some x) v') (k : aW p l e R s m args below meth c Q D A cells slots n a v' (pc + 3) lv (x :: rest)) : aW p l e R s m args below meth c Q D A cells slots n a v pc lv (x1 :: .ref b :: rest) := aw_callV1 C d g sy hk hr hM k
theorem aw_cV1v {x1 : Value} (C : aC p s m args meth c D tys A cc nL Ts own ret) (d : decode cc pc = .ok (.invokevirtual ix, 3)) (g : GoodIn Ts (wsV own ix C' y ws)) (sy : sY y C' bytes maxL ret' ws 1) (hk : aChk rm maxL R lv nL cells slots 0 0 rest = true) (hr : aRec n a v b C') (hM : aM l D tys n a y ws rm [.ref b, x1] v none v') (k : aW p l e R s m args below meth c Q D A cells slots n a v' (pc + 3) lv (rest)) : aW p l e R s m args below meth c Q D A cells slots n a v pc lv (x1 :: .ref b :: rest) := aw_callV1 C d g sy hk hr hM k
theorem aw_cV2 {x1 x2 : Value} {x : Value} (C : aC p s m args meth c D tys A cc nL Ts own ret) (d : decode cc pc = .ok (.invokevirtual ix, 3)) (g : GoodIn Ts (wsV own ix C' y ws)) (sy : sY y C' bytes maxL ret' ws 2) (hk : aChk rm maxL R lv nL cells slots 0 0 rest = true) (hr : aRec n a v b C') (hM : aM l D tys n a y ws rm [.ref b, x1, x2] v (some x) v') (k : aW p l e R s m args below meth c Q D A cells slots n a v' (pc + 3) lv (x :: rest)) : aW p l e R s m args below meth c Q D A cells slots n a v pc lv (x2 :: x1 :: .ref b :: rest) := aw_callV2 C d g sy hk hr hM k
theorem aw_cV2v {x1 x2 : Value} (C : aC p s m args meth c D tys A cc nL Ts own ret) (d : decode cc pc = .ok (.invokevirtual ix, 3)) (g : GoodIn Ts (wsV own ix C' y ws)) (sy : sY y C' bytes maxL ret' ws 2) (hk : aChk rm maxL R lv nL cells slots 0 0 rest = true) (hr : aRec n a v b C') (hM : aM l D tys n a y ws rm [.ref b, x1, x2] v none v') (k : aW p l e R s m args below meth c Q D A cells slots n a v' (pc + 3) lv (rest)) : aW p l e R s m args below meth c Q D A cells slots n a v pc lv (x2 :: x1 :: .ref b :: rest) := aw_callV2 C d g sy hk hr hM k
theorem aw_cV3 {x1 x2 x3 : Value} {x : Value} (C : aC p s m args meth c D tys A cc nL Ts own ret) (d : decode cc pc = .ok (.invokevirtual ix, 3)) (g : GoodIn Ts (wsV own ix C' y ws)) (sy : sY y C' bytes maxL ret' ws 3) (hk : aChk rm maxL R lv nL cells slots 0 0 rest = true) (hr : aRec n a v b C') (hM : aM l D tys n a y ws rm [.ref b, x1, x2, x3] v (some x) v') (k : aW p l e R s m args below meth c Q D A cells slots n a v' (pc + 3) lv (x :: rest)) : aW p l e R s m args below meth c Q D A cells slots n a v pc lv (x3 :: x2 :: x1 :: .ref b :: rest) := aw_callV3 C d g sy hk hr hM k
theorem aw_cV3v {x1 x2 x3 : Value} (C : aC p s m args meth c D tys A cc nL Ts own ret) (d : decode cc pc = .ok (.invokevirtual ix, 3)) (g : GoodIn Ts (wsV own ix C' y ws)) (sy : sY y C' bytes maxL ret' ws 3) (hk : aChk rm maxL R lv nL cells slots 0 0 rest = true) (hr : aRec n a v b C') (hM : aM l D tys n a y ws rm [.ref b, x1, x2, x3] v none v') (k : aW p l e R s m args below meth c Q D A cells slots n a v' (pc + 3) lv (rest)) : aW p l e R s m args below meth c Q D A cells slots n a v pc lv (x3 :: x2 :: x1 :: .ref b :: rest) := aw_callV3 C d g sy hk hr hM k
theorem aw_cS2 {x1 x2 : Value} {x : Value} (C : aC p s m args meth c D tys A cc nL Ts own ret) (d : decode cc pc = .ok (.invokestatic ix, 3)) (g : GoodIn Ts (va_wsS own ix y ws)) (sy : sY y C' bytes maxL ret' ws 2) (hk : aChk rm maxL R lv nL cells slots 0 0 rest = true) (hM : aM l D tys n a y ws rm [x1, x2] v (some x) v') (k : aW p l e R s m args below meth c Q D A cells slots n a v' (pc + 3) lv (x :: rest)) : aW p l e R s m args below meth c Q D A cells slots n a v pc lv (x2 :: x1 :: rest) := aw_callS2 C d g sy hk hM k
theorem aw_cS2v {x1 x2 : Value} (C : aC p s m args meth c D tys A cc nL Ts own ret) (d : decode cc pc = .ok (.invokestatic ix, 3)) (g : GoodIn Ts (va_wsS own ix y ws)) (sy : sY y C' bytes maxL ret' ws 2) (hk : aChk rm maxL R lv nL cells slots 0 0 rest = true) (hM : aM l D tys n a y ws rm [x1, x2] v none v') (k : aW p l e R s m args below meth c Q D A cells slots n a v' (pc + 3) lv (rest)) : aW p l e R s m args below meth c Q D A cells slots n a v pc lv (x2 :: x1 :: rest) := aw_callS2 C d g sy hk hM k
theorem aw_cS3 {x1 x2 x3 : Value} {x : Value} (C : aC p s m args meth c D tys A cc nL Ts own ret) (d : decode cc pc = .ok (.invokestatic ix, 3)) (g : GoodIn Ts (va_wsS own ix y ws)) (sy : sY y C' bytes maxL ret' ws 3) (hk : aChk rm maxL R lv nL cells slots 0 0 rest = true) (hM : aM l D tys n a y ws rm [x1, x2, x3] v (some x) v') (k : aW p l e R s m args below meth c Q D A cells slots n a v' (pc + 3) lv (x :: rest)) : aW p l e R s m args below meth c Q D A cells slots n a v pc lv (x3 :: x2 :: x1 :: rest) := aw_callS3 C d g sy hk hM k
theorem aw_cS3v {x1 x2 x3 : Value} (C : aC p s m args meth c D tys A cc nL Ts own ret) (d : decode cc pc = .ok (.invokestatic ix, 3)) (g : GoodIn Ts (va_wsS own ix y ws)) (sy : sY y C' bytes maxL ret' ws 3) (hk : aChk rm maxL R lv nL cells slots 0 0 rest = true) (hM : aM l D tys n a y ws rm [x1, x2, x3] v none v') (k : aW p l e R s m args below meth c Q D A cells slots n a v' (pc + 3) lv (rest)) : aW p l e R s m args below meth c Q D A cells slots n a v pc lv (x3 :: x2 :: x1 :: rest) := aw_callS3 C d g sy hk hM k
theorem aw_ldc2 {ret : Option FieldType} (C : aC p s m args meth c D tys A cc nL Ts own ret) {x : Int64} (d : decode cc pc = .ok (.ldc2_w ix, 3)) (h : Cond.constantLong own ix x ∈ Ts) (k : aW p l e R s m args below meth c Q D A cells slots n a v (pc + 3) lv (.long x :: st)) : aW p l e R s m args below meth c Q D A cells slots n a v pc lv st := fun H locs ls hP hD hS hL => lv_ldc2 C.1.1 C.1.2.1 C.1.2.2.2.1 (C.1.2.2.2.2 _ h) d (k H locs ls hP hD hS hL)
theorem aw_iend {x : Int32} {r : Option Value} (C : aC p s m args meth c D tys A cc nL Ts own (some .int)) (d : decode cc pc = .ok (.ireturn, 1)) (hv : v = v') (hr : some (.int x) = r) : aW p l e R s m args below meth c (MQ below (aQ D n a v' r A) args s cells slots A) D A cells slots n a v pc lv [.int x] := by subst hv; exact aw_iret C d hr
theorem aw_lend {x : Int64} {r : Option Value} (C : aC p s m args meth c D tys A cc nL Ts own (some .long)) (d : decode cc pc = .ok (.lreturn, 1)) (hv : v = v') (hr : some (.long x) = r) : aW p l e R s m args below meth c (MQ below (aQ D n a v' r A) args s cells slots A) D A cells slots n a v pc lv [.long x] := by subst hv; exact aw_lret C d hr
theorem aw_dend {x : UInt64} {r : Option Value} (C : aC p s m args meth c D tys A cc nL Ts own (some .double)) (d : decode cc pc = .ok (.dreturn, 1)) (hv : v = v') (hr : some (.double x) = r) : aW p l e R s m args below meth c (MQ below (aQ D n a v' r A) args s cells slots A) D A cells slots n a v pc lv [.double x] := by subst hv; exact aw_dret C d hr
theorem aw_zend {x : Int32} {r : Option Value} (C : aC p s m args meth c D tys A cc nL Ts own (some .boolean)) (d : decode cc pc = .ok (.ireturn, 1)) (hx : narrow .boolean (.int x) = .int x) (hv : v = v') (hr : some (.int x) = r) : aW p l e R s m args below meth c (MQ below (aQ D n a v' r A) args s cells slots A) D A cells slots n a v pc lv [.int x] := by subst hv; exact aw_zret C d hx hr
theorem aw_aend {x : Nat} {Cn : String} {r : Option Value} (C : aC p s m args meth c D tys A cc nL Ts own (some (.object Cn))) (d : decode cc pc = .ok (.areturn, 1)) (hv : v = v') (hr : some (.ref x) = r) : aW p l e R s m args below meth c (MQ below (aQ D n a v' r A) args s cells slots A) D A cells slots n a v pc lv [.ref x] := by subst hv; exact aw_aret C d hr
theorem aw_vend {r : Option Value} (C : aC p s m args meth c D tys A cc nL Ts own none) (d : decode cc pc = .ok (.return_, 1)) (hv : v = v') (hr : none = r) : aW p l e R s m args below meth c (MQ below (aQ D n a v' r A) args s cells slots A) D A cells slots n a v pc lv [] := by subst hv; exact aw_vret C d hr
end AWN
/-! THE CLASS'S WORLD. 22 rows (object at ra j, numbers at ca j): 0 huts, 1..10 likes, 11 noLikes, then for each trade t gets, doneIn, ringSizes, aims, feignedLikes. -/
abbrev CS : Type := (Nat → Nat) × (Nat → Nat → Int32) × (Nat → Int32)
def updN (f : Nat → Nat) (k x : Nat) : Nat → Nat := fun j => if j = k then x else f j
def ra (a : Nat → Nat) (j : Nat) : Nat := a (2 * j)
def ca (a : Nat → Nat) (j : Nat) : Nat := a (2 * j + 1)
def ta (a : Nat → Nat) (t : Nat) : Nat := a (47 + t)
def kR (k : Nat) : Nat := 1 + k
def gR (t : Nat) : Nat := 12 + 5 * t
def dR (t : Nat) : Nat := 13 + 5 * t
def zR (t : Nat) : Nat := 14 + 5 * t
def mR (t : Nat) : Nat := 15 + 5 * t
def fR (t : Nat) : Nat := 16 + 5 * t
def cTys (cI cZ cR cJ : ClassId) : List (ClassId × FieldType) := [(cI, .int), (cZ, .boolean), (cR, .object "HutRings$Row"), (cJ, .array .int)]
def cv (cI cR : ClassId) (a : Nat → Nat) (σ : CS) : Nat → va_E := fun k =>
  if k < 44 then (if k % 2 = 0 then .inr (1, [.ref (ca a (k / 2)), .int (nI (σ.1 (k / 2)))]) else .inl (cI, 10, .inl (σ.2.1 (k / 2))))
  else if k = 44 then .inr (3, [.ref (a 45), .ref (ta a 0), .ref (ta a 1)])
  else if k = 45 then .inr (0, [.ref (ra a 0), .ref (a 46), .ref (ra a 11)])
  else if k = 46 then .inl (cR, 10, .inr (.inr (.inr (.inr (fun i => if i < 10 then some (ra a (kR i)) else none)))))
  else .inr (2, [.ref (a 45), .ref (ra a (gR (k - 47))), .ref (ra a (dR (k - 47))), .ref (ra a (zR (k - 47))), .ref (ra a (mR (k - 47))), .ref (ra a (fR (k - 47))), .int (σ.2.2 (3 * (k - 47))), .int (σ.2.2 (3 * (k - 47) + 1)), .int (σ.2.2 (3 * (k - 47) + 2))])
def cs1 (σ : CS) (j n : Nat) : CS := (updN σ.1 j n, σ.2.1, σ.2.2)
def cs2 (σ : CS) (j i : Nat) (x : Int32) : CS := (σ.1, fun q => if q = j then upd (σ.2.1 j) i x else σ.2.1 q, σ.2.2)
def cs3 (σ : CS) (i : Nat) (x : Int32) : CS := (σ.1, σ.2.1, upd σ.2.2 i x)
section CVT
variable {cI cR : ClassId} {a : Nat → Nat} {σ : CS} {j t : Nat}
theorem cv_row (hj : j < 22) : cv cI cR a σ (2 * j) = .inr (1, [.ref (ca a j), .int (nI (σ.1 j))]) := by
  simp [cv, show 2 * j < 44 by omega]
theorem cv_cel (hj : j < 22) : cv cI cR a σ (2 * j + 1) = .inl (cI, 10, .inl (σ.2.1 j)) := by
  simp [cv, show 2 * j + 1 < 44 by omega, show (2 * j + 1) % 2 = 1 by omega, show (2 * j + 1) / 2 = j by omega]
theorem cv_hut : cv cI cR a σ 44 = .inr (3, [.ref (a 45), .ref (ta a 0), .ref (ta a 1)]) := rfl
theorem cv_land : cv cI cR a σ 45 = .inr (0, [.ref (ra a 0), .ref (a 46), .ref (ra a 11)]) := rfl
theorem cv_lik : cv cI cR a σ 46 = .inl (cR, 10, .inr (.inr (.inr (.inr (fun i => if i < 10 then some (ra a (kR i)) else none))))) := rfl
theorem cv_tr (ht : t < 2) : cv cI cR a σ (47 + t) = .inr (2, [.ref (a 45), .ref (ra a (gR t)), .ref (ra a (dR t)), .ref (ra a (zR t)), .ref (ra a (mR t)), .ref (ra a (fR t)), .int (σ.2.2 (3 * t)), .int (σ.2.2 (3 * t + 1)), .int (σ.2.2 (3 * t + 2))]) := by
  rcases (show t = 0 ∨ t = 1 by omega) with rfl | rfl <;> rfl
theorem cv_s1 {n : Nat} (hj : j < 22) : wset (cv cI cR a σ) (2 * j) (.inr (1, [.ref (ca a j), .int (nI n)])) = cv cI cR a (cs1 σ j n) := by
  funext k
  by_cases e : k = 2 * j
  · subst e
    rw [cv_row hj]
    simp [wset, cs1, updN]
  · simp only [wset, if_neg e, cv, cs1, updN]
    by_cases h : k < 44
    · by_cases h2 : k % 2 = 0
      · simp [h, h2, show ¬ k / 2 = j by omega]
      · simp [h, h2]
    · simp [h]
theorem cv_s2 {i : Nat} {x : Int32} (hj : j < 22) : wset (cv cI cR a σ) (2 * j + 1) (.inl (cI, 10, .inl (upd (σ.2.1 j) i x))) = cv cI cR a (cs2 σ j i x) := by
  funext k
  by_cases e : k = 2 * j + 1
  · subst e
    rw [cv_cel hj]
    simp [wset, cs2]
  · simp only [wset, if_neg e, cv, cs2]
    by_cases h : k < 44
    · by_cases h2 : k % 2 = 0
      · simp [h, h2]
      · simp [h, h2, show ¬ k / 2 = j by omega]
    · simp [h]
theorem cv_s3_0 {x : Int32} (ht : t < 2) : wset (cv cI cR a σ) (47 + t) (.inr (2, [.ref (a 45), .ref (ra a (gR t)), .ref (ra a (dR t)), .ref (ra a (zR t)), .ref (ra a (mR t)), .ref (ra a (fR t)), .int x, .int (σ.2.2 (3 * t + 1)), .int (σ.2.2 (3 * t + 2))])) = cv cI cR a (cs3 σ (3 * t) x) := by
  funext k
  by_cases e : k = 47 + t
  · subst e
    rw [cv_tr ht]
    rcases (show t = 0 ∨ t = 1 by omega) with rfl | rfl <;> simp [wset, cs3, upd]
  · simp only [wset, if_neg e]
    by_cases h : k < 44
    · by_cases h2 : k % 2 = 0
      · simp [cv, cs3, h, h2]
      · simp [cv, cs3, h, h2]
    · by_cases h44 : k = 44
      · simp [cv, cs3, h44]
      · by_cases h45 : k = 45
        · simp [cv, cs3, h45]
        · by_cases h46 : k = 46
          · simp [cv, cs3, h46]
          · simp only [cv, cs3, if_neg h, if_neg h44, if_neg h45, if_neg h46, upd]
            rw [if_neg (by omega), if_neg (by omega), if_neg (by omega)]
theorem cv_s3_1 {x : Int32} (ht : t < 2) : wset (cv cI cR a σ) (47 + t) (.inr (2, [.ref (a 45), .ref (ra a (gR t)), .ref (ra a (dR t)), .ref (ra a (zR t)), .ref (ra a (mR t)), .ref (ra a (fR t)), .int (σ.2.2 (3 * t)), .int x, .int (σ.2.2 (3 * t + 2))])) = cv cI cR a (cs3 σ (3 * t + 1) x) := by
  funext k
  by_cases e : k = 47 + t
  · subst e
    rw [cv_tr ht]
    rcases (show t = 0 ∨ t = 1 by omega) with rfl | rfl <;> simp [wset, cs3, upd]
  · simp only [wset, if_neg e]
    by_cases h : k < 44
    · by_cases h2 : k % 2 = 0
      · simp [cv, cs3, h, h2]
      · simp [cv, cs3, h, h2]
    · by_cases h44 : k = 44
      · simp [cv, cs3, h44]
      · by_cases h45 : k = 45
        · simp [cv, cs3, h45]
        · by_cases h46 : k = 46
          · simp [cv, cs3, h46]
          · simp only [cv, cs3, if_neg h, if_neg h44, if_neg h45, if_neg h46, upd]
            rw [if_neg (by omega), if_neg (by omega), if_neg (by omega)]
theorem cv_s3_2 {x : Int32} (ht : t < 2) : wset (cv cI cR a σ) (47 + t) (.inr (2, [.ref (a 45), .ref (ra a (gR t)), .ref (ra a (dR t)), .ref (ra a (zR t)), .ref (ra a (mR t)), .ref (ra a (fR t)), .int (σ.2.2 (3 * t)), .int (σ.2.2 (3 * t + 1)), .int x])) = cv cI cR a (cs3 σ (3 * t + 2) x) := by
  funext k
  by_cases e : k = 47 + t
  · subst e
    rw [cv_tr ht]
    rcases (show t = 0 ∨ t = 1 by omega) with rfl | rfl <;> simp [wset, cs3, upd]
  · simp only [wset, if_neg e]
    by_cases h : k < 44
    · by_cases h2 : k % 2 = 0
      · simp [cv, cs3, h, h2]
      · simp [cv, cs3, h, h2]
    · by_cases h44 : k = 44
      · simp [cv, cs3, h44]
      · by_cases h45 : k = 45
        · simp [cv, cs3, h45]
        · by_cases h46 : k = 46
          · simp [cv, cs3, h46]
          · simp only [cv, cs3, if_neg h, if_neg h44, if_neg h45, if_neg h46, upd]
            rw [if_neg (by omega), if_neg (by omega), if_neg (by omega)]
end CVT
section CVR
variable {p : Program} {l : Launch} {e : Env} {R : Room} {s : State} {m : MethodId} {args : Array Value} {below : List Frame} {meth : Method} {c : Code} {Q : State → Prop} {D : va_G} {A : Nat → Prop} {cells slots nL pc ix : Nat} {a : Nat → Nat} {σ : CS} {lv : List (Option Value)} {st : List Value} {cc : ByteArray} {Ts : List Cond} {own : String} {ret : Option FieldType} {cI cZ cR cJ : ClassId} {j t : Nat}
theorem recRow (hj : j < 22) : aRec 49 a (cv cI cR a σ) (ra a j) RX1 := ⟨2 * j, 1, _, TX1, 2, by omega, rfl, cv_row hj, rfl⟩
theorem recLand : aRec 49 a (cv cI cR a σ) (a 45) RX0 := ⟨45, 0, _, TX0, 3, by omega, rfl, cv_land, rfl⟩
theorem recTr (ht : t < 2) : aRec 49 a (cv cI cR a σ) (ta a t) RX2 := ⟨47 + t, 2, _, TX2, 9, by omega, rfl, cv_tr ht, rfl⟩
theorem recHut : aRec 49 a (cv cI cR a σ) (a 44) RX3 := ⟨44, 3, _, TX3, 3, by omega, rfl, cv_hut, rfl⟩
theorem aw_gX1_cells (C : aC p s m args meth c D (cTys cI cZ cR cJ) A cc nL Ts own ret) (hj : j < 22) (d : decode cc pc = .ok (.getfield ix, 3)) (hin : ∀ w ∈ wsX10, w ∈ Ts) (hlk : Cond.fieldLink own ix "HutRings$Row" "cells" "[I" ∈ Ts) (k : aW p l e R s m args below meth c Q D A cells slots 49 a (cv cI cR a σ) (pc + 3) lv (.ref (ca a j) :: st)) : aW p l e R s m args below meth c Q D A cells slots 49 a (cv cI cR a σ) (pc) lv (.ref (ra a j) :: st) := aw_getf (q := 2 * j) (ci := 1) (j := 0) (T := TX1) (N := 2) C d (by omega) rfl (cv_row hj) rfl hin (by decide) hlk rfl rfl k
theorem aw_gX1_size (C : aC p s m args meth c D (cTys cI cZ cR cJ) A cc nL Ts own ret) (hj : j < 22) (d : decode cc pc = .ok (.getfield ix, 3)) (hin : ∀ w ∈ wsX10, w ∈ Ts) (hlk : Cond.fieldLink own ix "HutRings$Row" "size" "I" ∈ Ts) (k : aW p l e R s m args below meth c Q D A cells slots 49 a (cv cI cR a σ) (pc + 3) lv (.int (nI (σ.1 j)) :: st)) : aW p l e R s m args below meth c Q D A cells slots 49 a (cv cI cR a σ) (pc) lv (.ref (ra a j) :: st) := aw_getf (q := 2 * j) (ci := 1) (j := 1) (T := TX1) (N := 2) C d (by omega) rfl (cv_row hj) rfl hin (by decide) hlk rfl rfl k
theorem aw_gX0_huts (C : aC p s m args meth c D (cTys cI cZ cR cJ) A cc nL Ts own ret)  (d : decode cc pc = .ok (.getfield ix, 3)) (hin : ∀ w ∈ wsX00, w ∈ Ts) (hlk : Cond.fieldLink own ix "HutRings$Land" "huts" "LHutRings$Row;" ∈ Ts) (k : aW p l e R s m args below meth c Q D A cells slots 49 a (cv cI cR a σ) (pc + 3) lv (.ref (ra a 0) :: st)) : aW p l e R s m args below meth c Q D A cells slots 49 a (cv cI cR a σ) (pc) lv (.ref (a 45) :: st) := aw_getf (q := 45) (ci := 0) (j := 0) (T := TX0) (N := 3) C d (by omega) rfl cv_land rfl hin (by decide) hlk rfl rfl k
theorem aw_gX0_likes (C : aC p s m args meth c D (cTys cI cZ cR cJ) A cc nL Ts own ret)  (d : decode cc pc = .ok (.getfield ix, 3)) (hin : ∀ w ∈ wsX00, w ∈ Ts) (hlk : Cond.fieldLink own ix "HutRings$Land" "likes" "[LHutRings$Row;" ∈ Ts) (k : aW p l e R s m args below meth c Q D A cells slots 49 a (cv cI cR a σ) (pc + 3) lv (.ref (a 46) :: st)) : aW p l e R s m args below meth c Q D A cells slots 49 a (cv cI cR a σ) (pc) lv (.ref (a 45) :: st) := aw_getf (q := 45) (ci := 0) (j := 1) (T := TX0) (N := 3) C d (by omega) rfl cv_land rfl hin (by decide) hlk rfl rfl k
theorem aw_gX0_noLikes (C : aC p s m args meth c D (cTys cI cZ cR cJ) A cc nL Ts own ret)  (d : decode cc pc = .ok (.getfield ix, 3)) (hin : ∀ w ∈ wsX00, w ∈ Ts) (hlk : Cond.fieldLink own ix "HutRings$Land" "noLikes" "LHutRings$Row;" ∈ Ts) (k : aW p l e R s m args below meth c Q D A cells slots 49 a (cv cI cR a σ) (pc + 3) lv (.ref (ra a 11) :: st)) : aW p l e R s m args below meth c Q D A cells slots 49 a (cv cI cR a σ) (pc) lv (.ref (a 45) :: st) := aw_getf (q := 45) (ci := 0) (j := 2) (T := TX0) (N := 3) C d (by omega) rfl cv_land rfl hin (by decide) hlk rfl rfl k
theorem aw_gX2_land (C : aC p s m args meth c D (cTys cI cZ cR cJ) A cc nL Ts own ret) (ht : t < 2) (d : decode cc pc = .ok (.getfield ix, 3)) (hin : ∀ w ∈ wsX20, w ∈ Ts) (hlk : Cond.fieldLink own ix "HutRings$Trade" "land" "LHutRings$Land;" ∈ Ts) (k : aW p l e R s m args below meth c Q D A cells slots 49 a (cv cI cR a σ) (pc + 3) lv (.ref (a 45) :: st)) : aW p l e R s m args below meth c Q D A cells slots 49 a (cv cI cR a σ) (pc) lv (.ref (ta a t) :: st) := aw_getf (q := 47 + t) (ci := 2) (j := 0) (T := TX2) (N := 9) C d (by omega) rfl (cv_tr ht) rfl hin (by decide) hlk rfl rfl k
theorem aw_gX2_gets (C : aC p s m args meth c D (cTys cI cZ cR cJ) A cc nL Ts own ret) (ht : t < 2) (d : decode cc pc = .ok (.getfield ix, 3)) (hin : ∀ w ∈ wsX20, w ∈ Ts) (hlk : Cond.fieldLink own ix "HutRings$Trade" "gets" "LHutRings$Row;" ∈ Ts) (k : aW p l e R s m args below meth c Q D A cells slots 49 a (cv cI cR a σ) (pc + 3) lv (.ref (ra a (gR t)) :: st)) : aW p l e R s m args below meth c Q D A cells slots 49 a (cv cI cR a σ) (pc) lv (.ref (ta a t) :: st) := aw_getf (q := 47 + t) (ci := 2) (j := 1) (T := TX2) (N := 9) C d (by omega) rfl (cv_tr ht) rfl hin (by decide) hlk rfl rfl k
theorem aw_gX2_doneIn (C : aC p s m args meth c D (cTys cI cZ cR cJ) A cc nL Ts own ret) (ht : t < 2) (d : decode cc pc = .ok (.getfield ix, 3)) (hin : ∀ w ∈ wsX20, w ∈ Ts) (hlk : Cond.fieldLink own ix "HutRings$Trade" "doneIn" "LHutRings$Row;" ∈ Ts) (k : aW p l e R s m args below meth c Q D A cells slots 49 a (cv cI cR a σ) (pc + 3) lv (.ref (ra a (dR t)) :: st)) : aW p l e R s m args below meth c Q D A cells slots 49 a (cv cI cR a σ) (pc) lv (.ref (ta a t) :: st) := aw_getf (q := 47 + t) (ci := 2) (j := 2) (T := TX2) (N := 9) C d (by omega) rfl (cv_tr ht) rfl hin (by decide) hlk rfl rfl k
theorem aw_gX2_ringSizes (C : aC p s m args meth c D (cTys cI cZ cR cJ) A cc nL Ts own ret) (ht : t < 2) (d : decode cc pc = .ok (.getfield ix, 3)) (hin : ∀ w ∈ wsX20, w ∈ Ts) (hlk : Cond.fieldLink own ix "HutRings$Trade" "ringSizes" "LHutRings$Row;" ∈ Ts) (k : aW p l e R s m args below meth c Q D A cells slots 49 a (cv cI cR a σ) (pc + 3) lv (.ref (ra a (zR t)) :: st)) : aW p l e R s m args below meth c Q D A cells slots 49 a (cv cI cR a σ) (pc) lv (.ref (ta a t) :: st) := aw_getf (q := 47 + t) (ci := 2) (j := 3) (T := TX2) (N := 9) C d (by omega) rfl (cv_tr ht) rfl hin (by decide) hlk rfl rfl k
theorem aw_gX2_aims (C : aC p s m args meth c D (cTys cI cZ cR cJ) A cc nL Ts own ret) (ht : t < 2) (d : decode cc pc = .ok (.getfield ix, 3)) (hin : ∀ w ∈ wsX20, w ∈ Ts) (hlk : Cond.fieldLink own ix "HutRings$Trade" "aims" "LHutRings$Row;" ∈ Ts) (k : aW p l e R s m args below meth c Q D A cells slots 49 a (cv cI cR a σ) (pc + 3) lv (.ref (ra a (mR t)) :: st)) : aW p l e R s m args below meth c Q D A cells slots 49 a (cv cI cR a σ) (pc) lv (.ref (ta a t) :: st) := aw_getf (q := 47 + t) (ci := 2) (j := 4) (T := TX2) (N := 9) C d (by omega) rfl (cv_tr ht) rfl hin (by decide) hlk rfl rfl k
theorem aw_gX2_feignedLikes (C : aC p s m args meth c D (cTys cI cZ cR cJ) A cc nL Ts own ret) (ht : t < 2) (d : decode cc pc = .ok (.getfield ix, 3)) (hin : ∀ w ∈ wsX20, w ∈ Ts) (hlk : Cond.fieldLink own ix "HutRings$Trade" "feignedLikes" "LHutRings$Row;" ∈ Ts) (k : aW p l e R s m args below meth c Q D A cells slots 49 a (cv cI cR a σ) (pc + 3) lv (.ref (ra a (fR t)) :: st)) : aW p l e R s m args below meth c Q D A cells slots 49 a (cv cI cR a σ) (pc) lv (.ref (ta a t) :: st) := aw_getf (q := 47 + t) (ci := 2) (j := 5) (T := TX2) (N := 9) C d (by omega) rfl (cv_tr ht) rfl hin (by decide) hlk rfl rfl k
theorem aw_gX2_feigner (C : aC p s m args meth c D (cTys cI cZ cR cJ) A cc nL Ts own ret) (ht : t < 2) (d : decode cc pc = .ok (.getfield ix, 3)) (hin : ∀ w ∈ wsX20, w ∈ Ts) (hlk : Cond.fieldLink own ix "HutRings$Trade" "feigner" "I" ∈ Ts) (k : aW p l e R s m args below meth c Q D A cells slots 49 a (cv cI cR a σ) (pc + 3) lv (.int (σ.2.2 (3 * t)) :: st)) : aW p l e R s m args below meth c Q D A cells slots 49 a (cv cI cR a σ) (pc) lv (.ref (ta a t) :: st) := aw_getf (q := 47 + t) (ci := 2) (j := 6) (T := TX2) (N := 9) C d (by omega) rfl (cv_tr ht) rfl hin (by decide) hlk rfl rfl k
theorem aw_gX2_rounds (C : aC p s m args meth c D (cTys cI cZ cR cJ) A cc nL Ts own ret) (ht : t < 2) (d : decode cc pc = .ok (.getfield ix, 3)) (hin : ∀ w ∈ wsX20, w ∈ Ts) (hlk : Cond.fieldLink own ix "HutRings$Trade" "rounds" "I" ∈ Ts) (k : aW p l e R s m args below meth c Q D A cells slots 49 a (cv cI cR a σ) (pc + 3) lv (.int (σ.2.2 (3 * t + 1)) :: st)) : aW p l e R s m args below meth c Q D A cells slots 49 a (cv cI cR a σ) (pc) lv (.ref (ta a t) :: st) := aw_getf (q := 47 + t) (ci := 2) (j := 7) (T := TX2) (N := 9) C d (by omega) rfl (cv_tr ht) rfl hin (by decide) hlk rfl rfl k
theorem aw_gX2_ringsOfMore (C : aC p s m args meth c D (cTys cI cZ cR cJ) A cc nL Ts own ret) (ht : t < 2) (d : decode cc pc = .ok (.getfield ix, 3)) (hin : ∀ w ∈ wsX20, w ∈ Ts) (hlk : Cond.fieldLink own ix "HutRings$Trade" "ringsOfMore" "I" ∈ Ts) (k : aW p l e R s m args below meth c Q D A cells slots 49 a (cv cI cR a σ) (pc + 3) lv (.int (σ.2.2 (3 * t + 2)) :: st)) : aW p l e R s m args below meth c Q D A cells slots 49 a (cv cI cR a σ) (pc) lv (.ref (ta a t) :: st) := aw_getf (q := 47 + t) (ci := 2) (j := 8) (T := TX2) (N := 9) C d (by omega) rfl (cv_tr ht) rfl hin (by decide) hlk rfl rfl k
theorem aw_gX3_land (C : aC p s m args meth c D (cTys cI cZ cR cJ) A cc nL Ts own ret)  (d : decode cc pc = .ok (.getfield ix, 3)) (hin : ∀ w ∈ wsX30, w ∈ Ts) (hlk : Cond.fieldLink own ix "HutRings" "land" "LHutRings$Land;" ∈ Ts) (k : aW p l e R s m args below meth c Q D A cells slots 49 a (cv cI cR a σ) (pc + 3) lv (.ref (a 45) :: st)) : aW p l e R s m args below meth c Q D A cells slots 49 a (cv cI cR a σ) (pc) lv (.ref (a 44) :: st) := aw_getf (q := 44) (ci := 3) (j := 0) (T := TX3) (N := 3) C d (by omega) rfl cv_hut rfl hin (by decide) hlk rfl rfl k
theorem aw_gX3_trade (C : aC p s m args meth c D (cTys cI cZ cR cJ) A cc nL Ts own ret)  (d : decode cc pc = .ok (.getfield ix, 3)) (hin : ∀ w ∈ wsX30, w ∈ Ts) (hlk : Cond.fieldLink own ix "HutRings" "trade" "LHutRings$Trade;" ∈ Ts) (k : aW p l e R s m args below meth c Q D A cells slots 49 a (cv cI cR a σ) (pc + 3) lv (.ref (ta a 0) :: st)) : aW p l e R s m args below meth c Q D A cells slots 49 a (cv cI cR a σ) (pc) lv (.ref (a 44) :: st) := aw_getf (q := 44) (ci := 3) (j := 1) (T := TX3) (N := 3) C d (by omega) rfl cv_hut rfl hin (by decide) hlk rfl rfl k
theorem aw_gX3_imagined (C : aC p s m args meth c D (cTys cI cZ cR cJ) A cc nL Ts own ret)  (d : decode cc pc = .ok (.getfield ix, 3)) (hin : ∀ w ∈ wsX30, w ∈ Ts) (hlk : Cond.fieldLink own ix "HutRings" "imagined" "LHutRings$Trade;" ∈ Ts) (k : aW p l e R s m args below meth c Q D A cells slots 49 a (cv cI cR a σ) (pc + 3) lv (.ref (ta a 1) :: st)) : aW p l e R s m args below meth c Q D A cells slots 49 a (cv cI cR a σ) (pc) lv (.ref (a 44) :: st) := aw_getf (q := 44) (ci := 3) (j := 2) (T := TX3) (N := 3) C d (by omega) rfl cv_hut rfl hin (by decide) hlk rfl rfl k
theorem aw_pX1_size (C : aC p s m args meth c D (cTys cI cZ cR cJ) A cc nL Ts own ret) (hj : j < 22) {x : Nat} (d : decode cc pc = .ok (.putfield ix, 3)) (hin : ∀ w ∈ wsX10, w ∈ Ts) (hlk : Cond.fieldLink own ix "HutRings$Row" "size" "I" ∈ Ts) (k : aW p l e R s m args below meth c Q D A cells slots 49 a (cv cI cR a (cs1 σ j x)) (pc + 3) lv (st)) : aW p l e R s m args below meth c Q D A cells slots 49 a (cv cI cR a σ) (pc) lv (.int (nI x) :: .ref (ra a j) :: st) := aw_putf (q := 2 * j) (ci := 1) (j := 1) (T := TX1) (N := 2) (ty0 := tyX1) C d (by omega) rfl (cv_row hj) rfl hin tyX1_ok nmX1 (by decide) hlk rfl rfl rfl rfl (Nat.le_of_ble_eq_true rfl) rfl (cv_s1 hj) k
theorem aw_pX2_feigner (C : aC p s m args meth c D (cTys cI cZ cR cJ) A cc nL Ts own ret) (ht : t < 2) {x : Int32} (d : decode cc pc = .ok (.putfield ix, 3)) (hin : ∀ w ∈ wsX20, w ∈ Ts) (hlk : Cond.fieldLink own ix "HutRings$Trade" "feigner" "I" ∈ Ts) (k : aW p l e R s m args below meth c Q D A cells slots 49 a (cv cI cR a (cs3 σ (3 * t) x)) (pc + 3) lv (st)) : aW p l e R s m args below meth c Q D A cells slots 49 a (cv cI cR a σ) (pc) lv (.int x :: .ref (ta a t) :: st) := aw_putf (q := 47 + t) (ci := 2) (j := 6) (T := TX2) (N := 9) (ty0 := tyX2) C d (by omega) rfl (cv_tr ht) rfl hin tyX2_ok nmX2 (by decide) hlk rfl rfl rfl rfl (Nat.le_of_ble_eq_true rfl) rfl (cv_s3_0 ht) k
theorem aw_pX2_rounds (C : aC p s m args meth c D (cTys cI cZ cR cJ) A cc nL Ts own ret) (ht : t < 2) {x : Int32} (d : decode cc pc = .ok (.putfield ix, 3)) (hin : ∀ w ∈ wsX20, w ∈ Ts) (hlk : Cond.fieldLink own ix "HutRings$Trade" "rounds" "I" ∈ Ts) (k : aW p l e R s m args below meth c Q D A cells slots 49 a (cv cI cR a (cs3 σ (3 * t + 1) x)) (pc + 3) lv (st)) : aW p l e R s m args below meth c Q D A cells slots 49 a (cv cI cR a σ) (pc) lv (.int x :: .ref (ta a t) :: st) := aw_putf (q := 47 + t) (ci := 2) (j := 7) (T := TX2) (N := 9) (ty0 := tyX2) C d (by omega) rfl (cv_tr ht) rfl hin tyX2_ok nmX2 (by decide) hlk rfl rfl rfl rfl (Nat.le_of_ble_eq_true rfl) rfl (cv_s3_1 ht) k
theorem aw_pX2_ringsOfMore (C : aC p s m args meth c D (cTys cI cZ cR cJ) A cc nL Ts own ret) (ht : t < 2) {x : Int32} (d : decode cc pc = .ok (.putfield ix, 3)) (hin : ∀ w ∈ wsX20, w ∈ Ts) (hlk : Cond.fieldLink own ix "HutRings$Trade" "ringsOfMore" "I" ∈ Ts) (k : aW p l e R s m args below meth c Q D A cells slots 49 a (cv cI cR a (cs3 σ (3 * t + 2) x)) (pc + 3) lv (st)) : aW p l e R s m args below meth c Q D A cells slots 49 a (cv cI cR a σ) (pc) lv (.int x :: .ref (ta a t) :: st) := aw_putf (q := 47 + t) (ci := 2) (j := 8) (T := TX2) (N := 9) (ty0 := tyX2) C d (by omega) rfl (cv_tr ht) rfl hin tyX2_ok nmX2 (by decide) hlk rfl rfl rfl rfl (Nat.le_of_ble_eq_true rfl) rfl (cv_s3_2 ht) k
theorem aw_alX1 (C : aC p s m args meth c D (cTys cI cZ cR cJ) A cc nL Ts own ret) (hj : j < 22) (d : decode cc pc = .ok (.arraylength, 1)) (k : aW p l e R s m args below meth c Q D A cells slots 49 a (cv cI cR a σ) (pc + 1) lv (.int (nI 10) :: st)) : aW p l e R s m args below meth c Q D A cells slots 49 a (cv cI cR a σ) (pc) lv (.ref (ca a j) :: st) := aw_alen (q := 2 * j + 1) (t0 := 0) C d (by omega) rfl (cv_cel hj) rfl rfl k
theorem aw_alX0 (C : aC p s m args meth c D (cTys cI cZ cR cJ) A cc nL Ts own ret) (d : decode cc pc = .ok (.arraylength, 1)) (k : aW p l e R s m args below meth c Q D A cells slots 49 a (cv cI cR a σ) (pc + 1) lv (.int (nI 10) :: st)) : aW p l e R s m args below meth c Q D A cells slots 49 a (cv cI cR a σ) (pc) lv (.ref (a 46) :: st) := aw_alen (q := 46) (t0 := 2) C d (by omega) rfl cv_lik rfl rfl k
theorem aw_ilX1 (C : aC p s m args meth c D (cTys cI cZ cR cJ) A cc nL Ts own ret) (hj : j < 22) {x : Int32} (d : decode cc pc = .ok (.iaload, 1)) (hi : vp_in x 10) (k : aW p l e R s m args below meth c Q D A cells slots 49 a (cv cI cR a σ) (pc + 1) lv (.int (σ.2.1 j x.toNatClampNeg) :: st)) : aW p l e R s m args below meth c Q D A cells slots 49 a (cv cI cR a σ) (pc) lv (.int x :: .ref (ca a j) :: st) := aw_iald (q := 2 * j + 1) (t0 := 0) C d (by omega) rfl (cv_cel hj) rfl hi k
theorem aw_isX1 (C : aC p s m args meth c D (cTys cI cZ cR cJ) A cc nL Ts own ret) (hj : j < 22) {x y : Int32} (d : decode cc pc = .ok (.iastore, 1)) (hi : vp_in x 10) (k : aW p l e R s m args below meth c Q D A cells slots 49 a (cv cI cR a (cs2 σ j x.toNatClampNeg y)) (pc + 1) lv (st)) : aW p l e R s m args below meth c Q D A cells slots 49 a (cv cI cR a σ) (pc) lv (.int y :: .int x :: .ref (ca a j) :: st) := aw_iast (q := 2 * j + 1) (t0 := 0) C d (by omega) rfl (cv_cel hj) rfl hi (cv_s2 hj) k
theorem aw_ilX1n (C : aC p s m args meth c D (cTys cI cZ cR cJ) A cc nL Ts own ret) (hj : j < 22) {i : Nat} (d : decode cc pc = .ok (.iaload, 1)) (hi : i < 10) (k : aW p l e R s m args below meth c Q D A cells slots 49 a (cv cI cR a σ) (pc + 1) lv (.int (σ.2.1 j i) :: st)) : aW p l e R s m args below meth c Q D A cells slots 49 a (cv cI cR a σ) (pc) lv (.int (nI i) :: .ref (ca a j) :: st) := aw_ilX1 C hj d (vp_in_nI hi (by omega)) (by rw [nI_clamp (by omega)]; exact k)
theorem aw_isX1n (C : aC p s m args meth c D (cTys cI cZ cR cJ) A cc nL Ts own ret) (hj : j < 22) {i : Nat} {y : Int32} (d : decode cc pc = .ok (.iastore, 1)) (hi : i < 10) (k : aW p l e R s m args below meth c Q D A cells slots 49 a (cv cI cR a (cs2 σ j i y)) (pc + 1) lv (st)) : aW p l e R s m args below meth c Q D A cells slots 49 a (cv cI cR a σ) (pc) lv (.int y :: .int (nI i) :: .ref (ca a j) :: st) := aw_isX1 C hj d (vp_in_nI hi (by omega)) (by rw [nI_clamp (by omega)]; exact k)
theorem aw_aaX0 (C : aC p s m args meth c D (cTys cI cZ cR cJ) A cc nL Ts own ret) {i : Nat} (hi : i < 10) (d : decode cc pc = .ok (.aaload, 1)) (k : aW p l e R s m args below meth c Q D A cells slots 49 a (cv cI cR a σ) (pc + 1) lv (.ref (ra a (kR i)) :: st)) : aW p l e R s m args below meth c Q D A cells slots 49 a (cv cI cR a σ) (pc) lv (.int (nI i) :: .ref (a 46) :: st) := aw_aald (q := 46) (t0 := 2) C d (by omega) rfl cv_lik rfl (vp_in_nI hi (by omega)) (by rw [nI_clamp (by omega), if_pos hi]; exact k)
end CVR
/-! what is fixed of each method -/
theorem sX1_init : sY yX1_init RX1 cX1_init 1 none wsX1_init 0 := ⟨⟨_, rfl⟩, rfl, by decide, by decide, by decide +kernel, by decide +kernel⟩
theorem sX0_init : sY yX0_init RX0 cX0_init 2 none wsX0_init 0 := ⟨⟨_, rfl⟩, rfl, by decide, by decide, by decide +kernel, by decide +kernel⟩
theorem sX1_size : sY yX1_size RX1 cX1_size 1 (some .int) wsX1_size 0 := ⟨⟨_, rfl⟩, rfl, by decide, by decide, by decide +kernel, by decide +kernel⟩
theorem sX0_size : sY yX0_size RX0 cX0_size 1 (some .int) wsX0_size 0 := ⟨⟨_, rfl⟩, rfl, by decide, by decide, by decide +kernel, by decide +kernel⟩
theorem sX1_at : sY yX1_at RX1 cX1_at 2 (some .int) wsX1_at 1 := ⟨⟨_, rfl⟩, rfl, by decide, by decide, by decide +kernel, by decide +kernel⟩
theorem sX1_has : sY yX1_has RX1 cX1_has 2 (some .boolean) wsX1_has 1 := ⟨⟨_, rfl⟩, rfl, by decide, by decide, by decide +kernel, by decide +kernel⟩
theorem sX1_put : sY yX1_put RX1 cX1_put 3 none wsX1_put 2 := ⟨⟨_, rfl⟩, rfl, by decide, by decide, by decide +kernel, by decide +kernel⟩
theorem sX1_insert : sY yX1_insert RX1 cX1_insert 4 none wsX1_insert 2 := ⟨⟨_, rfl⟩, rfl, by decide, by decide, by decide +kernel, by decide +kernel⟩
theorem sX0_settle : sY yX0_settle RX0 cX0_settle 2 (some .int) wsX0_settle 0 := ⟨⟨_, rfl⟩, rfl, by decide, by decide, by decide +kernel, by decide +kernel⟩
theorem sX0_hutOf : sY yX0_hutOf RX0 cX0_hutOf 2 (some .int) wsX0_hutOf 1 := ⟨⟨_, rfl⟩, rfl, by decide, by decide, by decide +kernel, by decide +kernel⟩
theorem sX1_placeOf : sY yX1_placeOf RX1 cX1_placeOf 3 (some .int) wsX1_placeOf 1 := ⟨⟨_, rfl⟩, rfl, by decide, by decide, by decide +kernel, by decide +kernel⟩
theorem sX0_keeperIn : sY yX0_keeperIn RX0 cX0_keeperIn 2 (some .int) wsX0_keeperIn 1 := ⟨⟨_, rfl⟩, rfl, by decide, by decide, by decide +kernel, by decide +kernel⟩
theorem sX0_likesOf : sY yX0_likesOf RX0 cX0_likesOf 3 (some (.object "HutRings$Row")) wsX0_likesOf 1 := ⟨⟨_, rfl⟩, rfl, by decide, by decide, by decide +kernel, by decide +kernel⟩
theorem sX0_rankOf : sY yX0_rankOf RX0 cX0_rankOf 4 (some .int) wsX0_rankOf 2 := ⟨⟨_, rfl⟩, rfl, by decide, by decide, by decide +kernel, by decide +kernel⟩
theorem sX1_cutFrom : sY yX1_cutFrom RX1 cX1_cutFrom 2 none wsX1_cutFrom 1 := ⟨⟨_, rfl⟩, rfl, by decide, by decide, by decide +kernel, by decide +kernel⟩
theorem sX0_moveInto : sY yX0_moveInto RX0 cX0_moveInto 4 none wsX0_moveInto 2 := ⟨⟨_, rfl⟩, rfl, by decide, by decide, by decide +kernel, by decide +kernel⟩
theorem sX1_take : sY yX1_take RX1 cX1_take 4 (some .int) wsX1_take 1 := ⟨⟨_, rfl⟩, rfl, by decide, by decide, by decide +kernel, by decide +kernel⟩
theorem sX1_refill : sY yX1_refill RX1 cX1_refill 4 none wsX1_refill 2 := ⟨⟨_, rfl⟩, rfl, by decide, by decide, by decide +kernel, by decide +kernel⟩
theorem sX1_sum : sY yX1_sum RX1 cX1_sum 3 (some .int) wsX1_sum 0 := ⟨⟨_, rfl⟩, rfl, by decide, by decide, by decide +kernel, by decide +kernel⟩
theorem sX1_greatest : sY yX1_greatest RX1 cX1_greatest 3 (some .int) wsX1_greatest 0 := ⟨⟨_, rfl⟩, rfl, by decide, by decide, by decide +kernel, by decide +kernel⟩
theorem sX2_init : sY yX2_init RX2 cX2_init 2 none wsX2_init 1 := ⟨⟨_, rfl⟩, rfl, by decide, by decide, by decide +kernel, by decide +kernel⟩
theorem sX2_start : sY yX2_start RX2 cX2_start 2 none wsX2_start 0 := ⟨⟨_, rfl⟩, rfl, by decide, by decide, by decide +kernel, by decide +kernel⟩
theorem sX2_isThereIn : sY yX2_isThereIn RX2 cX2_isThereIn 4 (some .boolean) wsX2_isThereIn 2 := ⟨⟨_, rfl⟩, rfl, by decide, by decide, by decide +kernel, by decide +kernel⟩
theorem sX2_aimIn : sY yX2_aimIn RX2 cX2_aimIn 6 (some .int) wsX2_aimIn 2 := ⟨⟨_, rfl⟩, rfl, by decide, by decide, by decide +kernel, by decide +kernel⟩
theorem sX2_aimAll : sY yX2_aimAll RX2 cX2_aimAll 3 none wsX2_aimAll 1 := ⟨⟨_, rfl⟩, rfl, by decide, by decide, by decide +kernel, by decide +kernel⟩
theorem sX2_stepsBackTo : sY yX2_stepsBackTo RX2 cX2_stepsBackTo 4 (some .int) wsX2_stepsBackTo 1 := ⟨⟨_, rfl⟩, rfl, by decide, by decide, by decide +kernel, by decide +kernel⟩
theorem sX2_closeRing : sY yX2_closeRing RX2 cX2_closeRing 7 none wsX2_closeRing 3 := ⟨⟨_, rfl⟩, rfl, by decide, by decide, by decide +kernel, by decide +kernel⟩
theorem sX2_closeRings : sY yX2_closeRings RX2 cX2_closeRings 4 none wsX2_closeRings 1 := ⟨⟨_, rfl⟩, rfl, by decide, by decide, by decide +kernel, by decide +kernel⟩
theorem sX2_runRounds : sY yX2_runRounds RX2 cX2_runRounds 2 none wsX2_runRounds 0 := ⟨⟨_, rfl⟩, rfl, by decide, by decide, by decide +kernel, by decide +kernel⟩
theorem sX2_runForAll : sY yX2_runForAll RX2 cX2_runForAll 1 none wsX2_runForAll 0 := ⟨⟨_, rfl⟩, rfl, by decide, by decide, by decide +kernel, by decide +kernel⟩
theorem sX2_hutFor : sY yX2_hutFor RX2 cX2_hutFor 2 (some .int) wsX2_hutFor 1 := ⟨⟨_, rfl⟩, rfl, by decide, by decide, by decide +kernel, by decide +kernel⟩
theorem sX2_roundOf : sY yX2_roundOf RX2 cX2_roundOf 2 (some .int) wsX2_roundOf 1 := ⟨⟨_, rfl⟩, rfl, by decide, by decide, by decide +kernel, by decide +kernel⟩
theorem sX2_ringSizeOf : sY yX2_ringSizeOf RX2 cX2_ringSizeOf 2 (some .int) wsX2_ringSizeOf 1 := ⟨⟨_, rfl⟩, rfl, by decide, by decide, by decide +kernel, by decide +kernel⟩
theorem sX2_rounds : sY yX2_rounds RX2 cX2_rounds 1 (some .int) wsX2_rounds 0 := ⟨⟨_, rfl⟩, rfl, by decide, by decide, by decide +kernel, by decide +kernel⟩
theorem sX2_ringsOfMore : sY yX2_ringsOfMore RX2 cX2_ringsOfMore 1 (some .int) wsX2_ringsOfMore 0 := ⟨⟨_, rfl⟩, rfl, by decide, by decide, by decide +kernel, by decide +kernel⟩
theorem sX2_greatestRing : sY yX2_greatestRing RX2 cX2_greatestRing 1 (some .int) wsX2_greatestRing 0 := ⟨⟨_, rfl⟩, rfl, by decide, by decide, by decide +kernel, by decide +kernel⟩
theorem sX2_roundsAdded : sY yX2_roundsAdded RX2 cX2_roundsAdded 1 (some .int) wsX2_roundsAdded 0 := ⟨⟨_, rfl⟩, rfl, by decide, by decide, by decide +kernel, by decide +kernel⟩
theorem sX3_init : sY yX3_init RX3 cX3_init 1 none wsX3_init 0 := ⟨⟨_, rfl⟩, rfl, by decide, by decide, by decide +kernel, by decide +kernel⟩
theorem sX3_come : sY yX3_come RX3 cX3_come 2 (some .int) wsX3_come 0 := ⟨⟨_, rfl⟩, rfl, by decide, by decide, by decide +kernel, by decide +kernel⟩
theorem sX3_needKeeper : sY yX3_needKeeper RX3 cX3_needKeeper 2 none wsX3_needKeeper 1 := ⟨⟨_, rfl⟩, rfl, by decide, by decide, by decide +kernel, by decide +kernel⟩
theorem sX3_needHut : sY yX3_needHut RX3 cX3_needHut 2 none wsX3_needHut 1 := ⟨⟨_, rfl⟩, rfl, by decide, by decide, by decide +kernel, by decide +kernel⟩
theorem sX3_wish : sY yX3_wish RX3 cX3_wish 5 (some .int) wsX3_wish 3 := ⟨⟨_, rfl⟩, rfl, by decide, by decide, by decide +kernel, by decide +kernel⟩
theorem sX3_needPlace : sY yX3_needPlace RX3 cX3_needPlace 2 none wsX3_needPlace 2 := ⟨⟨_, rfl⟩, rfl, by decide, by decide, by decide +kernel, by decide +kernel⟩
theorem sX3_drop : sY yX3_drop RX3 cX3_drop 5 (some .int) wsX3_drop 2 := ⟨⟨_, rfl⟩, rfl, by decide, by decide, by decide +kernel, by decide +kernel⟩
theorem sX3_list : sY yX3_list RX3 cX3_list 4 (some .int) wsX3_list 2 := ⟨⟨_, rfl⟩, rfl, by decide, by decide, by decide +kernel, by decide +kernel⟩
theorem sX3_rankOfGot : sY yX3_rankOfGot RX3 cX3_rankOfGot 2 (some .int) wsX3_rankOfGot 1 := ⟨⟨_, rfl⟩, rfl, by decide, by decide, by decide +kernel, by decide +kernel⟩
theorem sX3_told : sY yX3_told RX3 cX3_told 3 (some .int) wsX3_told 2 := ⟨⟨_, rfl⟩, rfl, by decide, by decide, by decide +kernel, by decide +kernel⟩
theorem sX3_points : sY yX3_points RX3 cX3_points 3 (some .int) wsX3_points 2 := ⟨⟨_, rfl⟩, rfl, by decide, by decide, by decide +kernel, by decide +kernel⟩
theorem sX3_rank : sY yX3_rank RX3 cX3_rank 3 (some .int) wsX3_rank 2 := ⟨⟨_, rfl⟩, rfl, by decide, by decide, by decide +kernel, by decide +kernel⟩
theorem sX3_keepersWithAnotherHut : sY yX3_keepersWithAnotherHut RX3 cX3_keepersWithAnotherHut 3 (some .int) wsX3_keepersWithAnotherHut 0 := ⟨⟨_, rfl⟩, rfl, by decide, by decide, by decide +kernel, by decide +kernel⟩
theorem sX3_ranksAdded : sY yX3_ranksAdded RX3 cX3_ranksAdded 3 (some .int) wsX3_ranksAdded 0 := ⟨⟨_, rfl⟩, rfl, by decide, by decide, by decide +kernel, by decide +kernel⟩
theorem sX3_count : sY yX3_count RX3 cX3_count 2 (some .int) wsX3_count 1 := ⟨⟨_, rfl⟩, rfl, by decide, by decide, by decide +kernel, by decide +kernel⟩
theorem sX3_move : sY yX3_move RX3 cX3_move 3 (some .int) wsX3_move 0 := ⟨⟨_, rfl⟩, rfl, by decide, by decide, by decide +kernel, by decide +kernel⟩
theorem sX3_mean : sY yX3_mean RX3 cX3_mean 2 (some .double) wsX3_mean 0 := ⟨⟨_, rfl⟩, rfl, by decide, by decide, by decide +kernel, by decide +kernel⟩
theorem sX4_init : sY yX4_init RX4 cX4_init 1 none wsX4_init 0 := ⟨⟨_, rfl⟩, rfl, by decide, by decide, by decide +kernel, by decide +kernel⟩
theorem sX4_come : sY yX4_come RX4 cX4_come 5 none wsX4_come 0 := ⟨⟨_, rfl⟩, rfl, by decide, by decide, by decide +kernel, by decide +kernel⟩
theorem sX4_find : sY yX4_find RX4 cX4_find 3 (some .int) wsX4_find 2 := ⟨⟨_, rfl⟩, rfl, by decide, by decide, by decide +kernel, by decide +kernel⟩
theorem sX4_with : sY yX4_with RX4 cX4_with 5 (some (.array .int)) wsX4_with 3 := ⟨⟨_, rfl⟩, rfl, by decide, by decide, by decide +kernel, by decide +kernel⟩
theorem sX4_without : sY yX4_without RX4 cX4_without 4 (some (.array .int)) wsX4_without 2 := ⟨⟨_, rfl⟩, rfl, by decide, by decide, by decide +kernel, by decide +kernel⟩
theorem sX4_trade : sY yX4_trade RX4 cX4_trade 15 (some (.object "HutRingsLaw$Sim")) wsX4_trade 3 := ⟨⟨_, rfl⟩, rfl, by decide, by decide, by decide +kernel, by decide +kernel⟩
theorem sX4_rank : sY yX4_rank RX4 cX4_rank 3 (some .int) wsX4_rank 2 := ⟨⟨_, rfl⟩, rfl, by decide, by decide, by decide +kernel, by decide +kernel⟩
theorem sX4_move : sY yX4_move RX4 cX4_move 6 (some .int) wsX4_move 0 := ⟨⟨_, rfl⟩, rfl, by decide, by decide, by decide +kernel, by decide +kernel⟩
theorem sX4_isSame : sY yX4_isSame RX4 cX4_isSame 13 (some .boolean) wsX4_isSame 1 := ⟨⟨_, rfl⟩, rfl, by decide, by decide, by decide +kernel, by decide +kernel⟩
theorem sL_below : sY yL_below RL cL_below 2 (some .int) wsL_below 2 := ⟨⟨_, rfl⟩, rfl, by decide, by decide, by decide +kernel, by decide +kernel⟩
theorem sL_cell : sY yL_cell RL cL_cell 2 (some .int) wsL_cell 2 := ⟨⟨_, rfl⟩, rfl, by decide, by decide, by decide +kernel, by decide +kernel⟩
theorem sL_act : sY yL_act RL cL_act 10 (some .boolean) wsL_act 3 := ⟨⟨_, rfl⟩, rfl, by decide, by decide, by decide +kernel, by decide +kernel⟩
theorem sL_build : sY yL_build RL cL_build 5 (some (.object "HutRingsLaw$Sim")) wsL_build 2 := ⟨⟨_, rfl⟩, rfl, by decide, by decide, by decide +kernel, by decide +kernel⟩
/-! room of each method -/
abbrev rmX3_init : Room := { frames := 3, cells := 0, slots := 0, locals := 65 }
abbrev rmX3_come : Room := { frames := 6, cells := 0, slots := 0, locals := 133 }
abbrev rmX3_wish : Room := { frames := 6, cells := 0, slots := 0, locals := 133 }
abbrev rmX3_drop : Room := { frames := 6, cells := 0, slots := 0, locals := 133 }
abbrev rmX3_list : Room := { frames := 3, cells := 0, slots := 0, locals := 61 }
abbrev rmX3_told : Room := { frames := 4, cells := 0, slots := 0, locals := 86 }
abbrev rmX3_points : Room := { frames := 3, cells := 0, slots := 0, locals := 69 }
abbrev rmX3_rank : Room := { frames := 3, cells := 0, slots := 0, locals := 65 }
abbrev rmX3_count : Room := { frames := 5, cells := 0, slots := 0, locals := 108 }
abbrev rmX3_move : Room := { frames := 6, cells := 0, slots := 0, locals := 133 }
abbrev rmX3_mean : Room := { frames := 3, cells := 0, slots := 0, locals := 63 }
abbrev rmX3_rankOfGot : Room := { frames := 3, cells := 0, slots := 0, locals := 65 }
abbrev rmX3_keepersWithAnotherHut : Room := { frames := 2, cells := 0, slots := 0, locals := 42 }
abbrev rmX3_ranksAdded : Room := { frames := 4, cells := 0, slots := 0, locals := 86 }
abbrev rmX3_needKeeper : Room := { frames := 2, cells := 0, slots := 0, locals := 40 }
abbrev rmX3_needHut : Room := { frames := 2, cells := 0, slots := 0, locals := 40 }
abbrev rmX3_needPlace : Room := { frames := 1, cells := 0, slots := 0, locals := 20 }
abbrev rmX0_init : Room := { frames := 2, cells := 0, slots := 0, locals := 44 }
abbrev rmX0_size : Room := { frames := 1, cells := 0, slots := 0, locals := 20 }
abbrev rmX0_settle : Room := { frames := 3, cells := 0, slots := 0, locals := 66 }
abbrev rmX0_hutOf : Room := { frames := 1, cells := 0, slots := 0, locals := 21 }
abbrev rmX0_keeperIn : Room := { frames := 1, cells := 0, slots := 0, locals := 22 }
abbrev rmX0_likesOf : Room := { frames := 0, cells := 0, slots := 0, locals := 0 }
abbrev rmX0_rankOf : Room := { frames := 2, cells := 0, slots := 0, locals := 42 }
abbrev rmX0_moveInto : Room := { frames := 2, cells := 0, slots := 0, locals := 43 }
abbrev rmX1_init : Room := { frames := 1, cells := 0, slots := 0, locals := 24 }
abbrev rmX1_size : Room := { frames := 0, cells := 0, slots := 0, locals := 0 }
abbrev rmX1_at : Room := { frames := 0, cells := 0, slots := 0, locals := 0 }
abbrev rmX1_put : Room := { frames := 1, cells := 0, slots := 0, locals := 21 }
abbrev rmX1_placeOf : Room := { frames := 0, cells := 0, slots := 0, locals := 0 }
abbrev rmX1_insert : Room := { frames := 2, cells := 0, slots := 0, locals := 43 }
abbrev rmX1_take : Room := { frames := 2, cells := 0, slots := 0, locals := 43 }
abbrev rmX1_cutFrom : Room := { frames := 1, cells := 0, slots := 0, locals := 21 }
abbrev rmX1_refill : Room := { frames := 2, cells := 0, slots := 0, locals := 43 }
abbrev rmX1_sum : Room := { frames := 1, cells := 0, slots := 0, locals := 21 }
abbrev rmX1_greatest : Room := { frames := 1, cells := 0, slots := 0, locals := 24 }
abbrev rmX1_has : Room := { frames := 0, cells := 0, slots := 0, locals := 0 }
abbrev rmX2_init : Room := { frames := 2, cells := 0, slots := 0, locals := 44 }
abbrev rmX2_runForAll : Room := { frames := 5, cells := 0, slots := 0, locals := 113 }
abbrev rmX2_hutFor : Room := { frames := 1, cells := 0, slots := 0, locals := 21 }
abbrev rmX2_roundOf : Room := { frames := 1, cells := 0, slots := 0, locals := 21 }
abbrev rmX2_ringSizeOf : Room := { frames := 1, cells := 0, slots := 0, locals := 21 }
abbrev rmX2_rounds : Room := { frames := 0, cells := 0, slots := 0, locals := 0 }
abbrev rmX2_ringsOfMore : Room := { frames := 0, cells := 0, slots := 0, locals := 0 }
abbrev rmX2_greatestRing : Room := { frames := 2, cells := 0, slots := 0, locals := 46 }
abbrev rmX2_roundsAdded : Room := { frames := 2, cells := 0, slots := 0, locals := 43 }
abbrev rmX2_isThereIn : Room := { frames := 1, cells := 0, slots := 0, locals := 21 }
abbrev rmX2_aimIn : Room := { frames := 2, cells := 0, slots := 0, locals := 44 }
abbrev rmX2_start : Room := { frames := 3, cells := 0, slots := 0, locals := 66 }
abbrev rmX2_runRounds : Room := { frames := 4, cells := 0, slots := 0, locals := 92 }
abbrev rmX2_aimAll : Room := { frames := 3, cells := 0, slots := 0, locals := 69 }
abbrev rmX2_closeRings : Room := { frames := 3, cells := 0, slots := 0, locals := 69 }
abbrev rmX2_stepsBackTo : Room := { frames := 1, cells := 0, slots := 0, locals := 21 }
abbrev rmX2_closeRing : Room := { frames := 2, cells := 0, slots := 0, locals := 43 }
