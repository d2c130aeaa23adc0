/-! the law: a call of its loop -/
theorem aChk_mk {rm : Room} {maxL : Nat} {R : Room} {lv : List (Option Value)} {nL cells slots mc ms : Nat} {rest : List Value} (h : aChk rm maxL R lv nL 0 0 mc ms rest = true) (h2 : cells + mc ≤ R.cells) (h3 : slots + ms ≤ R.slots) : aChk rm maxL R lv nL cells slots mc ms rest = true := by
  simp only [aChk, Bool.and_eq_true] at h ⊢
  obtain ⟨a1, a2, a3, a4, a5, a6, a7, a8⟩ := h
  exact ⟨a1, a2, a3, a4, a5, Nat.ble_eq.mpr h2, Nat.ble_eq.mpr h3, a8⟩
theorem lg_cmp_self {x : Int64} : lg_cmp x x = 0 := by simp [lg_cmp]
section LAWR
variable {p : Program} {l : Launch} {e : Env} {R : Room} {s : State} {m : MethodId} {args : Array Value} {below : List Frame} {meth : Method} {c : Code} {Q : State → Prop} {D : va_G} {tys : List (ClassId × FieldType)} {A : Nat → Prop} {cells slots nL n pc : Nat} {a : Nat → Nat} {v : Nat → va_E} {lv : List (Option Value)} {st : List Value} {cc : ByteArray} {Ts : List Cond} {own : String} {ret : Option FieldType} {b L : Nat} {xs : Nat → Int32}
theorem aw_lcmp9 {x y : Int64} (C : aC p s m args meth c D tys A cc nL Ts own ret) (d : decode cc pc = .ok (.lcmp, 1)) (k : aW p l e R s m args below meth c Q D A cells slots n a v (pc + 1) lv (.int (lg_cmp x y) :: st)) : aW p l e R s m args below meth c Q D A cells slots n a v pc lv (.long y :: .long x :: st) := fun H locs ls hP hD hS hL => W.lcmp C.1.1 C.1.2.1 d (k H locs ls hP hD hS hL)
theorem aw_dcmp9 {x y : UInt64} {op : CmpOp} (C : aC p s m args meth c D tys A cc nL Ts own ret) (d : decode cc pc = .ok (.dcmp op, 1)) (k : aW p l e R s m args below meth c Q D A cells slots n a v (pc + 1) lv (.int (Op.cmpValue (FP.dcmp x y) op) :: st)) : aW p l e R s m args below meth c Q D A cells slots n a v pc lv (.double y :: .double x :: st) := fun H locs ls hP hD hS hL => lv_dcmp C.1.1 C.1.2.1 d (k H locs ls hP hD hS hL)
/-- the script -/
def aS (s : State) (A : Nat → Prop) (b L : Nat) (xs : Nat → Int32) : Prop := va_X b L xs s s.heap ∧ b < s.heap.size ∧ ¬ A b ∧ L ≤ 2048
theorem aw_sld {i : Nat} (C : aC p s m args meth c D tys A cc nL Ts own ret) (S : aS s A b L xs) (d : decode cc pc = .ok (.iaload, 1)) (hi : i < L) (k : aW p l e R s m args below meth c Q D A cells slots n a v (pc + 1) lv (.int (xs i) :: st)) : aW p l e R s m args below meth c Q D A cells slots n a v pc lv (.int (nI i) :: .ref b :: st) := fun H locs ls hP hD hS hL => by
  obtain ⟨h1, h2, h3, h4⟩ := S
  refine va_sld C.1.1 C.1.2.1 h1 h2 h3 hS (vp_in_nI hi (by omega)) d ?_
  rw [nI_clamp (by omega)]
  exact k H locs ls hP hD hS hL
theorem aw_slen (C : aC p s m args meth c D tys A cc nL Ts own ret) (S : aS s A b L xs) (d : decode cc pc = .ok (.arraylength, 1)) (k : aW p l e R s m args below meth c Q D A cells slots n a v (pc + 1) lv (.int (nI L) :: st)) : aW p l e R s m args below meth c Q D A cells slots n a v pc lv (.ref b :: st) := fun H locs ls hP hD hS hL => by
  obtain ⟨h1, h2, h3, h4⟩ := S
  exact va_slen C.1.1 C.1.2.1 h1 h2 h3 hS d (k H locs ls hP hD hS hL)
end LAWR
section LAWO
variable {p : Program} {l : Launch} {e : Env} {s : State} {m : MethodId} {args : Array Value} {below : List Frame} {meth : Method} {c : Code} {Q : State → Prop} {D : va_G} {A : Nat → Prop} {cells slots : Nat} {a : Nat → Nat} {b L : Nat} {xs : Nat → Int32} {cI cZ cR cJ : ClassId} {σ σ' : CS} {τ τ' : MS} {o o' : Nat → Int64} {t kc : Nat} {r2 : Int32} {rb : Bool}
abbrev lvB (b : Nat) (a : Nat → Nat) (t : Nat) : List (Option Value) := [some (.ref b), some (.ref (a 44)), some (.ref (a 49)), some (.ref (a 58)), some (.int (nI (4 * t))), none, none, none, none]
set_option maxHeartbeats 4000000 in
set_option maxRecDepth 100000 in
theorem lop_come (C : aC p s m args meth c D (cTys cI cZ cR cJ) A cL_law 9 wsL_law RL (some .boolean)) (hU : aU A s) (S : aS s A b L xs) (ht : 4 * t + 4 ≤ L) (hc : cells + 1 ≤ room_1.cells) (hs : slots + 6 ≤ room_1.slots)  (hK : aK l D (cTys cI cZ cR cJ) 59 a yL_come wsL_come rmL_come [.ref (a 44), .ref (a 58)] (lw cI cZ cR cJ a σ τ o) (some (.int (nI kc))) (lw cI cZ cR cJ a σ' τ o')) (hM : aM l D (cTys cI cZ cR cJ) 9 (fun j => a (49 + j)) yX4_come wsX4_come rmX4_come [.ref (a 49)] (mv cI cZ (fun j => a (49 + j)) τ) (some (.int (r2))) (mv cI cZ (fun j => a (49 + j)) τ')) (hT : τ'.1 0 = nI kc) (hk : kc < 3) (hV : kc = 0 → o' 0 = r2.toInt64) (next : aW p l e room_1 s m args below meth c Q D A (cells + 1) (slots + 6) 59 a (lw cI cZ cR cJ a σ' τ' o') 907 (lvB b a t) []) : aW p l e room_1 s m args below meth c Q D A (cells) (slots) 59 a (lw cI cZ cR cJ a σ τ o) 108 (lvB b a t) [] := by
  refine aw_aload_n C dL_law_108 Lk1 ?_
  refine aw_aload_n C dL_law_109 Lk3 ?_
  refine aw_callK (As := [.ref (a 44), .ref (a 58)]) C hU dL_law_110 gL_law_L_come sL_come (rm := rmL_come) ⟨Nat.le_of_ble_eq_true rfl, Nat.le_of_ble_eq_true rfl⟩ rfl rfl rfl ⟨hc, hs⟩ (Nat.le_of_ble_eq_true rfl) hK ?_
  refine aw_istore C dL_law_113 St5 rfl ?_
  refine aw_aload_n C dL_law_115 Lk2 ?_
  refine aw_lm (As := []) C dL_law_116 gL_law_X4_come sX4_come (rm := rmX4_come) (aChk_mk rfl (by omega) (by omega)) hM ?_
  refine aw_istore C dL_law_119 St6 rfl ?_
  refine aw_aload_n C dL_law_121 Lk2 ?_
  refine aw_lm (As := []) C dL_law_122 gL_law_X4_thrown sX4_thrown (rm := rmX4_thrown) (aChk_mk rfl (by omega) (by omega)) c_X4_thrown ?_
  rw [hT]
  refine aw_iload C dL_law_125 Lk5 ?_
  refine aw_icmp_eq C dL_law_127 (tgt := 132) (by decide) (fun c9 => ?_) (fun c9 => absurd rfl c9)
  refine aw_iload C dL_law_132 Lk5 ?_
  refine aw_if_ne C dL_law_134 (tgt := 149) (by decide) (fun c8 => ?_) (fun c8 => ?_)
  · skip
    refine aw_goto C dL_law_149 (tgt := 907) (by decide) ?_
    exact aW_wk next (by repeat' (first | exact Wk.n | apply Wk.k | apply Wk.d))
  · have hk0 : kc = 0 := nI_inj (by omega) (by omega) (Classical.not_not.mp c8)
    refine aw_aload_n C dL_law_137 Lk3 ?_
    refine aw_iconst C dL_law_138 (x := nI 0) (by decide) ?_
    refine aw_lld C dL_law_139 ?_
    rw [hV hk0]
    refine aw_iload C dL_law_140 Lk6 ?_
    refine aw_i2l C dL_law_142 ?_
    refine aw_lcmp9 C dL_law_143 ?_
    refine aw_if_eq C dL_law_144 (tgt := 149) (by decide) (fun c7 => ?_) (fun c7 => absurd lg_cmp_self c7)
    refine aw_goto C dL_law_149 (tgt := 907) (by decide) ?_
    exact aW_wk next (by repeat' (first | exact Wk.n | apply Wk.k | apply Wk.d))
set_option maxHeartbeats 4000000 in
set_option maxRecDepth 100000 in
theorem lop_wish (C : aC p s m args meth c D (cTys cI cZ cR cJ) A cL_law 9 wsL_law RL (some .boolean)) (hU : aU A s) (S : aS s A b L xs) (ht : 4 * t + 4 ≤ L) (hc : cells + 1 ≤ room_1.cells) (hs : slots + 6 ≤ room_1.slots) {p1 : Int32} (e1 : xs (4 * t + 1) = p1) {p2 : Int32} (e2 : xs (4 * t + 2) = p2) {p3 : Int32} (e3 : xs (4 * t + 3) = p3) (hK : aK l D (cTys cI cZ cR cJ) 59 a yL_wish wsL_wish rmL_wish [.ref (a 44), .int (p1), .int (p2), .int (p3), .ref (a 58)] (lw cI cZ cR cJ a σ τ o) (some (.int (nI kc))) (lw cI cZ cR cJ a σ' τ o')) (hM : aM l D (cTys cI cZ cR cJ) 9 (fun j => a (49 + j)) yX4_wish wsX4_wish rmX4_wish [.ref (a 49), .int (p1), .int (p2), .int (p3)] (mv cI cZ (fun j => a (49 + j)) τ) (some (.int (r2))) (mv cI cZ (fun j => a (49 + j)) τ')) (hT : τ'.1 0 = nI kc) (hk : kc < 3) (hV : kc = 0 → o' 0 = r2.toInt64) (next : aW p l e room_1 s m args below meth c Q D A (cells + 1) (slots + 6) 59 a (lw cI cZ cR cJ a σ' τ' o') 907 (lvB b a t) []) : aW p l e room_1 s m args below meth c Q D A (cells) (slots) 59 a (lw cI cZ cR cJ a σ τ o) 152 (lvB b a t) [] := by
  refine aw_aload_n C dL_law_152 Lk1 ?_
  refine aw_aload_n C dL_law_153 Lk0 ?_
  refine aw_iload C dL_law_154 Lk4 ?_
  refine aw_iconst C dL_law_156 (x := nI 1) (by decide) ?_
  refine aw_iadd C dL_law_157 ?_
  rw [nI_add]
  refine aw_sld C S dL_law_158 (by omega) ?_
  rw [e1]
  refine aw_aload_n C dL_law_159 Lk0 ?_
  refine aw_iload C dL_law_160 Lk4 ?_
  refine aw_iconst C dL_law_162 (x := nI 2) (by decide) ?_
  refine aw_iadd C dL_law_163 ?_
  rw [nI_add]
  refine aw_sld C S dL_law_164 (by omega) ?_
  rw [e2]
  refine aw_aload_n C dL_law_165 Lk0 ?_
  refine aw_iload C dL_law_166 Lk4 ?_
  refine aw_iconst C dL_law_168 (x := nI 3) (by decide) ?_
  refine aw_iadd C dL_law_169 ?_
  rw [nI_add]
  refine aw_sld C S dL_law_170 (by omega) ?_
  rw [e3]
  refine aw_aload_n C dL_law_171 Lk3 ?_
  refine aw_callK (As := [.ref (a 44), .int (p1), .int (p2), .int (p3), .ref (a 58)]) C hU dL_law_172 gL_law_L_wish sL_wish (rm := rmL_wish) ⟨Nat.le_of_ble_eq_true rfl, Nat.le_of_ble_eq_true rfl⟩ rfl rfl rfl ⟨hc, hs⟩ (Nat.le_of_ble_eq_true rfl) hK ?_
  refine aw_istore C dL_law_175 St5 rfl ?_
  refine aw_aload_n C dL_law_177 Lk2 ?_
  refine aw_aload_n C dL_law_178 Lk0 ?_
  refine aw_iload C dL_law_179 Lk4 ?_
  refine aw_iconst C dL_law_181 (x := nI 1) (by decide) ?_
  refine aw_iadd C dL_law_182 ?_
  rw [nI_add]
  refine aw_sld C S dL_law_183 (by omega) ?_
  rw [e1]
  refine aw_aload_n C dL_law_184 Lk0 ?_
  refine aw_iload C dL_law_185 Lk4 ?_
  refine aw_iconst C dL_law_187 (x := nI 2) (by decide) ?_
  refine aw_iadd C dL_law_188 ?_
  rw [nI_add]
  refine aw_sld C S dL_law_189 (by omega) ?_
  rw [e2]
  refine aw_aload_n C dL_law_190 Lk0 ?_
  refine aw_iload C dL_law_191 Lk4 ?_
  refine aw_iconst C dL_law_193 (x := nI 3) (by decide) ?_
  refine aw_iadd C dL_law_194 ?_
  rw [nI_add]
  refine aw_sld C S dL_law_195 (by omega) ?_
  rw [e3]
  refine aw_lm (As := [.int (p1), .int (p2), .int (p3)]) C dL_law_196 gL_law_X4_wish sX4_wish (rm := rmX4_wish) (aChk_mk rfl (by omega) (by omega)) hM ?_
  refine aw_istore C dL_law_199 St6 rfl ?_
  refine aw_aload_n C dL_law_201 Lk2 ?_
  refine aw_lm (As := []) C dL_law_202 gL_law_X4_thrown sX4_thrown (rm := rmX4_thrown) (aChk_mk rfl (by omega) (by omega)) c_X4_thrown ?_
  rw [hT]
  refine aw_iload C dL_law_205 Lk5 ?_
  refine aw_icmp_eq C dL_law_207 (tgt := 212) (by decide) (fun c9 => ?_) (fun c9 => absurd rfl c9)
  refine aw_iload C dL_law_212 Lk5 ?_
  refine aw_if_ne C dL_law_214 (tgt := 229) (by decide) (fun c8 => ?_) (fun c8 => ?_)
  · skip
    refine aw_goto C dL_law_229 (tgt := 907) (by decide) ?_
    exact aW_wk next (by repeat' (first | exact Wk.n | apply Wk.k | apply Wk.d))
  · have hk0 : kc = 0 := nI_inj (by omega) (by omega) (Classical.not_not.mp c8)
    refine aw_aload_n C dL_law_217 Lk3 ?_
    refine aw_iconst C dL_law_218 (x := nI 0) (by decide) ?_
    refine aw_lld C dL_law_219 ?_
    rw [hV hk0]
    refine aw_iload C dL_law_220 Lk6 ?_
    refine aw_i2l C dL_law_222 ?_
    refine aw_lcmp9 C dL_law_223 ?_
    refine aw_if_eq C dL_law_224 (tgt := 229) (by decide) (fun c7 => ?_) (fun c7 => absurd lg_cmp_self c7)
    refine aw_goto C dL_law_229 (tgt := 907) (by decide) ?_
    exact aW_wk next (by repeat' (first | exact Wk.n | apply Wk.k | apply Wk.d))
set_option maxHeartbeats 4000000 in
set_option maxRecDepth 100000 in
theorem lop_drop (C : aC p s m args meth c D (cTys cI cZ cR cJ) A cL_law 9 wsL_law RL (some .boolean)) (hU : aU A s) (S : aS s A b L xs) (ht : 4 * t + 4 ≤ L) (hc : cells + 1 ≤ room_1.cells) (hs : slots + 6 ≤ room_1.slots) {p1 : Int32} (e1 : xs (4 * t + 1) = p1) {p2 : Int32} (e2 : xs (4 * t + 2) = p2) (hK : aK l D (cTys cI cZ cR cJ) 59 a yL_drop wsL_drop rmL_drop [.ref (a 44), .int (p1), .int (p2), .ref (a 58)] (lw cI cZ cR cJ a σ τ o) (some (.int (nI kc))) (lw cI cZ cR cJ a σ' τ o')) (hM : aM l D (cTys cI cZ cR cJ) 9 (fun j => a (49 + j)) yX4_drop wsX4_drop rmX4_drop [.ref (a 49), .int (p1), .int (p2)] (mv cI cZ (fun j => a (49 + j)) τ) (some (.int (r2))) (mv cI cZ (fun j => a (49 + j)) τ')) (hT : τ'.1 0 = nI kc) (hk : kc < 3) (hV : kc = 0 → o' 0 = r2.toInt64) (next : aW p l e room_1 s m args below meth c Q D A (cells + 1) (slots + 6) 59 a (lw cI cZ cR cJ a σ' τ' o') 907 (lvB b a t) []) : aW p l e room_1 s m args below meth c Q D A (cells) (slots) 59 a (lw cI cZ cR cJ a σ τ o) 232 (lvB b a t) [] := by
  refine aw_aload_n C dL_law_232 Lk1 ?_
  refine aw_aload_n C dL_law_233 Lk0 ?_
  refine aw_iload C dL_law_234 Lk4 ?_
  refine aw_iconst C dL_law_236 (x := nI 1) (by decide) ?_
  refine aw_iadd C dL_law_237 ?_
  rw [nI_add]
  refine aw_sld C S dL_law_238 (by omega) ?_
  rw [e1]
  refine aw_aload_n C dL_law_239 Lk0 ?_
  refine aw_iload C dL_law_240 Lk4 ?_
  refine aw_iconst C dL_law_242 (x := nI 2) (by decide) ?_
  refine aw_iadd C dL_law_243 ?_
  rw [nI_add]
  refine aw_sld C S dL_law_244 (by omega) ?_
  rw [e2]
  refine aw_aload_n C dL_law_245 Lk3 ?_
  refine aw_callK (As := [.ref (a 44), .int (p1), .int (p2), .ref (a 58)]) C hU dL_law_246 gL_law_L_drop sL_drop (rm := rmL_drop) ⟨Nat.le_of_ble_eq_true rfl, Nat.le_of_ble_eq_true rfl⟩ rfl rfl rfl ⟨hc, hs⟩ (Nat.le_of_ble_eq_true rfl) hK ?_
  refine aw_istore C dL_law_249 St5 rfl ?_
  refine aw_aload_n C dL_law_251 Lk2 ?_
  refine aw_aload_n C dL_law_252 Lk0 ?_
  refine aw_iload C dL_law_253 Lk4 ?_
  refine aw_iconst C dL_law_255 (x := nI 1) (by decide) ?_
  refine aw_iadd C dL_law_256 ?_
  rw [nI_add]
  refine aw_sld C S dL_law_257 (by omega) ?_
  rw [e1]
  refine aw_aload_n C dL_law_258 Lk0 ?_
  refine aw_iload C dL_law_259 Lk4 ?_
  refine aw_iconst C dL_law_261 (x := nI 2) (by decide) ?_
  refine aw_iadd C dL_law_262 ?_
  rw [nI_add]
  refine aw_sld C S dL_law_263 (by omega) ?_
  rw [e2]
  refine aw_lm (As := [.int (p1), .int (p2)]) C dL_law_264 gL_law_X4_drop sX4_drop (rm := rmX4_drop) (aChk_mk rfl (by omega) (by omega)) hM ?_
  refine aw_istore C dL_law_267 St6 rfl ?_
  refine aw_aload_n C dL_law_269 Lk2 ?_
  refine aw_lm (As := []) C dL_law_270 gL_law_X4_thrown sX4_thrown (rm := rmX4_thrown) (aChk_mk rfl (by omega) (by omega)) c_X4_thrown ?_
  rw [hT]
  refine aw_iload C dL_law_273 Lk5 ?_
  refine aw_icmp_eq C dL_law_275 (tgt := 280) (by decide) (fun c9 => ?_) (fun c9 => absurd rfl c9)
  refine aw_iload C dL_law_280 Lk5 ?_
  refine aw_if_ne C dL_law_282 (tgt := 297) (by decide) (fun c8 => ?_) (fun c8 => ?_)
  · skip
    refine aw_goto C dL_law_297 (tgt := 907) (by decide) ?_
    exact aW_wk next (by repeat' (first | exact Wk.n | apply Wk.k | apply Wk.d))
  · have hk0 : kc = 0 := nI_inj (by omega) (by omega) (Classical.not_not.mp c8)
    refine aw_aload_n C dL_law_285 Lk3 ?_
    refine aw_iconst C dL_law_286 (x := nI 0) (by decide) ?_
    refine aw_lld C dL_law_287 ?_
    rw [hV hk0]
    refine aw_iload C dL_law_288 Lk6 ?_
    refine aw_i2l C dL_law_290 ?_
    refine aw_lcmp9 C dL_law_291 ?_
    refine aw_if_eq C dL_law_292 (tgt := 297) (by decide) (fun c7 => ?_) (fun c7 => absurd lg_cmp_self c7)
    refine aw_goto C dL_law_297 (tgt := 907) (by decide) ?_
    exact aW_wk next (by repeat' (first | exact Wk.n | apply Wk.k | apply Wk.d))
set_option maxHeartbeats 4000000 in
set_option maxRecDepth 100000 in
theorem lop_list (C : aC p s m args meth c D (cTys cI cZ cR cJ) A cL_law 9 wsL_law RL (some .boolean)) (hU : aU A s) (S : aS s A b L xs) (ht : 4 * t + 4 ≤ L) (hc : cells + 1 ≤ room_1.cells) (hs : slots + 6 ≤ room_1.slots) {p1 : Int32} (e1 : xs (4 * t + 1) = p1) {p2 : Int32} (e2 : xs (4 * t + 2) = p2) (hK : aK l D (cTys cI cZ cR cJ) 59 a yL_list wsL_list rmL_list [.ref (a 44), .int (p1), .int (p2), .ref (a 58)] (lw cI cZ cR cJ a σ τ o) (some (.int (nI kc))) (lw cI cZ cR cJ a σ' τ o')) (hM : aM l D (cTys cI cZ cR cJ) 9 (fun j => a (49 + j)) yX4_list wsX4_list rmX4_list [.ref (a 49), .int (p1), .int (p2)] (mv cI cZ (fun j => a (49 + j)) τ) (some (.int (r2))) (mv cI cZ (fun j => a (49 + j)) τ')) (hT : τ'.1 0 = nI kc) (hk : kc < 3) (hV : kc = 0 → o' 0 = r2.toInt64) (next : aW p l e room_1 s m args below meth c Q D A (cells + 1) (slots + 6) 59 a (lw cI cZ cR cJ a σ' τ' o') 907 (lvB b a t) []) : aW p l e room_1 s m args below meth c Q D A (cells) (slots) 59 a (lw cI cZ cR cJ a σ τ o) 300 (lvB b a t) [] := by
  refine aw_aload_n C dL_law_300 Lk1 ?_
  refine aw_aload_n C dL_law_301 Lk0 ?_
  refine aw_iload C dL_law_302 Lk4 ?_
  refine aw_iconst C dL_law_304 (x := nI 1) (by decide) ?_
  refine aw_iadd C dL_law_305 ?_
  rw [nI_add]
  refine aw_sld C S dL_law_306 (by omega) ?_
  rw [e1]
  refine aw_aload_n C dL_law_307 Lk0 ?_
  refine aw_iload C dL_law_308 Lk4 ?_
  refine aw_iconst C dL_law_310 (x := nI 2) (by decide) ?_
  refine aw_iadd C dL_law_311 ?_
  rw [nI_add]
  refine aw_sld C S dL_law_312 (by omega) ?_
  rw [e2]
  refine aw_aload_n C dL_law_313 Lk3 ?_
  refine aw_callK (As := [.ref (a 44), .int (p1), .int (p2), .ref (a 58)]) C hU dL_law_314 gL_law_L_list sL_list (rm := rmL_list) ⟨Nat.le_of_ble_eq_true rfl, Nat.le_of_ble_eq_true rfl⟩ rfl rfl rfl ⟨hc, hs⟩ (Nat.le_of_ble_eq_true rfl) hK ?_
  refine aw_istore C dL_law_317 St5 rfl ?_
  refine aw_aload_n C dL_law_319 Lk2 ?_
  refine aw_aload_n C dL_law_320 Lk0 ?_
  refine aw_iload C dL_law_321 Lk4 ?_
  refine aw_iconst C dL_law_323 (x := nI 1) (by decide) ?_
  refine aw_iadd C dL_law_324 ?_
  rw [nI_add]
  refine aw_sld C S dL_law_325 (by omega) ?_
  rw [e1]
  refine aw_aload_n C dL_law_326 Lk0 ?_
  refine aw_iload C dL_law_327 Lk4 ?_
  refine aw_iconst C dL_law_329 (x := nI 2) (by decide) ?_
  refine aw_iadd C dL_law_330 ?_
  rw [nI_add]
  refine aw_sld C S dL_law_331 (by omega) ?_
  rw [e2]
  refine aw_lm (As := [.int (p1), .int (p2)]) C dL_law_332 gL_law_X4_list sX4_list (rm := rmX4_list) (aChk_mk rfl (by omega) (by omega)) hM ?_
  refine aw_istore C dL_law_335 St6 rfl ?_
  refine aw_aload_n C dL_law_337 Lk2 ?_
  refine aw_lm (As := []) C dL_law_338 gL_law_X4_thrown sX4_thrown (rm := rmX4_thrown) (aChk_mk rfl (by omega) (by omega)) c_X4_thrown ?_
  rw [hT]
  refine aw_iload C dL_law_341 Lk5 ?_
  refine aw_icmp_eq C dL_law_343 (tgt := 348) (by decide) (fun c9 => ?_) (fun c9 => absurd rfl c9)
  refine aw_iload C dL_law_348 Lk5 ?_
  refine aw_if_ne C dL_law_350 (tgt := 365) (by decide) (fun c8 => ?_) (fun c8 => ?_)
  · skip
    refine aw_goto C dL_law_365 (tgt := 907) (by decide) ?_
    exact aW_wk next (by repeat' (first | exact Wk.n | apply Wk.k | apply Wk.d))
  · have hk0 : kc = 0 := nI_inj (by omega) (by omega) (Classical.not_not.mp c8)
    refine aw_aload_n C dL_law_353 Lk3 ?_
    refine aw_iconst C dL_law_354 (x := nI 0) (by decide) ?_
    refine aw_lld C dL_law_355 ?_
    rw [hV hk0]
    refine aw_iload C dL_law_356 Lk6 ?_
    refine aw_i2l C dL_law_358 ?_
    refine aw_lcmp9 C dL_law_359 ?_
    refine aw_if_eq C dL_law_360 (tgt := 365) (by decide) (fun c7 => ?_) (fun c7 => absurd lg_cmp_self c7)
    refine aw_goto C dL_law_365 (tgt := 907) (by decide) ?_
    exact aW_wk next (by repeat' (first | exact Wk.n | apply Wk.k | apply Wk.d))
set_option maxHeartbeats 4000000 in
set_option maxRecDepth 100000 in
theorem lop_told (C : aC p s m args meth c D (cTys cI cZ cR cJ) A cL_law 9 wsL_law RL (some .boolean)) (hU : aU A s) (S : aS s A b L xs) (ht : 4 * t + 4 ≤ L) (hc : cells + 1 ≤ room_1.cells) (hs : slots + 6 ≤ room_1.slots) {p1 : Int32} (e1 : xs (4 * t + 1) = p1) {p2 : Int32} (e2 : xs (4 * t + 2) = p2) (hK : aK l D (cTys cI cZ cR cJ) 59 a yL_told wsL_told rmL_told [.ref (a 44), .int (p1), .int (p2), .ref (a 58)] (lw cI cZ cR cJ a σ τ o) (some (.int (nI kc))) (lw cI cZ cR cJ a σ' τ o')) (hM : aM l D (cTys cI cZ cR cJ) 9 (fun j => a (49 + j)) yX4_told wsX4_told rmX4_told [.ref (a 49), .int (p1), .int (p2)] (mv cI cZ (fun j => a (49 + j)) τ) (some (.int (r2))) (mv cI cZ (fun j => a (49 + j)) τ')) (hT : τ'.1 0 = nI kc) (hk : kc < 3) (hV : kc = 0 → o' 0 = r2.toInt64) (next : aW p l e room_1 s m args below meth c Q D A (cells + 1) (slots + 6) 59 a (lw cI cZ cR cJ a σ' τ' o') 907 (lvB b a t) []) : aW p l e room_1 s m args below meth c Q D A (cells) (slots) 59 a (lw cI cZ cR cJ a σ τ o) 368 (lvB b a t) [] := by
  refine aw_aload_n C dL_law_368 Lk1 ?_
  refine aw_aload_n C dL_law_369 Lk0 ?_
  refine aw_iload C dL_law_370 Lk4 ?_
  refine aw_iconst C dL_law_372 (x := nI 1) (by decide) ?_
  refine aw_iadd C dL_law_373 ?_
  rw [nI_add]
  refine aw_sld C S dL_law_374 (by omega) ?_
  rw [e1]
  refine aw_aload_n C dL_law_375 Lk0 ?_
  refine aw_iload C dL_law_376 Lk4 ?_
  refine aw_iconst C dL_law_378 (x := nI 2) (by decide) ?_
  refine aw_iadd C dL_law_379 ?_
  rw [nI_add]
  refine aw_sld C S dL_law_380 (by omega) ?_
  rw [e2]
  refine aw_aload_n C dL_law_381 Lk3 ?_
  refine aw_callK (As := [.ref (a 44), .int (p1), .int (p2), .ref (a 58)]) C hU dL_law_382 gL_law_L_told sL_told (rm := rmL_told) ⟨Nat.le_of_ble_eq_true rfl, Nat.le_of_ble_eq_true rfl⟩ rfl rfl rfl ⟨hc, hs⟩ (Nat.le_of_ble_eq_true rfl) hK ?_
  refine aw_istore C dL_law_385 St5 rfl ?_
  refine aw_aload_n C dL_law_387 Lk2 ?_
  refine aw_aload_n C dL_law_388 Lk0 ?_
  refine aw_iload C dL_law_389 Lk4 ?_
  refine aw_iconst C dL_law_391 (x := nI 1) (by decide) ?_
  refine aw_iadd C dL_law_392 ?_
  rw [nI_add]
  refine aw_sld C S dL_law_393 (by omega) ?_
  rw [e1]
  refine aw_aload_n C dL_law_394 Lk0 ?_
  refine aw_iload C dL_law_395 Lk4 ?_
  refine aw_iconst C dL_law_397 (x := nI 2) (by decide) ?_
  refine aw_iadd C dL_law_398 ?_
  rw [nI_add]
  refine aw_sld C S dL_law_399 (by omega) ?_
  rw [e2]
  refine aw_lm (As := [.int (p1), .int (p2)]) C dL_law_400 gL_law_X4_told sX4_told (rm := rmX4_told) (aChk_mk rfl (by omega) (by omega)) hM ?_
  refine aw_istore C dL_law_403 St6 rfl ?_
  refine aw_aload_n C dL_law_405 Lk2 ?_
  refine aw_lm (As := []) C dL_law_406 gL_law_X4_thrown sX4_thrown (rm := rmX4_thrown) (aChk_mk rfl (by omega) (by omega)) c_X4_thrown ?_
  rw [hT]
  refine aw_iload C dL_law_409 Lk5 ?_
  refine aw_icmp_eq C dL_law_411 (tgt := 416) (by decide) (fun c9 => ?_) (fun c9 => absurd rfl c9)
  refine aw_iload C dL_law_416 Lk5 ?_
  refine aw_if_ne C dL_law_418 (tgt := 433) (by decide) (fun c8 => ?_) (fun c8 => ?_)
  · skip
    refine aw_goto C dL_law_433 (tgt := 907) (by decide) ?_
    exact aW_wk next (by repeat' (first | exact Wk.n | apply Wk.k | apply Wk.d))
  · have hk0 : kc = 0 := nI_inj (by omega) (by omega) (Classical.not_not.mp c8)
    refine aw_aload_n C dL_law_421 Lk3 ?_
    refine aw_iconst C dL_law_422 (x := nI 0) (by decide) ?_
    refine aw_lld C dL_law_423 ?_
    rw [hV hk0]
    refine aw_iload C dL_law_424 Lk6 ?_
    refine aw_i2l C dL_law_426 ?_
    refine aw_lcmp9 C dL_law_427 ?_
    refine aw_if_eq C dL_law_428 (tgt := 433) (by decide) (fun c7 => ?_) (fun c7 => absurd lg_cmp_self c7)
    refine aw_goto C dL_law_433 (tgt := 907) (by decide) ?_
    exact aW_wk next (by repeat' (first | exact Wk.n | apply Wk.k | apply Wk.d))
set_option maxHeartbeats 4000000 in
set_option maxRecDepth 100000 in
theorem lop_points (C : aC p s m args meth c D (cTys cI cZ cR cJ) A cL_law 9 wsL_law RL (some .boolean)) (hU : aU A s) (S : aS s A b L xs) (ht : 4 * t + 4 ≤ L) (hc : cells + 1 ≤ room_1.cells) (hs : slots + 6 ≤ room_1.slots) {p1 : Int32} (e1 : xs (4 * t + 1) = p1) {p2 : Int32} (e2 : xs (4 * t + 2) = p2) (hK : aK l D (cTys cI cZ cR cJ) 59 a yL_points wsL_points rmL_points [.ref (a 44), .int (p1), .int (p2), .ref (a 58)] (lw cI cZ cR cJ a σ τ o) (some (.int (nI kc))) (lw cI cZ cR cJ a σ' τ o')) (hM : aM l D (cTys cI cZ cR cJ) 9 (fun j => a (49 + j)) yX4_points wsX4_points rmX4_points [.ref (a 49), .int (p1), .int (p2)] (mv cI cZ (fun j => a (49 + j)) τ) (some (.int (r2))) (mv cI cZ (fun j => a (49 + j)) τ')) (hT : τ'.1 0 = nI kc) (hk : kc < 3) (hV : kc = 0 → o' 0 = r2.toInt64) (next : aW p l e room_1 s m args below meth c Q D A (cells + 1) (slots + 6) 59 a (lw cI cZ cR cJ a σ' τ' o') 907 (lvB b a t) []) : aW p l e room_1 s m args below meth c Q D A (cells) (slots) 59 a (lw cI cZ cR cJ a σ τ o) 436 (lvB b a t) [] := by
  refine aw_aload_n C dL_law_436 Lk1 ?_
  refine aw_aload_n C dL_law_437 Lk0 ?_
  refine aw_iload C dL_law_438 Lk4 ?_
  refine aw_iconst C dL_law_440 (x := nI 1) (by decide) ?_
  refine aw_iadd C dL_law_441 ?_
  rw [nI_add]
  refine aw_sld C S dL_law_442 (by omega) ?_
  rw [e1]
  refine aw_aload_n C dL_law_443 Lk0 ?_
  refine aw_iload C dL_law_444 Lk4 ?_
  refine aw_iconst C dL_law_446 (x := nI 2) (by decide) ?_
  refine aw_iadd C dL_law_447 ?_
  rw [nI_add]
  refine aw_sld C S dL_law_448 (by omega) ?_
  rw [e2]
  refine aw_aload_n C dL_law_449 Lk3 ?_
  refine aw_callK (As := [.ref (a 44), .int (p1), .int (p2), .ref (a 58)]) C hU dL_law_450 gL_law_L_points sL_points (rm := rmL_points) ⟨Nat.le_of_ble_eq_true rfl, Nat.le_of_ble_eq_true rfl⟩ rfl rfl rfl ⟨hc, hs⟩ (Nat.le_of_ble_eq_true rfl) hK ?_
  refine aw_istore C dL_law_453 St5 rfl ?_
  refine aw_aload_n C dL_law_455 Lk2 ?_
  refine aw_aload_n C dL_law_456 Lk0 ?_
  refine aw_iload C dL_law_457 Lk4 ?_
  refine aw_iconst C dL_law_459 (x := nI 1) (by decide) ?_
  refine aw_iadd C dL_law_460 ?_
  rw [nI_add]
  refine aw_sld C S dL_law_461 (by omega) ?_
  rw [e1]
  refine aw_aload_n C dL_law_462 Lk0 ?_
  refine aw_iload C dL_law_463 Lk4 ?_
  refine aw_iconst C dL_law_465 (x := nI 2) (by decide) ?_
  refine aw_iadd C dL_law_466 ?_
  rw [nI_add]
  refine aw_sld C S dL_law_467 (by omega) ?_
  rw [e2]
  refine aw_lm (As := [.int (p1), .int (p2)]) C dL_law_468 gL_law_X4_points sX4_points (rm := rmX4_points) (aChk_mk rfl (by omega) (by omega)) hM ?_
  refine aw_istore C dL_law_471 St6 rfl ?_
  refine aw_aload_n C dL_law_473 Lk2 ?_
  refine aw_lm (As := []) C dL_law_474 gL_law_X4_thrown sX4_thrown (rm := rmX4_thrown) (aChk_mk rfl (by omega) (by omega)) c_X4_thrown ?_
  rw [hT]
  refine aw_iload C dL_law_477 Lk5 ?_
  refine aw_icmp_eq C dL_law_479 (tgt := 484) (by decide) (fun c9 => ?_) (fun c9 => absurd rfl c9)
  refine aw_iload C dL_law_484 Lk5 ?_
  refine aw_if_ne C dL_law_486 (tgt := 501) (by decide) (fun c8 => ?_) (fun c8 => ?_)
  · skip
    refine aw_goto C dL_law_501 (tgt := 907) (by decide) ?_
    exact aW_wk next (by repeat' (first | exact Wk.n | apply Wk.k | apply Wk.d))
  · have hk0 : kc = 0 := nI_inj (by omega) (by omega) (Classical.not_not.mp c8)
    refine aw_aload_n C dL_law_489 Lk3 ?_
    refine aw_iconst C dL_law_490 (x := nI 0) (by decide) ?_
    refine aw_lld C dL_law_491 ?_
    rw [hV hk0]
    refine aw_iload C dL_law_492 Lk6 ?_
    refine aw_i2l C dL_law_494 ?_
    refine aw_lcmp9 C dL_law_495 ?_
    refine aw_if_eq C dL_law_496 (tgt := 501) (by decide) (fun c7 => ?_) (fun c7 => absurd lg_cmp_self c7)
    refine aw_goto C dL_law_501 (tgt := 907) (by decide) ?_
    exact aW_wk next (by repeat' (first | exact Wk.n | apply Wk.k | apply Wk.d))
set_option maxHeartbeats 4000000 in
set_option maxRecDepth 100000 in
theorem lop_rank (C : aC p s m args meth c D (cTys cI cZ cR cJ) A cL_law 9 wsL_law RL (some .boolean)) (hU : aU A s) (S : aS s A b L xs) (ht : 4 * t + 4 ≤ L) (hc : cells + 1 ≤ room_1.cells) (hs : slots + 6 ≤ room_1.slots) {p1 : Int32} (e1 : xs (4 * t + 1) = p1) {p2 : Int32} (e2 : xs (4 * t + 2) = p2) (hK : aK l D (cTys cI cZ cR cJ) 59 a yL_rank wsL_rank rmL_rank [.ref (a 44), .int (p1), .int (p2), .ref (a 58)] (lw cI cZ cR cJ a σ τ o) (some (.int (nI kc))) (lw cI cZ cR cJ a σ' τ o')) (hM : aM l D (cTys cI cZ cR cJ) 9 (fun j => a (49 + j)) yX4_rank wsX4_rank rmX4_rank [.ref (a 49), .int (p1), .int (p2)] (mv cI cZ (fun j => a (49 + j)) τ) (some (.int (r2))) (mv cI cZ (fun j => a (49 + j)) τ')) (hT : τ'.1 0 = nI kc) (hk : kc < 3) (hV : kc = 0 → o' 0 = r2.toInt64) (next : aW p l e room_1 s m args below meth c Q D A (cells + 1) (slots + 6) 59 a (lw cI cZ cR cJ a σ' τ' o') 907 (lvB b a t) []) : aW p l e room_1 s m args below meth c Q D A (cells) (slots) 59 a (lw cI cZ cR cJ a σ τ o) 504 (lvB b a t) [] := by
  refine aw_aload_n C dL_law_504 Lk1 ?_
  refine aw_aload_n C dL_law_505 Lk0 ?_
  refine aw_iload C dL_law_506 Lk4 ?_
  refine aw_iconst C dL_law_508 (x := nI 1) (by decide) ?_
  refine aw_iadd C dL_law_509 ?_
  rw [nI_add]
  refine aw_sld C S dL_law_510 (by omega) ?_
  rw [e1]
  refine aw_aload_n C dL_law_511 Lk0 ?_
  refine aw_iload C dL_law_512 Lk4 ?_
  refine aw_iconst C dL_law_514 (x := nI 2) (by decide) ?_
  refine aw_iadd C dL_law_515 ?_
  rw [nI_add]
  refine aw_sld C S dL_law_516 (by omega) ?_
  rw [e2]
  refine aw_aload_n C dL_law_517 Lk3 ?_
  refine aw_callK (As := [.ref (a 44), .int (p1), .int (p2), .ref (a 58)]) C hU dL_law_518 gL_law_L_rank sL_rank (rm := rmL_rank) ⟨Nat.le_of_ble_eq_true rfl, Nat.le_of_ble_eq_true rfl⟩ rfl rfl rfl ⟨hc, hs⟩ (Nat.le_of_ble_eq_true rfl) hK ?_
  refine aw_istore C dL_law_521 St5 rfl ?_
  refine aw_aload_n C dL_law_523 Lk2 ?_
  refine aw_aload_n C dL_law_524 Lk0 ?_
  refine aw_iload C dL_law_525 Lk4 ?_
  refine aw_iconst C dL_law_527 (x := nI 1) (by decide) ?_
  refine aw_iadd C dL_law_528 ?_
  rw [nI_add]
  refine aw_sld C S dL_law_529 (by omega) ?_
  rw [e1]
  refine aw_aload_n C dL_law_530 Lk0 ?_
  refine aw_iload C dL_law_531 Lk4 ?_
  refine aw_iconst C dL_law_533 (x := nI 2) (by decide) ?_
  refine aw_iadd C dL_law_534 ?_
  rw [nI_add]
  refine aw_sld C S dL_law_535 (by omega) ?_
  rw [e2]
  refine aw_lm (As := [.int (p1), .int (p2)]) C dL_law_536 gL_law_X4_rank sX4_rank (rm := rmX4_rank) (aChk_mk rfl (by omega) (by omega)) hM ?_
  refine aw_istore C dL_law_539 St6 rfl ?_
  refine aw_aload_n C dL_law_541 Lk2 ?_
  refine aw_lm (As := []) C dL_law_542 gL_law_X4_thrown sX4_thrown (rm := rmX4_thrown) (aChk_mk rfl (by omega) (by omega)) c_X4_thrown ?_
  rw [hT]
  refine aw_iload C dL_law_545 Lk5 ?_
  refine aw_icmp_eq C dL_law_547 (tgt := 552) (by decide) (fun c9 => ?_) (fun c9 => absurd rfl c9)
  refine aw_iload C dL_law_552 Lk5 ?_
  refine aw_if_ne C dL_law_554 (tgt := 569) (by decide) (fun c8 => ?_) (fun c8 => ?_)
  · skip
    refine aw_goto C dL_law_569 (tgt := 907) (by decide) ?_
    exact aW_wk next (by repeat' (first | exact Wk.n | apply Wk.k | apply Wk.d))
  · have hk0 : kc = 0 := nI_inj (by omega) (by omega) (Classical.not_not.mp c8)
    refine aw_aload_n C dL_law_557 Lk3 ?_
    refine aw_iconst C dL_law_558 (x := nI 0) (by decide) ?_
    refine aw_lld C dL_law_559 ?_
    rw [hV hk0]
    refine aw_iload C dL_law_560 Lk6 ?_
    refine aw_i2l C dL_law_562 ?_
    refine aw_lcmp9 C dL_law_563 ?_
    refine aw_if_eq C dL_law_564 (tgt := 569) (by decide) (fun c7 => ?_) (fun c7 => absurd lg_cmp_self c7)
    refine aw_goto C dL_law_569 (tgt := 907) (by decide) ?_
    exact aW_wk next (by repeat' (first | exact Wk.n | apply Wk.k | apply Wk.d))
set_option maxHeartbeats 4000000 in
set_option maxRecDepth 100000 in
theorem lop_count (C : aC p s m args meth c D (cTys cI cZ cR cJ) A cL_law 9 wsL_law RL (some .boolean)) (hU : aU A s) (S : aS s A b L xs) (ht : 4 * t + 4 ≤ L) (hc : cells + 1 ≤ room_1.cells) (hs : slots + 6 ≤ room_1.slots) {p1 : Int32} (e1 : xs (4 * t + 1) = p1) (hK : aK l D (cTys cI cZ cR cJ) 59 a yL_count wsL_count rmL_count [.ref (a 44), .int (p1), .ref (a 58)] (lw cI cZ cR cJ a σ τ o) (some (.int (nI kc))) (lw cI cZ cR cJ a σ' τ o')) (hM : aM l D (cTys cI cZ cR cJ) 9 (fun j => a (49 + j)) yX4_count wsX4_count rmX4_count [.ref (a 49), .int (p1)] (mv cI cZ (fun j => a (49 + j)) τ) (some (.int (r2))) (mv cI cZ (fun j => a (49 + j)) τ')) (hT : τ'.1 0 = nI kc) (hk : kc < 3) (hV : kc = 0 → o' 0 = r2.toInt64) (next : aW p l e room_1 s m args below meth c Q D A (cells + 1) (slots + 6) 59 a (lw cI cZ cR cJ a σ' τ' o') 907 (lvB b a t) []) : aW p l e room_1 s m args below meth c Q D A (cells) (slots) 59 a (lw cI cZ cR cJ a σ τ o) 572 (lvB b a t) [] := by
  refine aw_aload_n C dL_law_572 Lk1 ?_
  refine aw_aload_n C dL_law_573 Lk0 ?_
  refine aw_iload C dL_law_574 Lk4 ?_
  refine aw_iconst C dL_law_576 (x := nI 1) (by decide) ?_
  refine aw_iadd C dL_law_577 ?_
  rw [nI_add]
  refine aw_sld C S dL_law_578 (by omega) ?_
  rw [e1]
  refine aw_aload_n C dL_law_579 Lk3 ?_
  refine aw_callK (As := [.ref (a 44), .int (p1), .ref (a 58)]) C hU dL_law_580 gL_law_L_count sL_count (rm := rmL_count) ⟨Nat.le_of_ble_eq_true rfl, Nat.le_of_ble_eq_true rfl⟩ rfl rfl rfl ⟨hc, hs⟩ (Nat.le_of_ble_eq_true rfl) hK ?_
  refine aw_istore C dL_law_583 St5 rfl ?_
  refine aw_aload_n C dL_law_585 Lk2 ?_
  refine aw_aload_n C dL_law_586 Lk0 ?_
  refine aw_iload C dL_law_587 Lk4 ?_
  refine aw_iconst C dL_law_589 (x := nI 1) (by decide) ?_
  refine aw_iadd C dL_law_590 ?_
  rw [nI_add]
  refine aw_sld C S dL_law_591 (by omega) ?_
  rw [e1]
  refine aw_lm (As := [.int (p1)]) C dL_law_592 gL_law_X4_count sX4_count (rm := rmX4_count) (aChk_mk rfl (by omega) (by omega)) hM ?_
  refine aw_istore C dL_law_595 St6 rfl ?_
  refine aw_aload_n C dL_law_597 Lk2 ?_
  refine aw_lm (As := []) C dL_law_598 gL_law_X4_thrown sX4_thrown (rm := rmX4_thrown) (aChk_mk rfl (by omega) (by omega)) c_X4_thrown ?_
  rw [hT]
  refine aw_iload C dL_law_601 Lk5 ?_
  refine aw_icmp_eq C dL_law_603 (tgt := 608) (by decide) (fun c9 => ?_) (fun c9 => absurd rfl c9)
  refine aw_iload C dL_law_608 Lk5 ?_
  refine aw_if_ne C dL_law_610 (tgt := 625) (by decide) (fun c8 => ?_) (fun c8 => ?_)
  · skip
    refine aw_goto C dL_law_625 (tgt := 907) (by decide) ?_
    exact aW_wk next (by repeat' (first | exact Wk.n | apply Wk.k | apply Wk.d))
  · have hk0 : kc = 0 := nI_inj (by omega) (by omega) (Classical.not_not.mp c8)
    refine aw_aload_n C dL_law_613 Lk3 ?_
    refine aw_iconst C dL_law_614 (x := nI 0) (by decide) ?_
    refine aw_lld C dL_law_615 ?_
    rw [hV hk0]
    refine aw_iload C dL_law_616 Lk6 ?_
    refine aw_i2l C dL_law_618 ?_
    refine aw_lcmp9 C dL_law_619 ?_
    refine aw_if_eq C dL_law_620 (tgt := 625) (by decide) (fun c7 => ?_) (fun c7 => absurd lg_cmp_self c7)
    refine aw_goto C dL_law_625 (tgt := 907) (by decide) ?_
    exact aW_wk next (by repeat' (first | exact Wk.n | apply Wk.k | apply Wk.d))
set_option maxHeartbeats 4000000 in
set_option maxRecDepth 100000 in
theorem lop_swaps (C : aC p s m args meth c D (cTys cI cZ cR cJ) A cL_law 9 wsL_law RL (some .boolean)) (hU : aU A s) (S : aS s A b L xs) (ht : 4 * t + 4 ≤ L) (hc : cells + 1 ≤ room_1.cells) (hs : slots + 6 ≤ room_1.slots) {p1 : Int32} (e1 : xs (4 * t + 1) = p1) {p2 : Int32} (e2 : xs (4 * t + 2) = p2) (hK : aK l D (cTys cI cZ cR cJ) 59 a yL_swaps wsL_swaps rmL_swaps [.ref (a 44), .int (p1), .int (p2), .ref (a 58)] (lw cI cZ cR cJ a σ τ o) (some (.int (nI kc))) (lw cI cZ cR cJ a σ' τ o')) (hM : aM l D (cTys cI cZ cR cJ) 9 (fun j => a (49 + j)) yX4_swaps wsX4_swaps rmX4_swaps [.ref (a 49), .int (p1), .int (p2)] (mv cI cZ (fun j => a (49 + j)) τ) (some (.int (bI rb))) (mv cI cZ (fun j => a (49 + j)) τ')) (hT : τ'.1 0 = nI kc) (hk : kc < 3) (hV : kc = 0 → o' 0 = if rb then 1 else 0) (next : aW p l e room_1 s m args below meth c Q D A (cells + 1) (slots + 6) 59 a (lw cI cZ cR cJ a σ' τ' o') 907 (lvB b a t) []) : aW p l e room_1 s m args below meth c Q D A (cells) (slots) 59 a (lw cI cZ cR cJ a σ τ o) 628 (lvB b a t) [] := by
  refine aw_aload_n C dL_law_628 Lk1 ?_
  refine aw_aload_n C dL_law_629 Lk0 ?_
  refine aw_iload C dL_law_630 Lk4 ?_
  refine aw_iconst C dL_law_632 (x := nI 1) (by decide) ?_
  refine aw_iadd C dL_law_633 ?_
  rw [nI_add]
  refine aw_sld C S dL_law_634 (by omega) ?_
  rw [e1]
  refine aw_aload_n C dL_law_635 Lk0 ?_
  refine aw_iload C dL_law_636 Lk4 ?_
  refine aw_iconst C dL_law_638 (x := nI 2) (by decide) ?_
  refine aw_iadd C dL_law_639 ?_
  rw [nI_add]
  refine aw_sld C S dL_law_640 (by omega) ?_
  rw [e2]
  refine aw_aload_n C dL_law_641 Lk3 ?_
  refine aw_callK (As := [.ref (a 44), .int (p1), .int (p2), .ref (a 58)]) C hU dL_law_642 gL_law_L_swaps sL_swaps (rm := rmL_swaps) ⟨Nat.le_of_ble_eq_true rfl, Nat.le_of_ble_eq_true rfl⟩ rfl rfl rfl ⟨hc, hs⟩ (Nat.le_of_ble_eq_true rfl) hK ?_
  refine aw_istore C dL_law_645 St5 rfl ?_
  refine aw_aload_n C dL_law_647 Lk2 ?_
  refine aw_aload_n C dL_law_648 Lk0 ?_
  refine aw_iload C dL_law_649 Lk4 ?_
  refine aw_iconst C dL_law_651 (x := nI 1) (by decide) ?_
  refine aw_iadd C dL_law_652 ?_
  rw [nI_add]
  refine aw_sld C S dL_law_653 (by omega) ?_
  rw [e1]
  refine aw_aload_n C dL_law_654 Lk0 ?_
  refine aw_iload C dL_law_655 Lk4 ?_
  refine aw_iconst C dL_law_657 (x := nI 2) (by decide) ?_
  refine aw_iadd C dL_law_658 ?_
  rw [nI_add]
  refine aw_sld C S dL_law_659 (by omega) ?_
  rw [e2]
  refine aw_lm (As := [.int (p1), .int (p2)]) C dL_law_660 gL_law_X4_swaps sX4_swaps (rm := rmX4_swaps) (aChk_mk rfl (by omega) (by omega)) hM ?_
  refine aw_istore C dL_law_663 St6 rfl ?_
  refine aw_aload_n C dL_law_665 Lk2 ?_
  refine aw_lm (As := []) C dL_law_666 gL_law_X4_thrown sX4_thrown (rm := rmX4_thrown) (aChk_mk rfl (by omega) (by omega)) c_X4_thrown ?_
  rw [hT]
  refine aw_iload C dL_law_669 Lk5 ?_
  refine aw_icmp_eq C dL_law_671 (tgt := 676) (by decide) (fun c9 => ?_) (fun c9 => absurd rfl c9)
  refine aw_iload C dL_law_676 Lk5 ?_
  refine aw_if_ne C dL_law_678 (tgt := 700) (by decide) (fun c8 => ?_) (fun c8 => ?_)
  · skip
    refine aw_goto C dL_law_700 (tgt := 907) (by decide) ?_
    exact aW_wk next (by repeat' (first | exact Wk.n | apply Wk.k | apply Wk.d))
  · have hk0 : kc = 0 := nI_inj (by omega) (by omega) (Classical.not_not.mp c8)
    refine aw_aload_n C dL_law_681 Lk3 ?_
    refine aw_iconst C dL_law_682 (x := nI 0) (by decide) ?_
    refine aw_lld C dL_law_683 ?_
    rw [hV hk0]
    refine aw_iload C dL_law_684 Lk6 ?_
    cases rb with
    | false =>
      refine aw_if_eq C dL_law_686 (tgt := 693) (by decide) (fun c6 => ?_) (fun c6 => absurd (by decide) c6)
      refine aw_lconst C dL_law_693 (x := 0) (by decide) ?_
      refine aw_lcmp9 C dL_law_694 ?_
      refine aw_if_eq C dL_law_695 (tgt := 700) (by decide) (fun c7 => ?_) (fun c7 => absurd (by decide) c7)
      refine aw_goto C dL_law_700 (tgt := 907) (by decide) ?_
      exact aW_wk next (by repeat' (first | exact Wk.n | apply Wk.k | apply Wk.d))
    | true =>
      refine aw_if_eq C dL_law_686 (tgt := 693) (by decide) (fun c6 => absurd c6 (by decide)) (fun c6 => ?_)
      refine aw_lconst C dL_law_689 (x := 1) (by decide) ?_
      refine aw_goto C dL_law_690 (tgt := 694) (by decide) ?_
      refine aw_lcmp9 C dL_law_694 ?_
      refine aw_if_eq C dL_law_695 (tgt := 700) (by decide) (fun c7 => ?_) (fun c7 => absurd (by decide) c7)
      refine aw_goto C dL_law_700 (tgt := 907) (by decide) ?_
      exact aW_wk next (by repeat' (first | exact Wk.n | apply Wk.k | apply Wk.d))
set_option maxHeartbeats 4000000 in
set_option maxRecDepth 100000 in
theorem lop_without (C : aC p s m args meth c D (cTys cI cZ cR cJ) A cL_law 9 wsL_law RL (some .boolean)) (hU : aU A s) (S : aS s A b L xs) (ht : 4 * t + 4 ≤ L) (hc : cells + 1 ≤ room_1.cells) (hs : slots + 6 ≤ room_1.slots) {p1 : Int32} (e1 : xs (4 * t + 1) = p1) {p2 : Int32} (e2 : xs (4 * t + 2) = p2) (hK : aK l D (cTys cI cZ cR cJ) 59 a yL_without wsL_without rmL_without [.ref (a 44), .int (p1), .int (p2), .ref (a 58)] (lw cI cZ cR cJ a σ τ o) (some (.int (nI kc))) (lw cI cZ cR cJ a σ' τ o')) (hM : aM l D (cTys cI cZ cR cJ) 9 (fun j => a (49 + j)) yX4_without wsX4_without rmX4_without [.ref (a 49), .int (p1), .int (p2)] (mv cI cZ (fun j => a (49 + j)) τ) (some (.int (r2))) (mv cI cZ (fun j => a (49 + j)) τ')) (hT : τ'.1 0 = nI kc) (hk : kc < 3) (hV : kc = 0 → o' 0 = r2.toInt64) (next : aW p l e room_1 s m args below meth c Q D A (cells + 1) (slots + 6) 59 a (lw cI cZ cR cJ a σ' τ' o') 907 (lvB b a t) []) : aW p l e room_1 s m args below meth c Q D A (cells) (slots) 59 a (lw cI cZ cR cJ a σ τ o) 703 (lvB b a t) [] := by
  refine aw_aload_n C dL_law_703 Lk1 ?_
  refine aw_aload_n C dL_law_704 Lk0 ?_
  refine aw_iload C dL_law_705 Lk4 ?_
  refine aw_iconst C dL_law_707 (x := nI 1) (by decide) ?_
  refine aw_iadd C dL_law_708 ?_
  rw [nI_add]
  refine aw_sld C S dL_law_709 (by omega) ?_
  rw [e1]
  refine aw_aload_n C dL_law_710 Lk0 ?_
  refine aw_iload C dL_law_711 Lk4 ?_
  refine aw_iconst C dL_law_713 (x := nI 2) (by decide) ?_
  refine aw_iadd C dL_law_714 ?_
  rw [nI_add]
  refine aw_sld C S dL_law_715 (by omega) ?_
  rw [e2]
  refine aw_aload_n C dL_law_716 Lk3 ?_
  refine aw_callK (As := [.ref (a 44), .int (p1), .int (p2), .ref (a 58)]) C hU dL_law_717 gL_law_L_without sL_without (rm := rmL_without) ⟨Nat.le_of_ble_eq_true rfl, Nat.le_of_ble_eq_true rfl⟩ rfl rfl rfl ⟨hc, hs⟩ (Nat.le_of_ble_eq_true rfl) hK ?_
  refine aw_istore C dL_law_720 St5 rfl ?_
  refine aw_aload_n C dL_law_722 Lk2 ?_
  refine aw_aload_n C dL_law_723 Lk0 ?_
  refine aw_iload C dL_law_724 Lk4 ?_
  refine aw_iconst C dL_law_726 (x := nI 1) (by decide) ?_
  refine aw_iadd C dL_law_727 ?_
  rw [nI_add]
  refine aw_sld C S dL_law_728 (by omega) ?_
  rw [e1]
  refine aw_aload_n C dL_law_729 Lk0 ?_
  refine aw_iload C dL_law_730 Lk4 ?_
  refine aw_iconst C dL_law_732 (x := nI 2) (by decide) ?_
  refine aw_iadd C dL_law_733 ?_
  rw [nI_add]
  refine aw_sld C S dL_law_734 (by omega) ?_
  rw [e2]
  refine aw_lm (As := [.int (p1), .int (p2)]) C dL_law_735 gL_law_X4_without sX4_without (rm := rmX4_without) (aChk_mk rfl (by omega) (by omega)) hM ?_
  refine aw_istore C dL_law_738 St6 rfl ?_
  refine aw_aload_n C dL_law_740 Lk2 ?_
  refine aw_lm (As := []) C dL_law_741 gL_law_X4_thrown sX4_thrown (rm := rmX4_thrown) (aChk_mk rfl (by omega) (by omega)) c_X4_thrown ?_
  rw [hT]
  refine aw_iload C dL_law_744 Lk5 ?_
  refine aw_icmp_eq C dL_law_746 (tgt := 751) (by decide) (fun c9 => ?_) (fun c9 => absurd rfl c9)
  refine aw_iload C dL_law_751 Lk5 ?_
  refine aw_if_ne C dL_law_753 (tgt := 768) (by decide) (fun c8 => ?_) (fun c8 => ?_)
  · skip
    refine aw_goto C dL_law_768 (tgt := 907) (by decide) ?_
    exact aW_wk next (by repeat' (first | exact Wk.n | apply Wk.k | apply Wk.d))
  · have hk0 : kc = 0 := nI_inj (by omega) (by omega) (Classical.not_not.mp c8)
    refine aw_aload_n C dL_law_756 Lk3 ?_
    refine aw_iconst C dL_law_757 (x := nI 0) (by decide) ?_
    refine aw_lld C dL_law_758 ?_
    rw [hV hk0]
    refine aw_iload C dL_law_759 Lk6 ?_
    refine aw_i2l C dL_law_761 ?_
    refine aw_lcmp9 C dL_law_762 ?_
    refine aw_if_eq C dL_law_763 (tgt := 768) (by decide) (fun c7 => ?_) (fun c7 => absurd lg_cmp_self c7)
    refine aw_goto C dL_law_768 (tgt := 907) (by decide) ?_
    exact aW_wk next (by repeat' (first | exact Wk.n | apply Wk.k | apply Wk.d))
set_option maxHeartbeats 4000000 in
set_option maxRecDepth 100000 in
theorem lop_feign (C : aC p s m args meth c D (cTys cI cZ cR cJ) A cL_law 9 wsL_law RL (some .boolean)) (hU : aU A s) (S : aS s A b L xs) (ht : 4 * t + 4 ≤ L) (hc : cells + 1 ≤ room_1.cells) (hs : slots + 6 ≤ room_1.slots) {p1 : Int32} (e1 : xs (4 * t + 1) = p1) {p2 : Int32} (e2 : xs (4 * t + 2) = p2) (hK : aK l D (cTys cI cZ cR cJ) 59 a yL_feign wsL_feign rmL_feign [.ref (a 44), .int (p1), .int (p2), .ref (a 58)] (lw cI cZ cR cJ a σ τ o) (some (.int (nI kc))) (lw cI cZ cR cJ a σ' τ o')) (hM : aM l D (cTys cI cZ cR cJ) 9 (fun j => a (49 + j)) yX4_feign wsX4_feign rmX4_feign [.ref (a 49), .int (p1), .int (p2)] (mv cI cZ (fun j => a (49 + j)) τ) (some (.int (r2))) (mv cI cZ (fun j => a (49 + j)) τ')) (hT : τ'.1 0 = nI kc) (hk : kc < 3) (hV : kc = 0 → o' 0 = r2.toInt64) (next : aW p l e room_1 s m args below meth c Q D A (cells + 1) (slots + 6) 59 a (lw cI cZ cR cJ a σ' τ' o') 907 (lvB b a t) []) : aW p l e room_1 s m args below meth c Q D A (cells) (slots) 59 a (lw cI cZ cR cJ a σ τ o) 771 (lvB b a t) [] := by
  refine aw_aload_n C dL_law_771 Lk1 ?_
  refine aw_aload_n C dL_law_772 Lk0 ?_
  refine aw_iload C dL_law_773 Lk4 ?_
  refine aw_iconst C dL_law_775 (x := nI 1) (by decide) ?_
  refine aw_iadd C dL_law_776 ?_
  rw [nI_add]
  refine aw_sld C S dL_law_777 (by omega) ?_
  rw [e1]
  refine aw_aload_n C dL_law_778 Lk0 ?_
  refine aw_iload C dL_law_779 Lk4 ?_
  refine aw_iconst C dL_law_781 (x := nI 2) (by decide) ?_
  refine aw_iadd C dL_law_782 ?_
  rw [nI_add]
  refine aw_sld C S dL_law_783 (by omega) ?_
  rw [e2]
  refine aw_aload_n C dL_law_784 Lk3 ?_
  refine aw_callK (As := [.ref (a 44), .int (p1), .int (p2), .ref (a 58)]) C hU dL_law_785 gL_law_L_feign sL_feign (rm := rmL_feign) ⟨Nat.le_of_ble_eq_true rfl, Nat.le_of_ble_eq_true rfl⟩ rfl rfl rfl ⟨hc, hs⟩ (Nat.le_of_ble_eq_true rfl) hK ?_
  refine aw_istore C dL_law_788 St5 rfl ?_
  refine aw_aload_n C dL_law_790 Lk2 ?_
  refine aw_aload_n C dL_law_791 Lk0 ?_
  refine aw_iload C dL_law_792 Lk4 ?_
  refine aw_iconst C dL_law_794 (x := nI 1) (by decide) ?_
  refine aw_iadd C dL_law_795 ?_
  rw [nI_add]
  refine aw_sld C S dL_law_796 (by omega) ?_
  rw [e1]
  refine aw_aload_n C dL_law_797 Lk0 ?_
  refine aw_iload C dL_law_798 Lk4 ?_
  refine aw_iconst C dL_law_800 (x := nI 2) (by decide) ?_
  refine aw_iadd C dL_law_801 ?_
  rw [nI_add]
  refine aw_sld C S dL_law_802 (by omega) ?_
  rw [e2]
  refine aw_lm (As := [.int (p1), .int (p2)]) C dL_law_803 gL_law_X4_feign sX4_feign (rm := rmX4_feign) (aChk_mk rfl (by omega) (by omega)) hM ?_
  refine aw_istore C dL_law_806 St6 rfl ?_
  refine aw_aload_n C dL_law_808 Lk2 ?_
  refine aw_lm (As := []) C dL_law_809 gL_law_X4_thrown sX4_thrown (rm := rmX4_thrown) (aChk_mk rfl (by omega) (by omega)) c_X4_thrown ?_
  rw [hT]
  refine aw_iload C dL_law_812 Lk5 ?_
  refine aw_icmp_eq C dL_law_814 (tgt := 819) (by decide) (fun c9 => ?_) (fun c9 => absurd rfl c9)
  refine aw_iload C dL_law_819 Lk5 ?_
  refine aw_if_ne C dL_law_821 (tgt := 836) (by decide) (fun c8 => ?_) (fun c8 => ?_)
  · skip
    refine aw_goto C dL_law_836 (tgt := 907) (by decide) ?_
    exact aW_wk next (by repeat' (first | exact Wk.n | apply Wk.k | apply Wk.d))
  · have hk0 : kc = 0 := nI_inj (by omega) (by omega) (Classical.not_not.mp c8)
    refine aw_aload_n C dL_law_824 Lk3 ?_
    refine aw_iconst C dL_law_825 (x := nI 0) (by decide) ?_
    refine aw_lld C dL_law_826 ?_
    rw [hV hk0]
    refine aw_iload C dL_law_827 Lk6 ?_
    refine aw_i2l C dL_law_829 ?_
    refine aw_lcmp9 C dL_law_830 ?_
    refine aw_if_eq C dL_law_831 (tgt := 836) (by decide) (fun c7 => ?_) (fun c7 => absurd lg_cmp_self c7)
    refine aw_goto C dL_law_836 (tgt := 907) (by decide) ?_
    exact aW_wk next (by repeat' (first | exact Wk.n | apply Wk.k | apply Wk.d))
set_option maxHeartbeats 4000000 in
set_option maxRecDepth 100000 in
theorem lop_move (C : aC p s m args meth c D (cTys cI cZ cR cJ) A cL_law 9 wsL_law RL (some .boolean)) (hU : aU A s) (S : aS s A b L xs) (ht : 4 * t + 4 ≤ L) (hc : cells + 1 ≤ room_1.cells) (hs : slots + 6 ≤ room_1.slots) {x : Int32} (hC : aM l D (cTys cI cZ cR cJ) 49 a yX3_move wsX3_move rmX3_move [.ref (a 44)] (cv cI cR a σ) (some (.int x)) (cv cI cR a σ')) (hM : aM l D (cTys cI cZ cR cJ) 9 (fun j => a (49 + j)) yX4_move wsX4_move rmX4_move [.ref (a 49)] (mv cI cZ (fun j => a (49 + j)) τ) (some (.int x)) (mv cI cZ (fun j => a (49 + j)) τ')) (next : aW p l e room_1 s m args below meth c Q D A (cells + 1) (slots + 6) 59 a (lw cI cZ cR cJ a σ' τ' o) 907 (lvB b a t) []) : aW p l e room_1 s m args below meth c Q D A (cells) (slots) 59 a (lw cI cZ cR cJ a σ τ o) 839 (lvB b a t) [] := by
  refine aw_aload_n C dL_law_839 Lk1 ?_
  refine aw_lc (As := []) C dL_law_840 gL_law_X3_move sX3_move (rm := rmX3_move) (aChk_mk rfl (by omega) (by omega)) hC ?_
  refine aw_aload_n C dL_law_843 Lk2 ?_
  refine aw_lm (As := []) C dL_law_844 gL_law_X4_move sX4_move (rm := rmX4_move) (aChk_mk rfl (by omega) (by omega)) hM ?_
  refine aw_icmp_eq C dL_law_847 (tgt := 907) (by decide) (fun c9 => ?_) (fun c9 => absurd rfl c9)
  exact aW_wk (aw_widen (by omega) (by omega) next) (by repeat' (first | exact Wk.n | apply Wk.k | apply Wk.d))
set_option maxHeartbeats 4000000 in
set_option maxRecDepth 100000 in
theorem lop_mean (C : aC p s m args meth c D (cTys cI cZ cR cJ) A cL_law 9 wsL_law RL (some .boolean)) (hU : aU A s) (S : aS s A b L xs) (ht : 4 * t + 4 ≤ L) (hc : cells + 1 ≤ room_1.cells) (hs : slots + 6 ≤ room_1.slots) {x : UInt64} (hC : aM l D (cTys cI cZ cR cJ) 49 a yX3_mean wsX3_mean rmX3_mean [.ref (a 44)] (cv cI cR a σ) (some (.double x)) (cv cI cR a σ')) (hM : aM l D (cTys cI cZ cR cJ) 9 (fun j => a (49 + j)) yX4_mean wsX4_mean rmX4_mean [.ref (a 49)] (mv cI cZ (fun j => a (49 + j)) τ) (some (.double x)) (mv cI cZ (fun j => a (49 + j)) τ')) (next : aW p l e room_1 s m args below meth c Q D A (cells + 1) (slots + 6) 59 a (lw cI cZ cR cJ a σ' τ' o) 907 (lvB b a t) []) : aW p l e room_1 s m args below meth c Q D A (cells) (slots) 59 a (lw cI cZ cR cJ a σ τ o) 852 (lvB b a t) [] := by
  refine aw_aload_n C dL_law_852 Lk1 ?_
  refine aw_lc (As := []) C dL_law_853 gL_law_X3_mean sX3_mean (rm := rmX3_mean) (aChk_mk rfl (by omega) (by omega)) hC ?_
  refine aw_dstore C dL_law_856 Sl5 rfl ?_
  refine aw_aload_n C dL_law_858 Lk2 ?_
  refine aw_lm (As := []) C dL_law_859 gL_law_X4_mean sX4_mean (rm := rmX4_mean) (aChk_mk rfl (by omega) (by omega)) hM ?_
  refine aw_dstore C dL_law_862 Sl7 rfl ?_
  refine aw_dload C dL_law_864 Lk5 ?_
  refine aw_dload C dL_law_866 Lk7 ?_
  refine aw_dcmp9 C dL_law_868 ?_
  refine aw_if_eq C dL_law_869 (tgt := 890) (by decide) (fun c9 => ?_) (fun c9 => ?_)
  · skip
    refine aw_goto C dL_law_890 (tgt := 907) (by decide) ?_
    exact aW_wk (aw_widen (by omega) (by omega) next) (by repeat' (first | exact Wk.n | apply Wk.k | apply Wk.d))
  · skip
    refine aw_dload C dL_law_872 Lk5 ?_
    refine aw_dload C dL_law_874 Lk5 ?_
    refine aw_dcmp9 C dL_law_876 ?_
    refine aw_if_eq C dL_law_877 (tgt := 888) (by decide) (fun c8 => absurd c8 c9) (fun c8 => ?_)
    refine aw_dload C dL_law_880 Lk7 ?_
    refine aw_dload C dL_law_882 Lk7 ?_
    refine aw_dcmp9 C dL_law_884 ?_
    refine aw_if_ne C dL_law_885 (tgt := 890) (by decide) (fun c7 => ?_) (fun c7 => absurd c9 c7)
    refine aw_goto C dL_law_890 (tgt := 907) (by decide) ?_
    exact aW_wk (aw_widen (by omega) (by omega) next) (by repeat' (first | exact Wk.n | apply Wk.k | apply Wk.d))
set_option maxHeartbeats 4000000 in
set_option maxRecDepth 100000 in
theorem lop_digest (C : aC p s m args meth c D (cTys cI cZ cR cJ) A cL_law 9 wsL_law RL (some .boolean)) (hU : aU A s) (S : aS s A b L xs) (ht : 4 * t + 4 ≤ L) (hc : cells + 1 ≤ room_1.cells) (hs : slots + 6 ≤ room_1.slots) {x : Int64} (hC : aM l D (cTys cI cZ cR cJ) 49 a yX3_digest wsX3_digest rmX3_digest [.ref (a 44)] (cv cI cR a σ) (some (.long x)) (cv cI cR a σ')) (hM : aM l D (cTys cI cZ cR cJ) 9 (fun j => a (49 + j)) yX4_digest wsX4_digest rmX4_digest [.ref (a 49)] (mv cI cZ (fun j => a (49 + j)) τ) (some (.long x)) (mv cI cZ (fun j => a (49 + j)) τ')) (next : aW p l e room_1 s m args below meth c Q D A (cells + 1) (slots + 6) 59 a (lw cI cZ cR cJ a σ' τ' o) 907 (lvB b a t) []) : aW p l e room_1 s m args below meth c Q D A (cells) (slots) 59 a (lw cI cZ cR cJ a σ τ o) 893 (lvB b a t) [] := by
  refine aw_aload_n C dL_law_893 Lk1 ?_
  refine aw_lc (As := []) C dL_law_894 gL_law_X3_digest sX3_digest (rm := rmX3_digest) (aChk_mk rfl (by omega) (by omega)) hC ?_
  refine aw_aload_n C dL_law_897 Lk2 ?_
  refine aw_lm (As := []) C dL_law_898 gL_law_X4_digest sX4_digest (rm := rmX4_digest) (aChk_mk rfl (by omega) (by omega)) hM ?_
  refine aw_lcmp9 C dL_law_901 ?_
  refine aw_if_eq C dL_law_902 (tgt := 907) (by decide) (fun c7 => ?_) (fun c7 => absurd lg_cmp_self c7)
  exact aW_wk (aw_widen (by omega) (by omega) next) (by repeat' (first | exact Wk.n | apply Wk.k | apply Wk.d))
end LAWO
