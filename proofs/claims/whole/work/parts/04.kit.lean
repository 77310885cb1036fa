def nw_M : List (String × Nat × MethodName × String) := [(xc_X, 9, xy_Te_init, xc_X), (xc_Ed, 11, xy_Li_init, xc_X), (xc_Li, 11, xy_Pa_init, xc_X), (xc_X, 37, xy_Hi_init, xc_X), (xc_X, 44, xy_Re_init, xc_X), (xc_Te, 34, xy_X_cellOf, xc_X), (xc_Li, 61, xy_X_isObject, xc_X), (xc_Li, 68, xy_X_kindOf, xc_X), (xc_Li, 71, xy_X_contentOf, xc_X), (xc_St, 27, xy_X_isObject, xc_X), (xc_St, 31, xy_X_isKey, xc_X), (xc_Ed, 139, xy_X_kindOf, xc_X), (xc_Ed, 142, xy_X_contentOf, xc_X), (xc_Re, 19, xy_X_isObject, xc_X), (xc_Re, 41, xy_X_kindOf, xc_X), (xc_Re, 45, xy_X_contentOf, xc_X), (xc_St, 38, xy_X_cellOf, xc_X)]
def nw_F : List (String × Nat × String × String × String × String) := [(xc_Ed, 53, "EditLists2$Line", "verb", "I", xc_X), (xc_Ed, 77, "EditLists2$Line", "number", "I", xc_X), (xc_Ed, 99, "EditLists2$Line", "from", "LEditLists2$Path;", xc_X), (xc_Ed, 123, "EditLists2$Line", "to", "LEditLists2$Path;", xc_X), (xc_Ed, 126, "EditLists2$Line", "wanted", "I", xc_X), (xc_Ed, 112, "EditLists2$Line", "given", "I", xc_X)]
def nw_N (U : State) : Prop := (∀ q ∈ nw_M, va_Nw (.methodLinkNest q.1 q.2.1 q.2.2.1 q.2.2.2) U) ∧ ∀ q ∈ nw_F, va_Nw (.fieldLinkNest q.1 q.2.1 q.2.2.1 q.2.2.2.1 q.2.2.2.2.1 q.2.2.2.2.2) U
theorem nw_warm {s U : State} (hW : s.WarmedH U.vm) (h : nw_N s) : nw_N U := ⟨fun q hq => va_Nw.warmM hW (h.1 q hq), fun q hq => va_Nw.warmF hW (h.2 q hq)⟩
theorem nw_same {s U : State} (e : s.vm = U.vm) (h : nw_N s) : nw_N U := ⟨fun q hq => va_Nw.same rfl e (h.1 q hq), fun q hq => va_Nw.same rfl e (h.2 q hq)⟩
theorem nw_m {U : State} (h : nw_N U) (i : Nat) {a : String} {n : Nat} {y : MethodName} {b : String} (e : nw_M[i]? = some (a, n, y, b)) : va_Nw (.methodLinkNest a n y b) U := h.1 (a, n, y, b) (List.mem_of_getElem? e)
theorem nw_f {U : State} (h : nw_N U) (i : Nat) {a : String} {n : Nat} {b f d c : String} (e : nw_F[i]? = some (a, n, b, f, d, c)) {A : Array Value} : (Cond.fieldLinkNest a n b f d c).before A U = true := va_Nw.use rfl (h.2 (a, n, b, f, d, c) (List.mem_of_getElem? e))
abbrev ty_A (cA : Nat → ClassId) : List (ClassId × FieldType) := [(cA 0, .int), (cA 1, .char), (cA 2, .boolean), (cA 3, .object "EditLists2$Store"), (cA 4, .long)]
def wk_K (G : va_G) (cA : Nat → ClassId) (U : State) : Prop := va_K G xk_cl (ty_A cA) U ∧ nw_N U
theorem wk_warm {G : va_G} {cA : Nat → ClassId} {s U : State} (hW : s.WarmedH U.vm) (h : wk_K G cA s) : wk_K G cA U := ⟨va_K.moved hW.alike h.1, nw_warm hW h.2⟩
theorem wk_call {G : va_G} {cA : Nat → ClassId} {U : State} {g : JFrame} {mk : MethodId} {a : Array Value} (h : wk_K G cA U) : wk_K G cA (U.calling g mk a) := ⟨va_K.moved (u := U) (U := U.calling g mk a) (Vm.Alike.refl U.vm) h.1, nw_same rfl h.2⟩
abbrev pc_r (G : va_G) (cA : Nat → ClassId) (ws : va_W) (av : List Value) : Array Value → State → Prop := va_Pc av (fun U => wk_K G cA U ∧ va_P G xk_cl ws U.heap)
abbrev pc_w (G : va_G) (cA : Nat → ClassId) (ws : va_W) (sz : Nat) (av : List Value) : Array Value → State → Prop := va_Pc av (fun U => U.heap.size = sz ∧ wk_K G cA U ∧ va_P G xk_cl ws U.heap ∧ va_D (fun _ => True) ws)
abbrev at_w (G : va_G) (A : Nat → Prop) (ws : va_W) (t : State) : Prop := va_P G xk_cl ws t.heap ∧ va_D A ws
theorem fb_r {G : va_G} {cA : Nat → ClassId} {ws : va_W} {av : List Value} : FrameBlind (pc_r G cA ws av) := fun _ _ _ _ q => ⟨q.1, wk_call q.2.1, q.2.2⟩
theorem fb_w {G : va_G} {cA : Nat → ClassId} {ws : va_W} {sz : Nat} {av : List Value} : FrameBlind (pc_w G cA ws sz av) := fun _ _ _ _ q => ⟨q.1, q.2.1, wk_call q.2.2.1, q.2.2.2⟩
theorem ps_r {G : va_G} {cA : Nat → ClassId} {ws : va_W} {As : List Value} {s : State} {H : Heap} (hW : wk_K G cA s) (hP : va_P G xk_cl ws H) : PreS s H (pc_r G cA ws As) As := ⟨fb_r, fun _ hU h => ⟨rfl, wk_warm h hW, by rw [hU]; exact hP⟩⟩
theorem ps_w {G : va_G} {cA : Nat → ClassId} {ws : va_W} {As : List Value} {s : State} {H : Heap} {A : Nat → Prop} (hW : wk_K G cA s) (hP : va_P G xk_cl ws H) (hD : va_D A ws) : PreS s H (pc_w G cA ws H.size As) As := ⟨fb_w, fun _ hU h => ⟨rfl, by rw [hU], wk_warm h hW, by rw [hU]; exact hP, hD.weaken (fun _ _ _ _ => trivial)⟩⟩
theorem pv_r {G : va_G} {cA : Nat → ClassId} {ws : va_W} {As : List Value} {s : State} {H : Heap} {b ci q0 : Nat} {q : vw_C} {fs : List Value} (hW : wk_K G cA s) (hP : va_P G xk_cl ws H) (hc : xk_cl[ci]? = some q) (he : ws[q0]? = some (b, .inr (ci, fs))) : PreV s H q.1 b (pc_r G cA ws (.ref b :: As)) As := ⟨fb_r, va_recv hW.1 hP hc he, (ps_r hW hP).2⟩
theorem pv_w {G : va_G} {cA : Nat → ClassId} {ws : va_W} {As : List Value} {s : State} {H : Heap} {A : Nat → Prop} {b ci q0 : Nat} {q : vw_C} {fs : List Value} (hW : wk_K G cA s) (hP : va_P G xk_cl ws H) (hD : va_D A ws) (hc : xk_cl[ci]? = some q) (he : ws[q0]? = some (b, .inr (ci, fs))) : PreV s H q.1 b (pc_w G cA ws H.size (.ref b :: As)) As := ⟨fb_w, va_recv hW.1 hP hc he, (ps_w hW hP hD).2⟩
theorem gi_v {own C : String} {i : Nat} {y : MethodName} {c : Cond} (h1 : .methodLink own i y ∈ tw_W) (h2 : .instanceMethod y ∈ tw_W) (h3 : .selects C y y ∈ tw_W) (h4 : .initialized C ∈ tw_W) (h5 : c ∈ tw_W) : GoodIn tw_W (wsV own i C y (c :: tw_W)) := tw_gs (fun w hw => by
  simp only [List.mem_cons, List.not_mem_nil, or_false] at hw
  rcases hw with rfl | rfl | rfl | rfl
  · exact h1
  · exact h2
  · exact h3
  · exact h4) (tw_g h5)
theorem gi_s {own : String} {i : Nat} {y : MethodName} {c : Cond} (h1 : .methodLink own i y ∈ tw_W) (h2 : .static y ∈ tw_W) (h4 : .initialized own ∈ tw_W) (h5 : c ∈ tw_W) : GoodIn tw_W (wsS own i y (c :: tw_W)) := tw_gs (fun w hw => by
  simp only [List.mem_cons, List.not_mem_nil, or_false] at hw
  rcases hw with rfl | rfl | rfl
  · exact h1
  · exact h2
  · exact h4) (tw_g h5)
section LX
variable {p : Program} {l : Launch} {e : Env} {R : Room} {s : State} {m : MethodId} {args : Array Value} {below : List Frame} {meth : Method} {c : Code} {H : Heap} {locs : List Loc} {cells slots : Nat} {Q : State → Prop}
variable {cc : ByteArray} {pc : Nat} {ls : Array Slot} {rest : List Value}
theorem lx_iadd (hx : p.tables.exec = Jvm.exec) (hb : c.code = cc) {x y z : Int32} (hdg : decode cc pc = .ok (.iadd, 1)) (hz : x + y = z) (k : W p l e R s m args below meth c H locs cells slots Q (F0 m (pc + 1) ls (.int z :: rest))) : W p l e R s m args below meth c H locs cells slots Q (F0 m pc ls (.int y :: .int x :: rest)) := lv_iadd hx hb hdg (hz ▸ k)
theorem lx_isub (hx : p.tables.exec = Jvm.exec) (hb : c.code = cc) {x y z : Int32} (hdg : decode cc pc = .ok (.isub, 1)) (hz : x - y = z) (k : W p l e R s m args below meth c H locs cells slots Q (F0 m (pc + 1) ls (.int z :: rest))) : W p l e R s m args below meth c H locs cells slots Q (F0 m pc ls (.int y :: .int x :: rest)) := lv_isub hx hb hdg (hz ▸ k)
theorem lx_imul (hx : p.tables.exec = Jvm.exec) (hb : c.code = cc) {x y z : Int32} (hdg : decode cc pc = .ok (.imul, 1)) (hz : x * y = z) (k : W p l e R s m args below meth c H locs cells slots Q (F0 m (pc + 1) ls (.int z :: rest))) : W p l e R s m args below meth c H locs cells slots Q (F0 m pc ls (.int y :: .int x :: rest)) := lv_imul hx hb hdg (hz ▸ k)
theorem lx_iand (hx : p.tables.exec = Jvm.exec) (hb : c.code = cc) {x y z : Int32} (hdg : decode cc pc = .ok (.iand, 1)) (hz : x &&& y = z) (k : W p l e R s m args below meth c H locs cells slots Q (F0 m (pc + 1) ls (.int z :: rest))) : W p l e R s m args below meth c H locs cells slots Q (F0 m pc ls (.int y :: .int x :: rest)) := lv_iand hx hb hdg (hz ▸ k)
theorem lx_ior (hx : p.tables.exec = Jvm.exec) (hb : c.code = cc) {x y z : Int32} (hdg : decode cc pc = .ok (.ior, 1)) (hz : x ||| y = z) (k : W p l e R s m args below meth c H locs cells slots Q (F0 m (pc + 1) ls (.int z :: rest))) : W p l e R s m args below meth c H locs cells slots Q (F0 m pc ls (.int y :: .int x :: rest)) := lv_ior hx hb hdg (hz ▸ k)
theorem lx_ishl (hx : p.tables.exec = Jvm.exec) (hb : c.code = cc) {x y z : Int32} (hdg : decode cc pc = .ok (.ishl, 1)) (hz : x <<< (y &&& 31) = z) (k : W p l e R s m args below meth c H locs cells slots Q (F0 m (pc + 1) ls (.int z :: rest))) : W p l e R s m args below meth c H locs cells slots Q (F0 m pc ls (.int y :: .int x :: rest)) := lv_ishl hx hb hdg (hz ▸ k)
theorem lx_ishr (hx : p.tables.exec = Jvm.exec) (hb : c.code = cc) {x y z : Int32} (hdg : decode cc pc = .ok (.ishr, 1)) (hz : x >>> (y &&& 31) = z) (k : W p l e R s m args below meth c H locs cells slots Q (F0 m (pc + 1) ls (.int z :: rest))) : W p l e R s m args below meth c H locs cells slots Q (F0 m pc ls (.int y :: .int x :: rest)) := lv_ishr hx hb hdg (hz ▸ k)
theorem lx_idiv (hx : p.tables.exec = Jvm.exec) (hb : c.code = cc) {x y z : Int32} (hdg : decode cc pc = .ok (.idiv, 1)) (hne : ¬ y = 0) (hz : x / y = z) (k : W p l e R s m args below meth c H locs cells slots Q (F0 m (pc + 1) ls (.int z :: rest))) : W p l e R s m args below meth c H locs cells slots Q (F0 m pc ls (.int y :: .int x :: rest)) := lv_idiv hx hb hdg hne (hz ▸ k)
theorem lx_irem (hx : p.tables.exec = Jvm.exec) (hb : c.code = cc) {x y z : Int32} (hdg : decode cc pc = .ok (.irem, 1)) (hne : ¬ y = 0) (hz : x - x / y * y = z) (k : W p l e R s m args below meth c H locs cells slots Q (F0 m (pc + 1) ls (.int z :: rest))) : W p l e R s m args below meth c H locs cells slots Q (F0 m pc ls (.int y :: .int x :: rest)) := lv_irem hx hb hdg hne (hz ▸ k)
theorem lx_ineg (hx : p.tables.exec = Jvm.exec) (hb : c.code = cc) {x z : Int32} (hdg : decode cc pc = .ok (.ineg, 1)) (hz : -x = z) (k : W p l e R s m args below meth c H locs cells slots Q (F0 m (pc + 1) ls (.int z :: rest))) : W p l e R s m args below meth c H locs cells slots Q (F0 m pc ls (.int x :: rest)) := lv_ineg hx hb hdg (hz ▸ k)
theorem lx_top {x z : Int32} (hz : x = z) (k : W p l e R s m args below meth c H locs cells slots Q (F0 m pc ls (.int z :: rest))) : W p l e R s m args below meth c H locs cells slots Q (F0 m pc ls (.int x :: rest)) := hz ▸ k
theorem lx_topv {x z : Value} (hz : x = z) (k : W p l e R s m args below meth c H locs cells slots Q (F0 m pc ls (z :: rest))) : W p l e R s m args below meth c H locs cells slots Q (F0 m pc ls (x :: rest)) := hz ▸ k
end LX
theorem nI_in0 {n : Nat} (h : n < 2 ^ 31) : ¬ nI n < 0 := nI_pos h
theorem nI_cl {n : Nat} (h : n < 2 ^ 31) : (nI n).toNatClampNeg = n := nI_clamp h
