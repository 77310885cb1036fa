def vp_Sv : Array Value → State → Outcome → State → Prop := fun _ st o t => o = .returned none ∧ t.heap = st.heap
section
variable {p : Program} {l : Launch} {e : Env} {R : Room} {s : State} {m : MethodId} {args : Array Value} {below : List Frame} {meth : Method} {c : Code} {H : Heap} {locs : List Loc} {cells slots : Nat} {Q : State → Prop} {pc : Nat} {ls : Array Slot} {rest : List Value}
theorem vp_callSv {a : Array Value} {st0 : List Value} (hr : CallRun p l e R s m args below meth c H locs cells slots 0 0 (F0 m pc ls st0) rest (vp_Sv a) (fun _ => False))
    (kk : W p l e R s m args below meth c H locs cells slots Q (F0 m (pc + 3) ls rest)) : W p l e R s m args below meth c H locs cells slots Q (F0 m pc ls st0) := by
  intro T hT X
  obtain ⟨v, st₀, t, T', L, h0, X', hL, e1, ⟨hv, hh⟩, st⟩ := hr T hT X
  cases hv
  obtain ⟨t2, a1, b1⟩ := kk T' (by rw [e1, hh, h0]) (Stand.forget X' (fun q h => (hL q h).elim))
  exact ⟨t2, st t2 a1, b1⟩
end
abbrev pc_t (G : va_G) (cA : Nat → ClassId) (ws : va_W) (av : List Value) : Array Value → State → Prop := va_Pc av (fun U => wk_K G cA U ∧ va_P G xk_cl ws U.heap ∧ th_S U)
abbrev pc_u (G : va_G) (cA : Nat → ClassId) (ws : va_W) (sz : Nat) (av : List Value) : Array Value → State → Prop := va_Pc av (fun U => U.heap.size = sz ∧ wk_K G cA U ∧ va_P G xk_cl ws U.heap ∧ va_D (fun _ => True) ws ∧ th_S U)
theorem fb_t {G : va_G} {cA : Nat → ClassId} {ws : va_W} {av : List Value} : FrameBlind (pc_t G cA ws av) := fun _ _ _ _ q => ⟨q.1, wk_call q.2.1, q.2.2.1, th_call q.2.2.2⟩
theorem fb_u {G : va_G} {cA : Nat → ClassId} {ws : va_W} {sz : Nat} {av : List Value} : FrameBlind (pc_u G cA ws sz av) := fun _ _ _ _ q => ⟨q.1, q.2.1, wk_call q.2.2.1, q.2.2.2.1, q.2.2.2.2.1, th_call q.2.2.2.2.2⟩
theorem ps_t {G : va_G} {cA : Nat → ClassId} {ws : va_W} {As : List Value} {s : State} (hW : wk_K G cA s) (hP : va_P G xk_cl ws s.heap) (hT : th_S s) : PreS s s.heap (pc_t G cA ws As) As := ⟨fb_t, fun _ hU h => ⟨rfl, wk_warm h hW, by rw [hU]; exact hP, th_move h (fun q _ => by rw [hU]) hT⟩⟩
theorem pv_t {G : va_G} {cA : Nat → ClassId} {ws : va_W} {As : List Value} {s : State} {b ci q0 : Nat} {q : vw_C} {fs : List Value} (hW : wk_K G cA s) (hP : va_P G xk_cl ws s.heap) (hT : th_S s) (hc : xk_cl[ci]? = some q) (he : ws[q0]? = some (b, .inr (ci, fs))) : PreV s s.heap q.1 b (pc_t G cA ws (.ref b :: As)) As := ⟨fb_t, va_recv hW.1 hP hc he, (ps_t hW hP hT).2⟩
theorem pg_P {G : va_G} {cl : List vw_C} {ws : va_W} {H H1 : Heap} (h : va_P G cl ws H) (hq : ∀ q : Nat, q < H.size → H1[q]? = H[q]?) : va_P G cl ws H1 := h.kept (fun k q hk => hq q.1 (h k q hk).lt)
theorem cw_tab {p : Program} {l : Launch} {x : MethodName} {S : Spec} {code : ByteArray} {maxL : Nat} {ret : Option FieldType} {e : Env} {s : State} {m : MethodId} {args : Array Value} {below : List Frame} {meth : Method} {c : Code} {s₁ : State} (B : BodyLoose p l x S code maxL ret e s m args below meth c s₁) {a1 a2 a3 a4 : Nat}
    (hc : (Cond.codeWith x code maxL ret [(a1, a2, a3, a4)]).before args s = true) : c.exceptionTable.toList = [({ startPc := a1, endPc := a2, handlerPc := a3, catchType := a4 } : ExceptionTableEntry)] := by
  obtain ⟨m9, meth', c', hn', hm', hc', -, -, htab, -⟩ := Cond.codeWith_spec hc
  cases B.named.symm.trans hn'
  cases B.method.symm.trans hm'
  cases (Stand.of_body B).code.symm.trans hc'
  generalize c.exceptionTable.toList = L at htab
  cases L with
  | nil => cases htab
  | cons h t =>
    cases t with
    | nil =>
      simp only [List.map_cons, List.map_nil, List.cons.injEq, Prod.mk.injEq, and_true] at htab
      obtain ⟨rfl, rfl, rfl, rfl⟩ := htab
      rfl
    | cons h2 t2 => cases htab
theorem nn_of {x : Int32} {b : Nat} (h1 : ¬ x < 0) (h2 : ¬ nI b ≤ x) (hb : b < 2147483648) : ∃ n, n < b ∧ x = nI n := by
  obtain ⟨j, hj, rfl⟩ := nI_of h1
  exact ⟨j, nI_gnl hb hj h2, rfl⟩
theorem so_T {x : Int32} (h : ¬ sp_ob x = 0) : ∃ n, n < 40 ∧ x = nI n := by
  unfold sp_ob at h
  split at h
  · exact absurd rfl h
  · split at h
    · exact absurd rfl h
    · rename_i h1 h2
      exact nn_of h1 h2 (by decide)
theorem sk_T {x : Int32} (h : ¬ sp_ky x = 0) : ∃ n, n < 26 ∧ x = nI n := by
  unfold sp_ky at h
  split at h
  · exact absurd rfl h
  · split at h
    · exact absurd rfl h
    · rename_i h1 h2
      exact nn_of h1 h2 (by decide)
set_option maxHeartbeats 4000000 in
set_option maxRecDepth 100000 in
theorem ct_X_requireObject (l : Launch) (G : va_G) (cA : Nat → ClassId) (x0 : Int32) (hx0 : ¬ sp_ob x0 = 0) : Met l xy_X_requireObject (.code xy_X_requireObject xb_X_requireObject 1 none :: tw_W) ({ frames := 1, cells := 0, slots := 0, locals := 20 }) (pc_r G cA [] [.int x0]) vp_Sv 0 0 (fun _ => False) := by
  refine Met.ofW (cc := xb_X_requireObject) (maxL := 1) (ret := none) (by decide) rfl ?_
  intro p e s m args below meth c s₁ B hml hv
  obtain ⟨rfl, hK, hP⟩ := hv
  have hx := B.exec
  have hb := B.bytes
  have hr := B.returns
  have hts0 := atoms_spec (ws := .code xy_X_requireObject xb_X_requireObject 1 none :: tw_W) B.pre
  have hts : ∀ w9 ∈ tw_W, w9.before [.int x0].toArray s = true := fun w9 h9 => hts0 w9 (List.mem_cons_of_mem _ h9)
  have hown : s.vm.findClass xc_X = some m.cls := findClass_of_methodNamed B.named
  have hlocks := B.notSynchronized
  have hP : va_P G xk_cl [] s.heap := hP
  have hl := lv_entry ([.int x0]) (n := 1) (Nat.le_of_ble_eq_true rfl)
  rw [lg_entry_eq]
  generalize (lg_sl ([.int x0]) ++ List.replicate (1 - (lg_sl ([.int x0])).length) Slot.unset).toArray = ls at hl ⊢
  have hl : lv_has ls 1 [(0, .int x0)] := hl
  refine lv_iload_n hx hb xd_X_requireObject_0 rfl (lv_at hl 0 rfl) ?_
  have hPc := hP
  refine vp_callSi (va_Run.run (va_runS (As := [.int x0]) (rest := []) ⟨hx, hb, hml, hown, hts⟩ (ct_X_isObject l G cA x0) (cwS 1 hts (gi_s xm_575 xm_275 xm_1 xm_276) rfl rfl rfl ⟨rfl, xh_X_isObject⟩ ⟨Nat.le_of_ble_eq_true rfl, Nat.le_of_ble_eq_true rfl⟩) (ps_r hK hPc) rfl rfl hl.1 rfl (lv_room (Nat.le_of_ble_eq_true rfl)) xd_X_requireObject_1 ⟨Nat.le_of_ble_eq_true rfl, Nat.le_of_ble_eq_true rfl⟩)) (fun r_1 q_2 => ?_)
  refine lx_top (z := sp_ob x0) (q_2) ?_
  refine lv_if_ne (tgt := 17) hx hb xd_X_requireObject_4 (by decide) (fun c_4_2 => ?_) (fun c_4_2 => absurd c_4_2 (hx0))
  exact W.vret hx hb hr (fun T9 ht _ => ⟨rfl, ht⟩) (fun _ h => absurd h List.not_mem_nil) xd_X_requireObject_17
set_option maxHeartbeats 4000000 in
set_option maxRecDepth 100000 in
theorem ctT_X_requireObject (l : Launch) (G : va_G) (cA : Nat → ClassId) (hfl : l.flags = flags0) (x0 : Int32) (hx0 : sp_ob x0 = 0) : MetT l xy_X_requireObject (.code xy_X_requireObject xb_X_requireObject 1 none :: tw_W) ({ frames := 6, cells := 1, slots := 6, locals := 82 }) (pc_t G cA [] [.int x0]) th_X 1 6 := by
  refine MetT.ofW (cc := xb_X_requireObject) (maxL := 1) (ret := none) (by decide) rfl ?_
  intro p e s m args below meth c s₁ B hml hv
  obtain ⟨rfl, hK, hP, hT⟩ := hv
  have hx := B.exec
  have hb := B.bytes
  have hr := B.returns
  have hts0 := atoms_spec (ws := .code xy_X_requireObject xb_X_requireObject 1 none :: tw_W) B.pre
  have hts : ∀ w9 ∈ tw_W, w9.before [.int x0].toArray s = true := fun w9 h9 => hts0 w9 (List.mem_cons_of_mem _ h9)
  have hown : s.vm.findClass xc_X = some m.cls := findClass_of_methodNamed B.named
  have hlocks := B.notSynchronized
  have hemp := B.noHandlers (hts0 _ List.mem_cons_self)
  have hP : va_P G xk_cl [] s.heap := hP
  have hl := lv_entry ([.int x0]) (n := 1) (Nat.le_of_ble_eq_true rfl)
  rw [lg_entry_eq]
  generalize (lg_sl ([.int x0]) ++ List.replicate (1 - (lg_sl ([.int x0])).length) Slot.unset).toArray = ls at hl ⊢
  have hl : lv_has ls 1 [(0, .int x0)] := hl
  refine lv_iload_n hx hb xd_X_requireObject_0 rfl (lv_at hl 0 rfl) ?_
  have hPc := hP
  refine vp_callSi (va_Run.run (va_runS (As := [.int x0]) (rest := []) ⟨hx, hb, hml, hown, hts⟩ (ct_X_isObject l G cA x0) (cwS 1 hts (gi_s xm_575 xm_275 xm_1 xm_276) rfl rfl rfl ⟨rfl, xh_X_isObject⟩ ⟨Nat.le_of_ble_eq_true rfl, Nat.le_of_ble_eq_true rfl⟩) (ps_r hK hPc) rfl rfl hl.1 rfl (lv_room (Nat.le_of_ble_eq_true rfl)) xd_X_requireObject_1 ⟨Nat.le_of_ble_eq_true rfl, Nat.le_of_ble_eq_true rfl⟩)) (fun r_1 q_2 => ?_)
  refine lx_top (z := sp_ob x0) (q_2) ?_
  refine lv_if_ne (tgt := 17) hx hb xd_X_requireObject_4 (by decide) (fun c_4_2 => absurd (hx0) c_4_2) (fun c_4_2 => ?_)
  obtain ⟨qz_, hZ_⟩ := hT.2.2.2.1
  exact wt_site hx hb hfl hown hts hT hemp hlocks (hl.1.trans hml.symm) hZ_ xd_X_requireObject_7 xd_X_requireObject_10 xd_X_requireObject_11 xd_X_requireObject_13 xd_X_requireObject_16 ⟨Nat.le_of_ble_eq_true rfl, Nat.le_of_ble_eq_true rfl, Nat.le_of_ble_eq_true rfl, Nat.le_of_ble_eq_true rfl⟩
set_option maxHeartbeats 4000000 in
set_option maxRecDepth 100000 in
theorem ct_X_requireKey (l : Launch) (G : va_G) (cA : Nat → ClassId) (x0 : Int32) (hx0 : ¬ sp_ky x0 = 0) : Met l xy_X_requireKey (.code xy_X_requireKey xb_X_requireKey 1 none :: tw_W) ({ frames := 1, cells := 0, slots := 0, locals := 20 }) (pc_r G cA [] [.int x0]) vp_Sv 0 0 (fun _ => False) := by
  refine Met.ofW (cc := xb_X_requireKey) (maxL := 1) (ret := none) (by decide) rfl ?_
  intro p e s m args below meth c s₁ B hml hv
  obtain ⟨rfl, hK, hP⟩ := hv
  have hx := B.exec
  have hb := B.bytes
  have hr := B.returns
  have hts0 := atoms_spec (ws := .code xy_X_requireKey xb_X_requireKey 1 none :: tw_W) B.pre
  have hts : ∀ w9 ∈ tw_W, w9.before [.int x0].toArray s = true := fun w9 h9 => hts0 w9 (List.mem_cons_of_mem _ h9)
  have hown : s.vm.findClass xc_X = some m.cls := findClass_of_methodNamed B.named
  have hlocks := B.notSynchronized
  have hP : va_P G xk_cl [] s.heap := hP
  have hl := lv_entry ([.int x0]) (n := 1) (Nat.le_of_ble_eq_true rfl)
  rw [lg_entry_eq]
  generalize (lg_sl ([.int x0]) ++ List.replicate (1 - (lg_sl ([.int x0])).length) Slot.unset).toArray = ls at hl ⊢
  have hl : lv_has ls 1 [(0, .int x0)] := hl
  refine lv_iload_n hx hb xd_X_requireKey_0 rfl (lv_at hl 0 rfl) ?_
  have hPc := hP
  refine vp_callSi (va_Run.run (va_runS (As := [.int x0]) (rest := []) ⟨hx, hb, hml, hown, hts⟩ (ct_X_isKey l G cA x0) (cwS 1 hts (gi_s xm_587 xm_320 xm_1 xm_321) rfl rfl rfl ⟨rfl, xh_X_isKey⟩ ⟨Nat.le_of_ble_eq_true rfl, Nat.le_of_ble_eq_true rfl⟩) (ps_r hK hPc) rfl rfl hl.1 rfl (lv_room (Nat.le_of_ble_eq_true rfl)) xd_X_requireKey_1 ⟨Nat.le_of_ble_eq_true rfl, Nat.le_of_ble_eq_true rfl⟩)) (fun r_1 q_2 => ?_)
  refine lx_top (z := sp_ky x0) (q_2) ?_
  refine lv_if_ne (tgt := 17) hx hb xd_X_requireKey_4 (by decide) (fun c_4_2 => ?_) (fun c_4_2 => absurd c_4_2 (hx0))
  exact W.vret hx hb hr (fun T9 ht _ => ⟨rfl, ht⟩) (fun _ h => absurd h List.not_mem_nil) xd_X_requireKey_17
set_option maxHeartbeats 4000000 in
set_option maxRecDepth 100000 in
theorem ctT_X_requireKey (l : Launch) (G : va_G) (cA : Nat → ClassId) (hfl : l.flags = flags0) (x0 : Int32) (hx0 : sp_ky x0 = 0) : MetT l xy_X_requireKey (.code xy_X_requireKey xb_X_requireKey 1 none :: tw_W) ({ frames := 6, cells := 1, slots := 6, locals := 82 }) (pc_t G cA [] [.int x0]) th_X 1 6 := by
  refine MetT.ofW (cc := xb_X_requireKey) (maxL := 1) (ret := none) (by decide) rfl ?_
  intro p e s m args below meth c s₁ B hml hv
  obtain ⟨rfl, hK, hP, hT⟩ := hv
  have hx := B.exec
  have hb := B.bytes
  have hr := B.returns
  have hts0 := atoms_spec (ws := .code xy_X_requireKey xb_X_requireKey 1 none :: tw_W) B.pre
  have hts : ∀ w9 ∈ tw_W, w9.before [.int x0].toArray s = true := fun w9 h9 => hts0 w9 (List.mem_cons_of_mem _ h9)
  have hown : s.vm.findClass xc_X = some m.cls := findClass_of_methodNamed B.named
  have hlocks := B.notSynchronized
  have hemp := B.noHandlers (hts0 _ List.mem_cons_self)
  have hP : va_P G xk_cl [] s.heap := hP
  have hl := lv_entry ([.int x0]) (n := 1) (Nat.le_of_ble_eq_true rfl)
  rw [lg_entry_eq]
  generalize (lg_sl ([.int x0]) ++ List.replicate (1 - (lg_sl ([.int x0])).length) Slot.unset).toArray = ls at hl ⊢
  have hl : lv_has ls 1 [(0, .int x0)] := hl
  refine lv_iload_n hx hb xd_X_requireKey_0 rfl (lv_at hl 0 rfl) ?_
  have hPc := hP
  refine vp_callSi (va_Run.run (va_runS (As := [.int x0]) (rest := []) ⟨hx, hb, hml, hown, hts⟩ (ct_X_isKey l G cA x0) (cwS 1 hts (gi_s xm_587 xm_320 xm_1 xm_321) rfl rfl rfl ⟨rfl, xh_X_isKey⟩ ⟨Nat.le_of_ble_eq_true rfl, Nat.le_of_ble_eq_true rfl⟩) (ps_r hK hPc) rfl rfl hl.1 rfl (lv_room (Nat.le_of_ble_eq_true rfl)) xd_X_requireKey_1 ⟨Nat.le_of_ble_eq_true rfl, Nat.le_of_ble_eq_true rfl⟩)) (fun r_1 q_2 => ?_)
  refine lx_top (z := sp_ky x0) (q_2) ?_
  refine lv_if_ne (tgt := 17) hx hb xd_X_requireKey_4 (by decide) (fun c_4_2 => absurd (hx0) c_4_2) (fun c_4_2 => ?_)
  obtain ⟨qz_, hZ_⟩ := hT.2.2.2.2.1
  exact wt_site hx hb hfl hown hts hT hemp hlocks (hl.1.trans hml.symm) hZ_ xd_X_requireKey_7 xd_X_requireKey_10 xd_X_requireKey_11 xd_X_requireKey_13 xd_X_requireKey_16 ⟨Nat.le_of_ble_eq_true rfl, Nat.le_of_ble_eq_true rfl, Nat.le_of_ble_eq_true rfl, Nat.le_of_ble_eq_true rfl⟩
