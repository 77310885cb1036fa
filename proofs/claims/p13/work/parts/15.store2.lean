set_option maxHeartbeats 4000000 in
set_option maxRecDepth 100000 in
theorem ct_St_copyFrom (l : Launch) (G : va_G) (cA : Nat → ClassId) (sz : Nat) (o : Nat) (a1 : Nat) (a2 : Nat) (a3 : Nat) (y : Nat) (a1y : Nat) (a2y : Nat) (a3y : Nat) (st : Nat → Int32) (ce : Nat → Int32) (sty : Nat → Int32) (cey : Nat → Int32) : Met l xy_St_copyFrom (.code xy_St_copyFrom xb_St_copyFrom 2 none :: tw_W) ({ frames := 1, cells := 0, slots := 0, locals := 40 }) (pc_w G cA [(o, .inr (2, [.ref a1, .ref a2, .ref a3])), (a1, .inl (cA 0, 40, .inl st)), (a2, .inl (cA 0, 40, .inl (sp_kc ce))), (a3, .inl (cA 0, 1040, .inl ce)), (y, .inr (2, [.ref a1y, .ref a2y, .ref a3y])), (a1y, .inl (cA 0, 40, .inl sty)), (a2y, .inl (cA 0, 40, .inl (sp_kc cey))), (a3y, .inl (cA 0, 1040, .inl cey))] sz [.ref o, .ref y]) (va_Qv (fun _ : Unit => True) (fun _ T9 => at_w G (va_A [(o, .inr (2, [.ref a1, .ref a2, .ref a3])), (a1, .inl (cA 0, 40, .inl st)), (a2, .inl (cA 0, 40, .inl (sp_kc ce))), (a3, .inl (cA 0, 1040, .inl ce)), (y, .inr (2, [.ref a1y, .ref a2y, .ref a3y])), (a1y, .inl (cA 0, 40, .inl sty)), (a2y, .inl (cA 0, 40, .inl (sp_kc cey))), (a3y, .inl (cA 0, 1040, .inl cey))] sz) [(o, .inr (2, [.ref a1, .ref a2, .ref a3])), (a1, .inl (cA 0, 40, .inl sty)), (a2, .inl (cA 0, 40, .inl (sp_kc cey))), (a3, .inl (cA 0, 1040, .inl cey)), (y, .inr (2, [.ref a1y, .ref a2y, .ref a3y])), (a1y, .inl (cA 0, 40, .inl sty)), (a2y, .inl (cA 0, 40, .inl (sp_kc cey))), (a3y, .inl (cA 0, 1040, .inl cey))] T9) (va_A [(o, .inr (2, [.ref a1, .ref a2, .ref a3])), (a1, .inl (cA 0, 40, .inl st)), (a2, .inl (cA 0, 40, .inl (sp_kc ce))), (a3, .inl (cA 0, 1040, .inl ce)), (y, .inr (2, [.ref a1y, .ref a2y, .ref a3y])), (a1y, .inl (cA 0, 40, .inl sty)), (a2y, .inl (cA 0, 40, .inl (sp_kc cey))), (a3y, .inl (cA 0, 1040, .inl cey))] sz)) 0 0 (va_A [(o, .inr (2, [.ref a1, .ref a2, .ref a3])), (a1, .inl (cA 0, 40, .inl st)), (a2, .inl (cA 0, 40, .inl (sp_kc ce))), (a3, .inl (cA 0, 1040, .inl ce)), (y, .inr (2, [.ref a1y, .ref a2y, .ref a3y])), (a1y, .inl (cA 0, 40, .inl sty)), (a2y, .inl (cA 0, 40, .inl (sp_kc cey))), (a3y, .inl (cA 0, 1040, .inl cey))] sz) := by
  refine Met.ofW (cc := xb_St_copyFrom) (maxL := 2) (ret := none) (by decide) rfl ?_
  intro p e s m args below meth c s₁ B hml hv
  obtain ⟨rfl, hsz, hK, hP, hD0⟩ := hv
  have hx := B.exec
  have hb := B.bytes
  have hr := B.returns
  have hts0 := atoms_spec (ws := .code xy_St_copyFrom xb_St_copyFrom 2 none :: tw_W) B.pre
  have hts : ∀ w9 ∈ tw_W, w9.before [.ref o, .ref y].toArray s = true := fun w9 h9 => hts0 w9 (List.mem_cons_of_mem _ h9)
  have hown : s.vm.findClass xc_St = some m.cls := findClass_of_methodNamed B.named
  have hlocks := B.notSynchronized
  subst hsz
  have hD := hD0.self (sz := s.heap.size)
  generalize hAe : va_A [(o, .inr (2, [.ref a1, .ref a2, .ref a3])), (a1, .inl (cA 0, 40, .inl st)), (a2, .inl (cA 0, 40, .inl (sp_kc ce))), (a3, .inl (cA 0, 1040, .inl ce)), (y, .inr (2, [.ref a1y, .ref a2y, .ref a3y])), (a1y, .inl (cA 0, 40, .inl sty)), (a2y, .inl (cA 0, 40, .inl (sp_kc cey))), (a3y, .inl (cA 0, 1040, .inl cey))] s.heap.size = A at hD ⊢
  have hA : ∀ q : Nat, s.heap.size ≤ q → A q := fun q h => by rw [← hAe]; exact Or.inr h
  have hS : va_S A s.heap s.heap [] := va_S.rf
  have hP : va_P G xk_cl [(o, .inr (2, [.ref a1, .ref a2, .ref a3])), (a1, .inl (cA 0, 40, .inl st)), (a2, .inl (cA 0, 40, .inl (sp_kc ce))), (a3, .inl (cA 0, 1040, .inl ce)), (y, .inr (2, [.ref a1y, .ref a2y, .ref a3y])), (a1y, .inl (cA 0, 40, .inl sty)), (a2y, .inl (cA 0, 40, .inl (sp_kc cey))), (a3y, .inl (cA 0, 1040, .inl cey))] s.heap := hP
  have hl := lv_entry ([.ref o, .ref y]) (n := 2) (Nat.le_of_ble_eq_true rfl)
  rw [lg_entry_eq]
  generalize (lg_sl ([.ref o, .ref y]) ++ List.replicate (2 - (lg_sl ([.ref o, .ref y])).length) Slot.unset).toArray = ls at hl ⊢
  have hl : lv_has ls 2 [(0, .ref o), (1, .ref y)] := hl
  refine lv_aload_n hx hb xd_St_copyFrom_0 rfl (lv_at hl 1 rfl) ?_
  refine va_get (D := G) (ci := 2) (v := .ref a1y) (C := xc_St) (T := xf_St) (N := 3) hx hb hts xw_St hown hK.1 hP 4 rfl rfl 0 (by decide) (hts _ xm_47) (fun _ h9 => h9) rfl xd_St_copyFrom_1 ?_
  refine lv_iconst (v := nI 0) hx hb xd_St_copyFrom_4 (by decide) ?_
  refine lv_aload_n hx hb xd_St_copyFrom_5 rfl (lv_at hl 0 rfl) ?_
  refine va_get (D := G) (ci := 2) (v := .ref a1) (C := xc_St) (T := xf_St) (N := 3) hx hb hts xw_St hown hK.1 hP 0 rfl rfl 0 (by decide) (hts _ xm_47) (fun _ h9 => h9) rfl xd_St_copyFrom_6 ?_
  refine lv_iconst (v := nI 0) hx hb xd_St_copyFrom_9 (by decide) ?_
  refine lv_bipush (v := nI 40) hx hb xd_St_copyFrom_10 (by decide) ?_
  refine wx_copy hx hb (hml.trans hl.1.symm) hown (hts _ xm_206) (hts _ xm_208) (hts _ xm_207) (hts _ xm_10) hK.1 hP hD hS 5 1 0 (by decide) rfl rfl rfl (Nat.le_of_ble_eq_true rfl) (by decide) xd_St_copyFrom_12 (fun H locs hP hD hS => ?_)
  have hP : va_P G xk_cl [(o, .inr (2, [.ref a1, .ref a2, .ref a3])), (a1, .inl (cA 0, 40, .inl sty)), (a2, .inl (cA 0, 40, .inl (sp_kc ce))), (a3, .inl (cA 0, 1040, .inl ce)), (y, .inr (2, [.ref a1y, .ref a2y, .ref a3y])), (a1y, .inl (cA 0, 40, .inl sty)), (a2y, .inl (cA 0, 40, .inl (sp_kc cey))), (a3y, .inl (cA 0, 1040, .inl cey))] H := hP
  have hD : va_D A [(o, .inr (2, [.ref a1, .ref a2, .ref a3])), (a1, .inl (cA 0, 40, .inl sty)), (a2, .inl (cA 0, 40, .inl (sp_kc ce))), (a3, .inl (cA 0, 1040, .inl ce)), (y, .inr (2, [.ref a1y, .ref a2y, .ref a3y])), (a1y, .inl (cA 0, 40, .inl sty)), (a2y, .inl (cA 0, 40, .inl (sp_kc cey))), (a3y, .inl (cA 0, 1040, .inl cey))] := hD
  refine lv_aload_n hx hb xd_St_copyFrom_15 rfl (lv_at hl 1 rfl) ?_
  refine va_get (D := G) (ci := 2) (v := .ref a2y) (C := xc_St) (T := xf_St) (N := 3) hx hb hts xw_St hown hK.1 hP 4 rfl rfl 1 (by decide) (hts _ xm_48) (fun _ h9 => h9) rfl xd_St_copyFrom_16 ?_
  refine lv_iconst (v := nI 0) hx hb xd_St_copyFrom_19 (by decide) ?_
  refine lv_aload_n hx hb xd_St_copyFrom_20 rfl (lv_at hl 0 rfl) ?_
  refine va_get (D := G) (ci := 2) (v := .ref a2) (C := xc_St) (T := xf_St) (N := 3) hx hb hts xw_St hown hK.1 hP 0 rfl rfl 1 (by decide) (hts _ xm_48) (fun _ h9 => h9) rfl xd_St_copyFrom_21 ?_
  refine lv_iconst (v := nI 0) hx hb xd_St_copyFrom_24 (by decide) ?_
  refine lv_bipush (v := nI 40) hx hb xd_St_copyFrom_25 (by decide) ?_
  refine wx_copy hx hb (hml.trans hl.1.symm) hown (hts _ xm_206) (hts _ xm_208) (hts _ xm_207) (hts _ xm_10) hK.1 hP hD hS 6 2 0 (by decide) rfl rfl rfl (Nat.le_of_ble_eq_true rfl) (by decide) xd_St_copyFrom_27 (fun H locs hP hD hS => ?_)
  have hP : va_P G xk_cl [(o, .inr (2, [.ref a1, .ref a2, .ref a3])), (a1, .inl (cA 0, 40, .inl sty)), (a2, .inl (cA 0, 40, .inl (sp_kc cey))), (a3, .inl (cA 0, 1040, .inl ce)), (y, .inr (2, [.ref a1y, .ref a2y, .ref a3y])), (a1y, .inl (cA 0, 40, .inl sty)), (a2y, .inl (cA 0, 40, .inl (sp_kc cey))), (a3y, .inl (cA 0, 1040, .inl cey))] H := hP
  have hD : va_D A [(o, .inr (2, [.ref a1, .ref a2, .ref a3])), (a1, .inl (cA 0, 40, .inl sty)), (a2, .inl (cA 0, 40, .inl (sp_kc cey))), (a3, .inl (cA 0, 1040, .inl ce)), (y, .inr (2, [.ref a1y, .ref a2y, .ref a3y])), (a1y, .inl (cA 0, 40, .inl sty)), (a2y, .inl (cA 0, 40, .inl (sp_kc cey))), (a3y, .inl (cA 0, 1040, .inl cey))] := hD
  refine lv_aload_n hx hb xd_St_copyFrom_30 rfl (lv_at hl 1 rfl) ?_
  refine va_get (D := G) (ci := 2) (v := .ref a3y) (C := xc_St) (T := xf_St) (N := 3) hx hb hts xw_St hown hK.1 hP 4 rfl rfl 2 (by decide) (hts _ xm_49) (fun _ h9 => h9) rfl xd_St_copyFrom_31 ?_
  refine lv_iconst (v := nI 0) hx hb xd_St_copyFrom_34 (by decide) ?_
  refine lv_aload_n hx hb xd_St_copyFrom_35 rfl (lv_at hl 0 rfl) ?_
  refine va_get (D := G) (ci := 2) (v := .ref a3) (C := xc_St) (T := xf_St) (N := 3) hx hb hts xw_St hown hK.1 hP 0 rfl rfl 2 (by decide) (hts _ xm_49) (fun _ h9 => h9) rfl xd_St_copyFrom_36 ?_
  refine lv_iconst (v := nI 0) hx hb xd_St_copyFrom_39 (by decide) ?_
  refine lv_sipush (v := nI 1040) hx hb xd_St_copyFrom_40 (by decide) ?_
  refine wx_copy hx hb (hml.trans hl.1.symm) hown (hts _ xm_206) (hts _ xm_208) (hts _ xm_207) (hts _ xm_10) hK.1 hP hD hS 7 3 0 (by decide) rfl rfl rfl (Nat.le_of_ble_eq_true rfl) (by decide) xd_St_copyFrom_43 (fun H locs hP hD hS => ?_)
  have hP : va_P G xk_cl [(o, .inr (2, [.ref a1, .ref a2, .ref a3])), (a1, .inl (cA 0, 40, .inl sty)), (a2, .inl (cA 0, 40, .inl (sp_kc cey))), (a3, .inl (cA 0, 1040, .inl cey)), (y, .inr (2, [.ref a1y, .ref a2y, .ref a3y])), (a1y, .inl (cA 0, 40, .inl sty)), (a2y, .inl (cA 0, 40, .inl (sp_kc cey))), (a3y, .inl (cA 0, 1040, .inl cey))] H := hP
  have hD : va_D A [(o, .inr (2, [.ref a1, .ref a2, .ref a3])), (a1, .inl (cA 0, 40, .inl sty)), (a2, .inl (cA 0, 40, .inl (sp_kc cey))), (a3, .inl (cA 0, 1040, .inl cey)), (y, .inr (2, [.ref a1y, .ref a2y, .ref a3y])), (a1y, .inl (cA 0, 40, .inl sty)), (a2y, .inl (cA 0, 40, .inl (sp_kc cey))), (a3y, .inl (cA 0, 1040, .inl cey))] := hD
  have hP9 : va_P G xk_cl [(o, .inr (2, [.ref a1, .ref a2, .ref a3])), (a1, .inl (cA 0, 40, .inl sty)), (a2, .inl (cA 0, 40, .inl (sp_kc cey))), (a3, .inl (cA 0, 1040, .inl cey)), (y, .inr (2, [.ref a1y, .ref a2y, .ref a3y])), (a1y, .inl (cA 0, 40, .inl sty)), (a2y, .inl (cA 0, 40, .inl (sp_kc cey))), (a3y, .inl (cA 0, 1040, .inl cey))] _ := hP.sub [0, 1, 2, 3, 4, 5, 6, 7] rfl
  have hD9 : va_D A [(o, .inr (2, [.ref a1, .ref a2, .ref a3])), (a1, .inl (cA 0, 40, .inl sty)), (a2, .inl (cA 0, 40, .inl (sp_kc cey))), (a3, .inl (cA 0, 1040, .inl cey)), (y, .inr (2, [.ref a1y, .ref a2y, .ref a3y])), (a1y, .inl (cA 0, 40, .inl sty)), (a2y, .inl (cA 0, 40, .inl (sp_kc cey))), (a3y, .inl (cA 0, 1040, .inl cey))] := hD.sub [0, 1, 2, 3, 4, 5, 6, 7] (by decide) rfl
  exact W.vret hx hb hr (fun T9 ht hW => ⟨⟨(), rfl, trivial, by rw [ht]; exact hP9, hD9⟩, hS.F ht⟩) hS.2.2 xd_St_copyFrom_46
set_option maxHeartbeats 4000000 in
set_option maxRecDepth 100000 in
theorem ct_St_make (l : Launch) (G : va_G) (cA : Nat → ClassId) (sz : Nat) (o : Nat) (a1 : Nat) (a2 : Nat) (a3 : Nat) (st : Nat → Int32) (n : Nat) (hn : n < 40) : Met l xy_St_make (.code xy_St_make xb_St_make 2 none :: tw_W) ({ frames := 1, cells := 0, slots := 0, locals := 20 }) (pc_w G cA [(o, .inr (2, [.ref a1, .ref a2, .ref a3])), (a1, .inl (cA 0, 40, .inl st))] sz [.ref o, .int (nI n)]) (va_Qv (fun _ : Unit => True) (fun _ T9 => at_w G (va_A [(o, .inr (2, [.ref a1, .ref a2, .ref a3])), (a1, .inl (cA 0, 40, .inl st))] sz) [(o, .inr (2, [.ref a1, .ref a2, .ref a3])), (a1, .inl (cA 0, 40, .inl (upd st n (nI 1))))] T9) (va_A [(o, .inr (2, [.ref a1, .ref a2, .ref a3])), (a1, .inl (cA 0, 40, .inl st))] sz)) 0 0 (va_A [(o, .inr (2, [.ref a1, .ref a2, .ref a3])), (a1, .inl (cA 0, 40, .inl st))] sz) := by
  refine Met.ofW (cc := xb_St_make) (maxL := 2) (ret := none) (by decide) rfl ?_
  intro p e s m args below meth c s₁ B hml hv
  obtain ⟨rfl, hsz, hK, hP, hD0⟩ := hv
  have hx := B.exec
  have hb := B.bytes
  have hr := B.returns
  have hts0 := atoms_spec (ws := .code xy_St_make xb_St_make 2 none :: tw_W) B.pre
  have hts : ∀ w9 ∈ tw_W, w9.before [.ref o, .int (nI n)].toArray s = true := fun w9 h9 => hts0 w9 (List.mem_cons_of_mem _ h9)
  have hown : s.vm.findClass xc_St = some m.cls := findClass_of_methodNamed B.named
  have hlocks := B.notSynchronized
  subst hsz
  have hD := hD0.self (sz := s.heap.size)
  generalize hAe : va_A [(o, .inr (2, [.ref a1, .ref a2, .ref a3])), (a1, .inl (cA 0, 40, .inl st))] s.heap.size = A at hD ⊢
  have hA : ∀ q : Nat, s.heap.size ≤ q → A q := fun q h => by rw [← hAe]; exact Or.inr h
  have hS : va_S A s.heap s.heap [] := va_S.rf
  have hP : va_P G xk_cl [(o, .inr (2, [.ref a1, .ref a2, .ref a3])), (a1, .inl (cA 0, 40, .inl st))] s.heap := hP
  have hl := lv_entry ([.ref o, .int (nI n)]) (n := 2) (Nat.le_of_ble_eq_true rfl)
  rw [lg_entry_eq]
  generalize (lg_sl ([.ref o, .int (nI n)]) ++ List.replicate (2 - (lg_sl ([.ref o, .int (nI n)])).length) Slot.unset).toArray = ls at hl ⊢
  have hl : lv_has ls 2 [(0, .ref o), (1, .int (nI n))] := hl
  refine lv_iload_n hx hb xd_St_make_0 rfl (lv_at hl 1 rfl) ?_
  have hPc := hP.sub (ws' := []) [] rfl
  refine vp_callSi (va_Run.run (va_runSN (As := [.int (nI n)]) (rest := []) ⟨hx, hb, hml, hown, hts⟩ (ct_X_isObject l G cA (nI n)) ⟨va_cnB 1 hts (tw_g xm_276) rfl rfl rfl (nw_m hK.2 9 rfl) (hts _ xm_1) xh_X_isObject ⟨Nat.le_of_ble_eq_true rfl, Nat.le_of_ble_eq_true rfl⟩, hts _ xm_275, trivial⟩ (ps_r hK hPc) rfl rfl hl.1 rfl (lv_room (Nat.le_of_ble_eq_true rfl)) xd_St_make_1 ⟨Nat.le_of_ble_eq_true rfl, Nat.le_of_ble_eq_true rfl⟩)) (fun r_1 q_2 => ?_)
  refine lx_top (z := sp_ob (nI n)) (q_2) ?_
  refine lx_top (z := nI 1) (sp_ob_t (by omega)) ?_
  refine lv_if_eq (tgt := 14) hx hb xd_St_make_4 (by decide) (fun c_4_2 => absurd c_4_2 (by decide)) (fun c_4_2 => ?_)
  refine lv_aload_n hx hb xd_St_make_7 rfl (lv_at hl 0 rfl) ?_
  refine va_get (D := G) (ci := 2) (v := .ref a1) (C := xc_St) (T := xf_St) (N := 3) hx hb hts xw_St hown hK.1 hP 0 rfl rfl 0 (by decide) (hts _ xm_47) (fun _ h9 => h9) rfl xd_St_make_8 ?_
  refine lv_iload_n hx hb xd_St_make_11 rfl (lv_at hl 1 rfl) ?_
  refine lv_iconst (v := nI 1) hx hb xd_St_make_12 (by decide) ?_
  refine wx_iast hx hb hK.1 hP hD hS 1 0 rfl rfl (k := n) (z := nI 1) (rfl) (by omega) (by decide) xd_St_make_13 (fun H locs hP hD hS => ?_)
  have hP : va_P G xk_cl [(o, .inr (2, [.ref a1, .ref a2, .ref a3])), (a1, .inl (cA 0, 40, .inl (upd st n (nI 1))))] H := hP
  have hD : va_D A [(o, .inr (2, [.ref a1, .ref a2, .ref a3])), (a1, .inl (cA 0, 40, .inl (upd st n (nI 1))))] := hD
  have hP9 : va_P G xk_cl [(o, .inr (2, [.ref a1, .ref a2, .ref a3])), (a1, .inl (cA 0, 40, .inl (upd st n (nI 1))))] _ := hP.sub [0, 1] rfl
  have hD9 : va_D A [(o, .inr (2, [.ref a1, .ref a2, .ref a3])), (a1, .inl (cA 0, 40, .inl (upd st n (nI 1))))] := hD.sub [0, 1] (by decide) rfl
  exact W.vret hx hb hr (fun T9 ht hW => ⟨⟨(), rfl, trivial, by rw [ht]; exact hP9, hD9⟩, hS.F ht⟩) hS.2.2 xd_St_make_14
set_option maxHeartbeats 4000000 in
set_option maxRecDepth 100000 in
theorem ct_St_seal (l : Launch) (G : va_G) (cA : Nat → ClassId) (sz : Nat) (o : Nat) (a1 : Nat) (a2 : Nat) (a3 : Nat) (st : Nat → Int32) (n : Nat) (hn : n < 40) : Met l xy_St_seal (.code xy_St_seal xb_St_seal 2 none :: tw_W) ({ frames := 1, cells := 0, slots := 0, locals := 20 }) (pc_w G cA [(o, .inr (2, [.ref a1, .ref a2, .ref a3])), (a1, .inl (cA 0, 40, .inl st))] sz [.ref o, .int (nI n)]) (va_Qv (fun _ : Unit => True) (fun _ T9 => at_w G (va_A [(o, .inr (2, [.ref a1, .ref a2, .ref a3])), (a1, .inl (cA 0, 40, .inl st))] sz) [(o, .inr (2, [.ref a1, .ref a2, .ref a3])), (a1, .inl (cA 0, 40, .inl (upd st n (nI 2))))] T9) (va_A [(o, .inr (2, [.ref a1, .ref a2, .ref a3])), (a1, .inl (cA 0, 40, .inl st))] sz)) 0 0 (va_A [(o, .inr (2, [.ref a1, .ref a2, .ref a3])), (a1, .inl (cA 0, 40, .inl st))] sz) := by
  refine Met.ofW (cc := xb_St_seal) (maxL := 2) (ret := none) (by decide) rfl ?_
  intro p e s m args below meth c s₁ B hml hv
  obtain ⟨rfl, hsz, hK, hP, hD0⟩ := hv
  have hx := B.exec
  have hb := B.bytes
  have hr := B.returns
  have hts0 := atoms_spec (ws := .code xy_St_seal xb_St_seal 2 none :: tw_W) B.pre
  have hts : ∀ w9 ∈ tw_W, w9.before [.ref o, .int (nI n)].toArray s = true := fun w9 h9 => hts0 w9 (List.mem_cons_of_mem _ h9)
  have hown : s.vm.findClass xc_St = some m.cls := findClass_of_methodNamed B.named
  have hlocks := B.notSynchronized
  subst hsz
  have hD := hD0.self (sz := s.heap.size)
  generalize hAe : va_A [(o, .inr (2, [.ref a1, .ref a2, .ref a3])), (a1, .inl (cA 0, 40, .inl st))] s.heap.size = A at hD ⊢
  have hA : ∀ q : Nat, s.heap.size ≤ q → A q := fun q h => by rw [← hAe]; exact Or.inr h
  have hS : va_S A s.heap s.heap [] := va_S.rf
  have hP : va_P G xk_cl [(o, .inr (2, [.ref a1, .ref a2, .ref a3])), (a1, .inl (cA 0, 40, .inl st))] s.heap := hP
  have hl := lv_entry ([.ref o, .int (nI n)]) (n := 2) (Nat.le_of_ble_eq_true rfl)
  rw [lg_entry_eq]
  generalize (lg_sl ([.ref o, .int (nI n)]) ++ List.replicate (2 - (lg_sl ([.ref o, .int (nI n)])).length) Slot.unset).toArray = ls at hl ⊢
  have hl : lv_has ls 2 [(0, .ref o), (1, .int (nI n))] := hl
  refine lv_iload_n hx hb xd_St_seal_0 rfl (lv_at hl 1 rfl) ?_
  have hPc := hP.sub (ws' := []) [] rfl
  refine vp_callSi (va_Run.run (va_runSN (As := [.int (nI n)]) (rest := []) ⟨hx, hb, hml, hown, hts⟩ (ct_X_isObject l G cA (nI n)) ⟨va_cnB 1 hts (tw_g xm_276) rfl rfl rfl (nw_m hK.2 9 rfl) (hts _ xm_1) xh_X_isObject ⟨Nat.le_of_ble_eq_true rfl, Nat.le_of_ble_eq_true rfl⟩, hts _ xm_275, trivial⟩ (ps_r hK hPc) rfl rfl hl.1 rfl (lv_room (Nat.le_of_ble_eq_true rfl)) xd_St_seal_1 ⟨Nat.le_of_ble_eq_true rfl, Nat.le_of_ble_eq_true rfl⟩)) (fun r_1 q_2 => ?_)
  refine lx_top (z := sp_ob (nI n)) (q_2) ?_
  refine lx_top (z := nI 1) (sp_ob_t (by omega)) ?_
  refine lv_if_eq (tgt := 14) hx hb xd_St_seal_4 (by decide) (fun c_4_2 => absurd c_4_2 (by decide)) (fun c_4_2 => ?_)
  refine lv_aload_n hx hb xd_St_seal_7 rfl (lv_at hl 0 rfl) ?_
  refine va_get (D := G) (ci := 2) (v := .ref a1) (C := xc_St) (T := xf_St) (N := 3) hx hb hts xw_St hown hK.1 hP 0 rfl rfl 0 (by decide) (hts _ xm_47) (fun _ h9 => h9) rfl xd_St_seal_8 ?_
  refine lv_iload_n hx hb xd_St_seal_11 rfl (lv_at hl 1 rfl) ?_
  refine lv_iconst (v := nI 2) hx hb xd_St_seal_12 (by decide) ?_
  refine wx_iast hx hb hK.1 hP hD hS 1 0 rfl rfl (k := n) (z := nI 2) (rfl) (by omega) (by decide) xd_St_seal_13 (fun H locs hP hD hS => ?_)
  have hP : va_P G xk_cl [(o, .inr (2, [.ref a1, .ref a2, .ref a3])), (a1, .inl (cA 0, 40, .inl (upd st n (nI 2))))] H := hP
  have hD : va_D A [(o, .inr (2, [.ref a1, .ref a2, .ref a3])), (a1, .inl (cA 0, 40, .inl (upd st n (nI 2))))] := hD
  have hP9 : va_P G xk_cl [(o, .inr (2, [.ref a1, .ref a2, .ref a3])), (a1, .inl (cA 0, 40, .inl (upd st n (nI 2))))] _ := hP.sub [0, 1] rfl
  have hD9 : va_D A [(o, .inr (2, [.ref a1, .ref a2, .ref a3])), (a1, .inl (cA 0, 40, .inl (upd st n (nI 2))))] := hD.sub [0, 1] (by decide) rfl
  exact W.vret hx hb hr (fun T9 ht hW => ⟨⟨(), rfl, trivial, by rw [ht]; exact hP9, hD9⟩, hS.F ht⟩) hS.2.2 xd_St_seal_14
set_option maxHeartbeats 4000000 in
set_option maxRecDepth 100000 in
theorem ct_St_put (l : Launch) (G : va_G) (cA : Nat → ClassId) (sz : Nat) (o : Nat) (a1 : Nat) (a2 : Nat) (a3 : Nat) (ce : Nat → Int32) (n : Nat) (k : Nat) (x : Int32) (hn : n < 40) (hk : k < 26) : Met l xy_St_put (.code xy_St_put xb_St_put 5 none :: tw_W) ({ frames := 1, cells := 0, slots := 0, locals := 20 }) (pc_w G cA [(o, .inr (2, [.ref a1, .ref a2, .ref a3])), (a2, .inl (cA 0, 40, .inl (sp_kc ce))), (a3, .inl (cA 0, 1040, .inl ce))] sz [.ref o, .int (nI n), .int (nI k), .int x]) (va_Qv (fun _ : Unit => True) (fun _ T9 => at_w G (va_A [(o, .inr (2, [.ref a1, .ref a2, .ref a3])), (a2, .inl (cA 0, 40, .inl (sp_kc ce))), (a3, .inl (cA 0, 1040, .inl ce))] sz) [(o, .inr (2, [.ref a1, .ref a2, .ref a3])), (a2, .inl (cA 0, 40, .inl (sp_kc (upd ce (n * 26 + k) x)))), (a3, .inl (cA 0, 1040, .inl (upd ce (n * 26 + k) x)))] T9) (va_A [(o, .inr (2, [.ref a1, .ref a2, .ref a3])), (a2, .inl (cA 0, 40, .inl (sp_kc ce))), (a3, .inl (cA 0, 1040, .inl ce))] sz)) 0 0 (va_A [(o, .inr (2, [.ref a1, .ref a2, .ref a3])), (a2, .inl (cA 0, 40, .inl (sp_kc ce))), (a3, .inl (cA 0, 1040, .inl ce))] sz) := by
  refine Met.ofW (cc := xb_St_put) (maxL := 5) (ret := none) (by decide) rfl ?_
  intro p e s m args below meth c s₁ B hml hv
  obtain ⟨rfl, hsz, hK, hP, hD0⟩ := hv
  have hx := B.exec
  have hb := B.bytes
  have hr := B.returns
  have hts0 := atoms_spec (ws := .code xy_St_put xb_St_put 5 none :: tw_W) B.pre
  have hts : ∀ w9 ∈ tw_W, w9.before [.ref o, .int (nI n), .int (nI k), .int x].toArray s = true := fun w9 h9 => hts0 w9 (List.mem_cons_of_mem _ h9)
  have hown : s.vm.findClass xc_St = some m.cls := findClass_of_methodNamed B.named
  have hlocks := B.notSynchronized
  subst hsz
  have hD := hD0.self (sz := s.heap.size)
  generalize hAe : va_A [(o, .inr (2, [.ref a1, .ref a2, .ref a3])), (a2, .inl (cA 0, 40, .inl (sp_kc ce))), (a3, .inl (cA 0, 1040, .inl ce))] s.heap.size = A at hD ⊢
  have hA : ∀ q : Nat, s.heap.size ≤ q → A q := fun q h => by rw [← hAe]; exact Or.inr h
  have hS : va_S A s.heap s.heap [] := va_S.rf
  have hP : va_P G xk_cl [(o, .inr (2, [.ref a1, .ref a2, .ref a3])), (a2, .inl (cA 0, 40, .inl (sp_kc ce))), (a3, .inl (cA 0, 1040, .inl ce))] s.heap := hP
  have hl := lv_entry ([.ref o, .int (nI n), .int (nI k), .int x]) (n := 5) (Nat.le_of_ble_eq_true rfl)
  rw [lg_entry_eq]
  generalize (lg_sl ([.ref o, .int (nI n), .int (nI k), .int x]) ++ List.replicate (5 - (lg_sl ([.ref o, .int (nI n), .int (nI k), .int x])).length) Slot.unset).toArray = ls at hl ⊢
  have hl : lv_has ls 5 [(0, .ref o), (1, .int (nI n)), (2, .int (nI k)), (3, .int x)] := hl
  refine lv_iload_n hx hb xd_St_put_0 rfl (lv_at hl 1 rfl) ?_
  have hPc := hP.sub (ws' := []) [] rfl
  refine vp_callSi (va_Run.run (va_runSN (As := [.int (nI n)]) (rest := []) ⟨hx, hb, hml, hown, hts⟩ (ct_X_isObject l G cA (nI n)) ⟨va_cnB 1 hts (tw_g xm_276) rfl rfl rfl (nw_m hK.2 9 rfl) (hts _ xm_1) xh_X_isObject ⟨Nat.le_of_ble_eq_true rfl, Nat.le_of_ble_eq_true rfl⟩, hts _ xm_275, trivial⟩ (ps_r hK hPc) rfl rfl hl.1 rfl (lv_room (Nat.le_of_ble_eq_true rfl)) xd_St_put_1 ⟨Nat.le_of_ble_eq_true rfl, Nat.le_of_ble_eq_true rfl⟩)) (fun r_1 q_2 => ?_)
  refine lx_top (z := sp_ob (nI n)) (q_2) ?_
  refine lx_top (z := nI 1) (sp_ob_t (by omega)) ?_
  refine lv_if_eq (tgt := 14) hx hb xd_St_put_4 (by decide) (fun c_4_2 => absurd c_4_2 (by decide)) (fun c_4_2 => ?_)
  refine lv_iload_n hx hb xd_St_put_7 rfl (lv_at hl 2 rfl) ?_
  have hPc := hP.sub (ws' := []) [] rfl
  refine vp_callSi (va_Run.run (va_runSN (As := [.int (nI k)]) (rest := []) ⟨hx, hb, hml, hown, hts⟩ (ct_X_isKey l G cA (nI k)) ⟨va_cnB 1 hts (tw_g xm_321) rfl rfl rfl (nw_m hK.2 10 rfl) (hts _ xm_1) xh_X_isKey ⟨Nat.le_of_ble_eq_true rfl, Nat.le_of_ble_eq_true rfl⟩, hts _ xm_320, trivial⟩ (ps_r hK hPc) rfl rfl hl.1 rfl (lv_room (Nat.le_of_ble_eq_true rfl)) xd_St_put_8 ⟨Nat.le_of_ble_eq_true rfl, Nat.le_of_ble_eq_true rfl⟩)) (fun r_4 q_5 => ?_)
  refine lx_top (z := sp_ky (nI k)) (q_5) ?_
  refine lx_top (z := nI 1) (sp_ky_t (by omega)) ?_
  refine lv_if_ne (tgt := 15) hx hb xd_St_put_11 (by decide) (fun c_11_5 => ?_) (fun c_11_5 => absurd c_11_5 (by decide))
  refine lv_iload_n hx hb xd_St_put_15 rfl (lv_at hl 1 rfl) ?_
  refine lv_bipush (v := nI 26) hx hb xd_St_put_16 (by decide) ?_
  refine lx_imul (z := nI (n * 26)) hx hb xd_St_put_18 (pk_mul _ _) ?_
  refine lv_iload_n hx hb xd_St_put_19 rfl (lv_at hl 2 rfl) ?_
  refine lx_iadd (z := nI (n * 26 + k)) hx hb xd_St_put_20 (nI_add _ _) ?_
  refine lv_istore (lv' := [(4, .int (nI (n * 26 + k))), (0, .ref o), (1, .int (nI n)), (2, .int (nI k)), (3, .int x)]) hx hb xd_St_put_21 hl (by decide) rfl (fun ls hl => ?_)
  refine lv_aload_n hx hb xd_St_put_23 rfl (lv_at hl 1 rfl) ?_
  refine va_get (D := G) (ci := 2) (v := .ref a2) (C := xc_St) (T := xf_St) (N := 3) hx hb hts xw_St hown hK.1 hP 0 rfl rfl 1 (by decide) (hts _ xm_48) (fun _ h9 => h9) rfl xd_St_put_24 ?_
  refine lv_iload_n hx hb xd_St_put_27 rfl (lv_at hl 2 rfl) ?_
  refine lv_dup2_11 hx hb xd_St_put_28 rfl rfl ?_
  refine wx_iald hx hb hK.1 hP 1 0 rfl rfl (k := n) (by omega) (by decide) xd_St_put_29 ?_
  refine lv_iload_n hx hb xd_St_put_30 rfl (lv_at hl 4 rfl) ?_
  refine lv_if_ne (tgt := 38) hx hb xd_St_put_31 (by decide) (fun c_31_6 => ?_) (fun c_31_6 => ?_)
  · refine lv_iconst (v := nI 1) hx hb xd_St_put_38 (by decide) ?_
    refine lv_aload_n hx hb xd_St_put_39 rfl (lv_at hl 1 rfl) ?_
    refine va_get (D := G) (ci := 2) (v := .ref a3) (C := xc_St) (T := xf_St) (N := 3) hx hb hts xw_St hown hK.1 hP 0 rfl rfl 2 (by decide) (hts _ xm_49) (fun _ h9 => h9) rfl xd_St_put_40 ?_
    refine lv_iload hx hb xd_St_put_43 (lv_at hl 0 rfl) ?_
    refine wx_iald hx hb hK.1 hP 2 0 rfl rfl (k := n * 26 + k) (by omega) (by decide) xd_St_put_45 ?_
    refine lv_if_ne (tgt := 53) hx hb xd_St_put_46 (by decide) (fun c_46_7 => ?_) (fun c_46_7 => ?_)
    · refine lv_iconst (v := nI 1) hx hb xd_St_put_53 (by decide) ?_
      refine lx_isub (z := (nI 1) - (nI 1)) hx hb xd_St_put_54 (rfl) ?_
      refine lx_iadd (z := ((sp_kc ce) n) + ((nI 1) - (nI 1))) hx hb xd_St_put_55 (rfl) ?_
      refine wx_iast hx hb hK.1 hP hD hS 1 0 rfl rfl (k := n) (z := sp_kc ce n + (sp_th x - sp_th (ce (n * 26 + k)))) (by simp [sp_th, c_4_2, c_11_5, c_31_6, c_46_7]) (by omega) (by decide) xd_St_put_56 (fun H locs hP hD hS => ?_)
      have hP : va_P G xk_cl [(o, .inr (2, [.ref a1, .ref a2, .ref a3])), (a2, .inl (cA 0, 40, .inl (upd (sp_kc ce) n (sp_kc ce n + (sp_th x - sp_th (ce (n * 26 + k))))))), (a3, .inl (cA 0, 1040, .inl ce))] H := hP
      have hD : va_D A [(o, .inr (2, [.ref a1, .ref a2, .ref a3])), (a2, .inl (cA 0, 40, .inl (upd (sp_kc ce) n (sp_kc ce n + (sp_th x - sp_th (ce (n * 26 + k))))))), (a3, .inl (cA 0, 1040, .inl ce))] := hD
      have e_9 : upd (sp_kc ce) n (sp_kc ce n + (sp_th x - sp_th (ce (n * 26 + k)))) = sp_kc (upd ce (n * 26 + k) x) := sp_kc_up ce n k x hk
      rw [e_9] at hP hD
      refine lv_aload_n hx hb xd_St_put_57 rfl (lv_at hl 1 rfl) ?_
      refine va_get (D := G) (ci := 2) (v := .ref a3) (C := xc_St) (T := xf_St) (N := 3) hx hb hts xw_St hown hK.1 hP 0 rfl rfl 2 (by decide) (hts _ xm_49) (fun _ h9 => h9) rfl xd_St_put_58 ?_
      refine lv_iload hx hb xd_St_put_61 (lv_at hl 0 rfl) ?_
      refine lv_iload_n hx hb xd_St_put_63 rfl (lv_at hl 4 rfl) ?_
      refine wx_iast hx hb hK.1 hP hD hS 2 0 rfl rfl (k := n * 26 + k) (z := x) (rfl) (by omega) (by decide) xd_St_put_64 (fun H locs hP hD hS => ?_)
      have hP : va_P G xk_cl [(o, .inr (2, [.ref a1, .ref a2, .ref a3])), (a2, .inl (cA 0, 40, .inl (sp_kc (upd ce (n * 26 + k) x)))), (a3, .inl (cA 0, 1040, .inl (upd ce (n * 26 + k) x)))] H := hP
      have hD : va_D A [(o, .inr (2, [.ref a1, .ref a2, .ref a3])), (a2, .inl (cA 0, 40, .inl (sp_kc (upd ce (n * 26 + k) x)))), (a3, .inl (cA 0, 1040, .inl (upd ce (n * 26 + k) x)))] := hD
      have hP9 : va_P G xk_cl [(o, .inr (2, [.ref a1, .ref a2, .ref a3])), (a2, .inl (cA 0, 40, .inl (sp_kc (upd ce (n * 26 + k) x)))), (a3, .inl (cA 0, 1040, .inl (upd ce (n * 26 + k) x)))] _ := hP.sub [0, 1, 2] rfl
      have hD9 : va_D A [(o, .inr (2, [.ref a1, .ref a2, .ref a3])), (a2, .inl (cA 0, 40, .inl (sp_kc (upd ce (n * 26 + k) x)))), (a3, .inl (cA 0, 1040, .inl (upd ce (n * 26 + k) x)))] := hD.sub [0, 1, 2] (by decide) rfl
      exact W.vret hx hb hr (fun T9 ht hW => ⟨⟨(), rfl, trivial, by rw [ht]; exact hP9, hD9⟩, hS.F ht⟩) hS.2.2 xd_St_put_65
    · refine lv_iconst (v := nI 0) hx hb xd_St_put_49 (by decide) ?_
      refine lv_goto (tgt := 54) hx hb xd_St_put_50 (by decide) ?_
      refine lx_isub (z := (nI 1) - (nI 0)) hx hb xd_St_put_54 (rfl) ?_
      refine lx_iadd (z := ((sp_kc ce) n) + ((nI 1) - (nI 0))) hx hb xd_St_put_55 (rfl) ?_
      refine wx_iast hx hb hK.1 hP hD hS 1 0 rfl rfl (k := n) (z := sp_kc ce n + (sp_th x - sp_th (ce (n * 26 + k)))) (by simp [sp_th, c_4_2, c_11_5, c_31_6, c_46_7]) (by omega) (by decide) xd_St_put_56 (fun H locs hP hD hS => ?_)
      have hP : va_P G xk_cl [(o, .inr (2, [.ref a1, .ref a2, .ref a3])), (a2, .inl (cA 0, 40, .inl (upd (sp_kc ce) n (sp_kc ce n + (sp_th x - sp_th (ce (n * 26 + k))))))), (a3, .inl (cA 0, 1040, .inl ce))] H := hP
      have hD : va_D A [(o, .inr (2, [.ref a1, .ref a2, .ref a3])), (a2, .inl (cA 0, 40, .inl (upd (sp_kc ce) n (sp_kc ce n + (sp_th x - sp_th (ce (n * 26 + k))))))), (a3, .inl (cA 0, 1040, .inl ce))] := hD
      have e_10 : upd (sp_kc ce) n (sp_kc ce n + (sp_th x - sp_th (ce (n * 26 + k)))) = sp_kc (upd ce (n * 26 + k) x) := sp_kc_up ce n k x hk
      rw [e_10] at hP hD
      refine lv_aload_n hx hb xd_St_put_57 rfl (lv_at hl 1 rfl) ?_
      refine va_get (D := G) (ci := 2) (v := .ref a3) (C := xc_St) (T := xf_St) (N := 3) hx hb hts xw_St hown hK.1 hP 0 rfl rfl 2 (by decide) (hts _ xm_49) (fun _ h9 => h9) rfl xd_St_put_58 ?_
      refine lv_iload hx hb xd_St_put_61 (lv_at hl 0 rfl) ?_
      refine lv_iload_n hx hb xd_St_put_63 rfl (lv_at hl 4 rfl) ?_
      refine wx_iast hx hb hK.1 hP hD hS 2 0 rfl rfl (k := n * 26 + k) (z := x) (rfl) (by omega) (by decide) xd_St_put_64 (fun H locs hP hD hS => ?_)
      have hP : va_P G xk_cl [(o, .inr (2, [.ref a1, .ref a2, .ref a3])), (a2, .inl (cA 0, 40, .inl (sp_kc (upd ce (n * 26 + k) x)))), (a3, .inl (cA 0, 1040, .inl (upd ce (n * 26 + k) x)))] H := hP
      have hD : va_D A [(o, .inr (2, [.ref a1, .ref a2, .ref a3])), (a2, .inl (cA 0, 40, .inl (sp_kc (upd ce (n * 26 + k) x)))), (a3, .inl (cA 0, 1040, .inl (upd ce (n * 26 + k) x)))] := hD
      have hP9 : va_P G xk_cl [(o, .inr (2, [.ref a1, .ref a2, .ref a3])), (a2, .inl (cA 0, 40, .inl (sp_kc (upd ce (n * 26 + k) x)))), (a3, .inl (cA 0, 1040, .inl (upd ce (n * 26 + k) x)))] _ := hP.sub [0, 1, 2] rfl
      have hD9 : va_D A [(o, .inr (2, [.ref a1, .ref a2, .ref a3])), (a2, .inl (cA 0, 40, .inl (sp_kc (upd ce (n * 26 + k) x)))), (a3, .inl (cA 0, 1040, .inl (upd ce (n * 26 + k) x)))] := hD.sub [0, 1, 2] (by decide) rfl
      exact W.vret hx hb hr (fun T9 ht hW => ⟨⟨(), rfl, trivial, by rw [ht]; exact hP9, hD9⟩, hS.F ht⟩) hS.2.2 xd_St_put_65
  · refine lv_iconst (v := nI 0) hx hb xd_St_put_34 (by decide) ?_
    refine lv_goto (tgt := 39) hx hb xd_St_put_35 (by decide) ?_
    refine lv_aload_n hx hb xd_St_put_39 rfl (lv_at hl 1 rfl) ?_
    refine va_get (D := G) (ci := 2) (v := .ref a3) (C := xc_St) (T := xf_St) (N := 3) hx hb hts xw_St hown hK.1 hP 0 rfl rfl 2 (by decide) (hts _ xm_49) (fun _ h9 => h9) rfl xd_St_put_40 ?_
    refine lv_iload hx hb xd_St_put_43 (lv_at hl 0 rfl) ?_
    refine wx_iald hx hb hK.1 hP 2 0 rfl rfl (k := n * 26 + k) (by omega) (by decide) xd_St_put_45 ?_
    refine lv_if_ne (tgt := 53) hx hb xd_St_put_46 (by decide) (fun c_46_10 => ?_) (fun c_46_10 => ?_)
    · refine lv_iconst (v := nI 1) hx hb xd_St_put_53 (by decide) ?_
      refine lx_isub (z := (nI 0) - (nI 1)) hx hb xd_St_put_54 (rfl) ?_
      refine lx_iadd (z := ((sp_kc ce) n) + ((nI 0) - (nI 1))) hx hb xd_St_put_55 (rfl) ?_
      refine wx_iast hx hb hK.1 hP hD hS 1 0 rfl rfl (k := n) (z := sp_kc ce n + (sp_th x - sp_th (ce (n * 26 + k)))) (by simp [sp_th, c_4_2, c_11_5, c_31_6, c_46_10]) (by omega) (by decide) xd_St_put_56 (fun H locs hP hD hS => ?_)
      have hP : va_P G xk_cl [(o, .inr (2, [.ref a1, .ref a2, .ref a3])), (a2, .inl (cA 0, 40, .inl (upd (sp_kc ce) n (sp_kc ce n + (sp_th x - sp_th (ce (n * 26 + k))))))), (a3, .inl (cA 0, 1040, .inl ce))] H := hP
      have hD : va_D A [(o, .inr (2, [.ref a1, .ref a2, .ref a3])), (a2, .inl (cA 0, 40, .inl (upd (sp_kc ce) n (sp_kc ce n + (sp_th x - sp_th (ce (n * 26 + k))))))), (a3, .inl (cA 0, 1040, .inl ce))] := hD
      have e_12 : upd (sp_kc ce) n (sp_kc ce n + (sp_th x - sp_th (ce (n * 26 + k)))) = sp_kc (upd ce (n * 26 + k) x) := sp_kc_up ce n k x hk
      rw [e_12] at hP hD
      refine lv_aload_n hx hb xd_St_put_57 rfl (lv_at hl 1 rfl) ?_
      refine va_get (D := G) (ci := 2) (v := .ref a3) (C := xc_St) (T := xf_St) (N := 3) hx hb hts xw_St hown hK.1 hP 0 rfl rfl 2 (by decide) (hts _ xm_49) (fun _ h9 => h9) rfl xd_St_put_58 ?_
      refine lv_iload hx hb xd_St_put_61 (lv_at hl 0 rfl) ?_
      refine lv_iload_n hx hb xd_St_put_63 rfl (lv_at hl 4 rfl) ?_
      refine wx_iast hx hb hK.1 hP hD hS 2 0 rfl rfl (k := n * 26 + k) (z := x) (rfl) (by omega) (by decide) xd_St_put_64 (fun H locs hP hD hS => ?_)
      have hP : va_P G xk_cl [(o, .inr (2, [.ref a1, .ref a2, .ref a3])), (a2, .inl (cA 0, 40, .inl (sp_kc (upd ce (n * 26 + k) x)))), (a3, .inl (cA 0, 1040, .inl (upd ce (n * 26 + k) x)))] H := hP
      have hD : va_D A [(o, .inr (2, [.ref a1, .ref a2, .ref a3])), (a2, .inl (cA 0, 40, .inl (sp_kc (upd ce (n * 26 + k) x)))), (a3, .inl (cA 0, 1040, .inl (upd ce (n * 26 + k) x)))] := hD
      have hP9 : va_P G xk_cl [(o, .inr (2, [.ref a1, .ref a2, .ref a3])), (a2, .inl (cA 0, 40, .inl (sp_kc (upd ce (n * 26 + k) x)))), (a3, .inl (cA 0, 1040, .inl (upd ce (n * 26 + k) x)))] _ := hP.sub [0, 1, 2] rfl
      have hD9 : va_D A [(o, .inr (2, [.ref a1, .ref a2, .ref a3])), (a2, .inl (cA 0, 40, .inl (sp_kc (upd ce (n * 26 + k) x)))), (a3, .inl (cA 0, 1040, .inl (upd ce (n * 26 + k) x)))] := hD.sub [0, 1, 2] (by decide) rfl
      exact W.vret hx hb hr (fun T9 ht hW => ⟨⟨(), rfl, trivial, by rw [ht]; exact hP9, hD9⟩, hS.F ht⟩) hS.2.2 xd_St_put_65
    · refine lv_iconst (v := nI 0) hx hb xd_St_put_49 (by decide) ?_
      refine lv_goto (tgt := 54) hx hb xd_St_put_50 (by decide) ?_
      refine lx_isub (z := (nI 0) - (nI 0)) hx hb xd_St_put_54 (rfl) ?_
      refine lx_iadd (z := ((sp_kc ce) n) + ((nI 0) - (nI 0))) hx hb xd_St_put_55 (rfl) ?_
      refine wx_iast hx hb hK.1 hP hD hS 1 0 rfl rfl (k := n) (z := sp_kc ce n + (sp_th x - sp_th (ce (n * 26 + k)))) (by simp [sp_th, c_4_2, c_11_5, c_31_6, c_46_10]) (by omega) (by decide) xd_St_put_56 (fun H locs hP hD hS => ?_)
      have hP : va_P G xk_cl [(o, .inr (2, [.ref a1, .ref a2, .ref a3])), (a2, .inl (cA 0, 40, .inl (upd (sp_kc ce) n (sp_kc ce n + (sp_th x - sp_th (ce (n * 26 + k))))))), (a3, .inl (cA 0, 1040, .inl ce))] H := hP
      have hD : va_D A [(o, .inr (2, [.ref a1, .ref a2, .ref a3])), (a2, .inl (cA 0, 40, .inl (upd (sp_kc ce) n (sp_kc ce n + (sp_th x - sp_th (ce (n * 26 + k))))))), (a3, .inl (cA 0, 1040, .inl ce))] := hD
      have e_13 : upd (sp_kc ce) n (sp_kc ce n + (sp_th x - sp_th (ce (n * 26 + k)))) = sp_kc (upd ce (n * 26 + k) x) := sp_kc_up ce n k x hk
      rw [e_13] at hP hD
      refine lv_aload_n hx hb xd_St_put_57 rfl (lv_at hl 1 rfl) ?_
      refine va_get (D := G) (ci := 2) (v := .ref a3) (C := xc_St) (T := xf_St) (N := 3) hx hb hts xw_St hown hK.1 hP 0 rfl rfl 2 (by decide) (hts _ xm_49) (fun _ h9 => h9) rfl xd_St_put_58 ?_
      refine lv_iload hx hb xd_St_put_61 (lv_at hl 0 rfl) ?_
      refine lv_iload_n hx hb xd_St_put_63 rfl (lv_at hl 4 rfl) ?_
      refine wx_iast hx hb hK.1 hP hD hS 2 0 rfl rfl (k := n * 26 + k) (z := x) (rfl) (by omega) (by decide) xd_St_put_64 (fun H locs hP hD hS => ?_)
      have hP : va_P G xk_cl [(o, .inr (2, [.ref a1, .ref a2, .ref a3])), (a2, .inl (cA 0, 40, .inl (sp_kc (upd ce (n * 26 + k) x)))), (a3, .inl (cA 0, 1040, .inl (upd ce (n * 26 + k) x)))] H := hP
      have hD : va_D A [(o, .inr (2, [.ref a1, .ref a2, .ref a3])), (a2, .inl (cA 0, 40, .inl (sp_kc (upd ce (n * 26 + k) x)))), (a3, .inl (cA 0, 1040, .inl (upd ce (n * 26 + k) x)))] := hD
      have hP9 : va_P G xk_cl [(o, .inr (2, [.ref a1, .ref a2, .ref a3])), (a2, .inl (cA 0, 40, .inl (sp_kc (upd ce (n * 26 + k) x)))), (a3, .inl (cA 0, 1040, .inl (upd ce (n * 26 + k) x)))] _ := hP.sub [0, 1, 2] rfl
      have hD9 : va_D A [(o, .inr (2, [.ref a1, .ref a2, .ref a3])), (a2, .inl (cA 0, 40, .inl (sp_kc (upd ce (n * 26 + k) x)))), (a3, .inl (cA 0, 1040, .inl (upd ce (n * 26 + k) x)))] := hD.sub [0, 1, 2] (by decide) rfl
      exact W.vret hx hb hr (fun T9 ht hW => ⟨⟨(), rfl, trivial, by rw [ht]; exact hP9, hD9⟩, hS.F ht⟩) hS.2.2 xd_St_put_65
