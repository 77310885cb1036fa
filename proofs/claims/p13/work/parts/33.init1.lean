set_option maxHeartbeats 4000000 in
set_option maxRecDepth 100000 in
theorem ct_St_init (l : Launch) (G : va_G) (cA : Nat → ClassId) (sz : Nat) (o : Nat) : Met l xy_St_init (.code xy_St_init xb_St_init 1 none :: tw_W) ({ frames := 1, cells := 3, slots := 1120, locals := 12 }) (pc_w G cA [(o, .inr (2, [.null, .null, .null]))] sz [.ref o]) (va_Qv (fun u9 : Nat × Nat × Nat => match u9 with | (q1, q2, q3) => True) (fun u9 T9 => match u9 with | (q1, q2, q3) => at_w G (va_A [(o, .inr (2, [.null, .null, .null]))] sz) [(o, .inr (2, [.ref q1, .ref q2, .ref q3])), (q1, .inl (cA 0, 40, .inl (upd (fun _ => 0) 0 (nI 1)))), (q2, .inl (cA 0, 40, .inl (sp_kc (fun _ => 0)))), (q3, .inl (cA 0, 1040, .inl (fun _ => 0)))] T9) (va_A [(o, .inr (2, [.null, .null, .null]))] sz)) 3 1120 (va_A [(o, .inr (2, [.null, .null, .null]))] sz) := by
  refine Met.ofW (cc := xb_St_init) (maxL := 1) (ret := none) (by decide) rfl ?_
  intro p e s m args below meth c s₁ B hml hv
  obtain ⟨rfl, hsz, hK, hP, hD0⟩ := hv
  have hx := B.exec
  have hb := B.bytes
  have hr := B.returns
  have hts0 := atoms_spec (ws := .code xy_St_init xb_St_init 1 none :: tw_W) B.pre
  have hts : ∀ w9 ∈ tw_W, w9.before [.ref o].toArray s = true := fun w9 h9 => hts0 w9 (List.mem_cons_of_mem _ h9)
  have hown : s.vm.findClass xc_St = some m.cls := findClass_of_methodNamed B.named
  have hlocks := B.notSynchronized
  have hin : meth.name = "<init>" := (name_of_methodNamed B.named B.method).1
  subst hsz
  have hD := hD0.self (sz := s.heap.size)
  generalize hAe : va_A [(o, .inr (2, [.null, .null, .null]))] s.heap.size = A at hD ⊢
  have hA : ∀ q : Nat, s.heap.size ≤ q → A q := fun q h => by rw [← hAe]; exact Or.inr h
  have hS : va_S A s.heap s.heap [] := va_S.rf
  have hP : va_P G xk_cl [(o, .inr (2, [.null, .null, .null]))] s.heap := hP
  have hl := lv_entry ([.ref o]) (n := 1) (Nat.le_of_ble_eq_true rfl)
  rw [lg_entry_eq]
  generalize (lg_sl ([.ref o]) ++ List.replicate (1 - (lg_sl ([.ref o])).length) Slot.unset).toArray = ls at hl ⊢
  have hl : lv_has ls 1 [(0, .ref o)] := hl
  refine lv_aload_n hx hb xd_St_init_0 rfl (lv_at hl 0 rfl) ?_
  refine W.objInit hx hb hown (hts _ xm_46) (hts _ xm_22) (hts _ xm_23) rfl (by rw [hml]; exact hl.1) rfl xd_St_init_1 (Nat.le_of_ble_eq_true rfl) (Nat.le_of_ble_eq_true rfl) ?_
  refine W.eq (g2 := F0 m 4 ls []) rfl ?_
  refine lv_aload_n hx hb xd_St_init_4 rfl (lv_at hl 0 rfl) ?_
  refine lv_bipush (v := nI 40) hx hb xd_St_init_5 (by decide) ?_
  refine wx_new_int hx hb (hts _ xm_57) hK.1 hP hD hS hA 0 rfl (by decide) (by decide) (Nat.le_of_ble_eq_true rfl) (Nat.le_of_ble_eq_true rfl) xd_St_init_7 (fun q_1 H hP hD hS => ?_)
  have hP : va_P G xk_cl [(o, .inr (2, [.null, .null, .null])), (q_1, .inl (cA 0, 40, .inl (fun _ => 0)))] H := hP
  have hD : va_D A [(o, .inr (2, [.null, .null, .null])), (q_1, .inl (cA 0, 40, .inl (fun _ => 0)))] := hD
  refine W.widen (k := 1) (n := 40) (by decide) (by decide) ?_
  refine va_putF (D := G) (ci := 2) (v := .ref q_1) (ty := .array .int) (C := xc_St) (T := xf_St) (N := 3) hx hb hts xw_St xt_St xt_St_ok xn_St hown hK.1 hP hD hS 0 rfl rfl 0 (by decide) (hts _ xm_47) (fun _ h9 => h9) rfl hin rfl (by decide +kernel) rfl rfl (Nat.le_of_ble_eq_true rfl) xd_St_init_9 (fun H locs hP hD hS => ?_)
  have hP : va_P G xk_cl [(o, .inr (2, [.ref q_1, .null, .null])), (q_1, .inl (cA 0, 40, .inl (fun _ => 0)))] H := hP
  have hD : va_D A [(o, .inr (2, [.ref q_1, .null, .null])), (q_1, .inl (cA 0, 40, .inl (fun _ => 0)))] := hD
  refine lv_aload_n hx hb xd_St_init_12 rfl (lv_at hl 0 rfl) ?_
  refine lv_bipush (v := nI 40) hx hb xd_St_init_13 (by decide) ?_
  refine wx_new_int hx hb (hts _ xm_57) hK.1 hP hD hS hA 0 rfl (by decide) (by decide) (Nat.le_of_ble_eq_true rfl) (Nat.le_of_ble_eq_true rfl) xd_St_init_15 (fun q_2 H hP hD hS => ?_)
  have hP : va_P G xk_cl [(o, .inr (2, [.ref q_1, .null, .null])), (q_1, .inl (cA 0, 40, .inl (fun _ => 0))), (q_2, .inl (cA 0, 40, .inl (fun _ => 0)))] H := hP
  have hD : va_D A [(o, .inr (2, [.ref q_1, .null, .null])), (q_1, .inl (cA 0, 40, .inl (fun _ => 0))), (q_2, .inl (cA 0, 40, .inl (fun _ => 0)))] := hD
  refine W.widen (k := 2) (n := 80) (by decide) (by decide) ?_
  refine va_putF (D := G) (ci := 2) (v := .ref q_2) (ty := .array .int) (C := xc_St) (T := xf_St) (N := 3) hx hb hts xw_St xt_St xt_St_ok xn_St hown hK.1 hP hD hS 0 rfl rfl 1 (by decide) (hts _ xm_48) (fun _ h9 => h9) rfl hin rfl (by decide +kernel) rfl rfl (Nat.le_of_ble_eq_true rfl) xd_St_init_17 (fun H locs hP hD hS => ?_)
  have hP : va_P G xk_cl [(o, .inr (2, [.ref q_1, .ref q_2, .null])), (q_1, .inl (cA 0, 40, .inl (fun _ => 0))), (q_2, .inl (cA 0, 40, .inl (fun _ => 0)))] H := hP
  have hD : va_D A [(o, .inr (2, [.ref q_1, .ref q_2, .null])), (q_1, .inl (cA 0, 40, .inl (fun _ => 0))), (q_2, .inl (cA 0, 40, .inl (fun _ => 0)))] := hD
  refine lv_aload_n hx hb xd_St_init_20 rfl (lv_at hl 0 rfl) ?_
  refine lv_sipush (v := nI 1040) hx hb xd_St_init_21 (by decide) ?_
  refine wx_new_int hx hb (hts _ xm_57) hK.1 hP hD hS hA 0 rfl (by decide) (by decide) (Nat.le_of_ble_eq_true rfl) (Nat.le_of_ble_eq_true rfl) xd_St_init_24 (fun q_3 H hP hD hS => ?_)
  have hP : va_P G xk_cl [(o, .inr (2, [.ref q_1, .ref q_2, .null])), (q_1, .inl (cA 0, 40, .inl (fun _ => 0))), (q_2, .inl (cA 0, 40, .inl (fun _ => 0))), (q_3, .inl (cA 0, 1040, .inl (fun _ => 0)))] H := hP
  have hD : va_D A [(o, .inr (2, [.ref q_1, .ref q_2, .null])), (q_1, .inl (cA 0, 40, .inl (fun _ => 0))), (q_2, .inl (cA 0, 40, .inl (fun _ => 0))), (q_3, .inl (cA 0, 1040, .inl (fun _ => 0)))] := hD
  refine W.widen (k := 3) (n := 1120) (by decide) (by decide) ?_
  refine va_putF (D := G) (ci := 2) (v := .ref q_3) (ty := .array .int) (C := xc_St) (T := xf_St) (N := 3) hx hb hts xw_St xt_St xt_St_ok xn_St hown hK.1 hP hD hS 0 rfl rfl 2 (by decide) (hts _ xm_49) (fun _ h9 => h9) rfl hin rfl (by decide +kernel) rfl rfl (Nat.le_of_ble_eq_true rfl) xd_St_init_26 (fun H locs hP hD hS => ?_)
  have hP : va_P G xk_cl [(o, .inr (2, [.ref q_1, .ref q_2, .ref q_3])), (q_1, .inl (cA 0, 40, .inl (fun _ => 0))), (q_2, .inl (cA 0, 40, .inl (fun _ => 0))), (q_3, .inl (cA 0, 1040, .inl (fun _ => 0)))] H := hP
  have hD : va_D A [(o, .inr (2, [.ref q_1, .ref q_2, .ref q_3])), (q_1, .inl (cA 0, 40, .inl (fun _ => 0))), (q_2, .inl (cA 0, 40, .inl (fun _ => 0))), (q_3, .inl (cA 0, 1040, .inl (fun _ => 0)))] := hD
  refine lv_aload_n hx hb xd_St_init_29 rfl (lv_at hl 0 rfl) ?_
  refine va_get (D := G) (ci := 2) (v := .ref q_1) (C := xc_St) (T := xf_St) (N := 3) hx hb hts xw_St hown hK.1 hP 0 rfl rfl 0 (by decide) (hts _ xm_47) (fun _ h9 => h9) rfl xd_St_init_30 ?_
  refine lv_iconst (v := nI 0) hx hb xd_St_init_33 (by decide) ?_
  refine lv_iconst (v := nI 1) hx hb xd_St_init_34 (by decide) ?_
  refine wx_iast hx hb hK.1 hP hD hS 1 0 rfl rfl (k := 0) (z := nI 1) (rfl) (by omega) (by decide) xd_St_init_35 (fun H locs hP hD hS => ?_)
  have hP : va_P G xk_cl [(o, .inr (2, [.ref q_1, .ref q_2, .ref q_3])), (q_1, .inl (cA 0, 40, .inl (upd (fun _ => 0) 0 (nI 1)))), (q_2, .inl (cA 0, 40, .inl (fun _ => 0))), (q_3, .inl (cA 0, 1040, .inl (fun _ => 0)))] H := hP
  have hD : va_D A [(o, .inr (2, [.ref q_1, .ref q_2, .ref q_3])), (q_1, .inl (cA 0, 40, .inl (upd (fun _ => 0) 0 (nI 1)))), (q_2, .inl (cA 0, 40, .inl (fun _ => 0))), (q_3, .inl (cA 0, 1040, .inl (fun _ => 0)))] := hD
  have hP : va_P G xk_cl [(o, .inr (2, [.ref q_1, .ref q_2, .ref q_3])), (q_1, .inl (cA 0, 40, .inl (upd (fun _ => 0) 0 (nI 1)))), (q_2, .inl (cA 0, 40, .inl (sp_kc (fun _ => 0)))), (q_3, .inl (cA 0, 1040, .inl (fun _ => 0)))] H := by rw [sp_kc_0]; exact hP
  have hD : va_D A [(o, .inr (2, [.ref q_1, .ref q_2, .ref q_3])), (q_1, .inl (cA 0, 40, .inl (upd (fun _ => 0) 0 (nI 1)))), (q_2, .inl (cA 0, 40, .inl (sp_kc (fun _ => 0)))), (q_3, .inl (cA 0, 1040, .inl (fun _ => 0)))] := by rw [sp_kc_0]; exact hD
  have hP9 : va_P G xk_cl [(o, .inr (2, [.ref q_1, .ref q_2, .ref q_3])), (q_1, .inl (cA 0, 40, .inl (upd (fun _ => 0) 0 (nI 1)))), (q_2, .inl (cA 0, 40, .inl (sp_kc (fun _ => 0)))), (q_3, .inl (cA 0, 1040, .inl (fun _ => 0)))] _ := hP.sub [0, 1, 2, 3] rfl
  have hD9 : va_D A [(o, .inr (2, [.ref q_1, .ref q_2, .ref q_3])), (q_1, .inl (cA 0, 40, .inl (upd (fun _ => 0) 0 (nI 1)))), (q_2, .inl (cA 0, 40, .inl (sp_kc (fun _ => 0)))), (q_3, .inl (cA 0, 1040, .inl (fun _ => 0)))] := hD.sub [0, 1, 2, 3] (by decide) rfl
  exact W.vret hx hb hr (fun T9 ht hW => ⟨⟨(q_1, q_2, q_3), rfl, trivial, by rw [ht]; exact hP9, hD9⟩, hS.F ht⟩) hS.2.2 xd_St_init_36
set_option maxHeartbeats 4000000 in
set_option maxRecDepth 100000 in
theorem ct_Te_init (l : Launch) (G : va_G) (cA : Nat → ClassId) (sz : Nat) (t : Nat) : Met l xy_Te_init (.code xy_Te_init xb_Te_init 1 none :: tw_W) ({ frames := 1, cells := 1, slots := 300, locals := 12 }) (pc_w G cA [(t, .inr (1, [.null, .int 0, .int 0]))] sz [.ref t]) (va_Qv (fun u9 : Nat => match u9 with | (q1) => True) (fun u9 T9 => match u9 with | (q1) => at_w G (va_A [(t, .inr (1, [.null, .int 0, .int 0]))] sz) [(t, .inr (1, [.ref q1, .int (nI 0), .int (nI 0)])), (q1, .inl (cA 1, 300, .inl (tx_A (fun _ => 0))))] T9) (va_A [(t, .inr (1, [.null, .int 0, .int 0]))] sz)) 1 300 (va_A [(t, .inr (1, [.null, .int 0, .int 0]))] sz) := by
  refine Met.ofW (cc := xb_Te_init) (maxL := 1) (ret := none) (by decide) rfl ?_
  intro p e s m args below meth c s₁ B hml hv
  obtain ⟨rfl, hsz, hK, hP, hD0⟩ := hv
  have hx := B.exec
  have hb := B.bytes
  have hr := B.returns
  have hts0 := atoms_spec (ws := .code xy_Te_init xb_Te_init 1 none :: tw_W) B.pre
  have hts : ∀ w9 ∈ tw_W, w9.before [.ref t].toArray s = true := fun w9 h9 => hts0 w9 (List.mem_cons_of_mem _ h9)
  have hown : s.vm.findClass xc_Te = some m.cls := findClass_of_methodNamed B.named
  have hlocks := B.notSynchronized
  have hin : meth.name = "<init>" := (name_of_methodNamed B.named B.method).1
  subst hsz
  have hD := hD0.self (sz := s.heap.size)
  generalize hAe : va_A [(t, .inr (1, [.null, .int 0, .int 0]))] s.heap.size = A at hD ⊢
  have hA : ∀ q : Nat, s.heap.size ≤ q → A q := fun q h => by rw [← hAe]; exact Or.inr h
  have hS : va_S A s.heap s.heap [] := va_S.rf
  have hP : va_P G xk_cl [(t, .inr (1, [.null, .int 0, .int 0]))] s.heap := hP
  have hl := lv_entry ([.ref t]) (n := 1) (Nat.le_of_ble_eq_true rfl)
  rw [lg_entry_eq]
  generalize (lg_sl ([.ref t]) ++ List.replicate (1 - (lg_sl ([.ref t])).length) Slot.unset).toArray = ls at hl ⊢
  have hl : lv_has ls 1 [(0, .ref t)] := hl
  refine lv_aload_n hx hb xd_Te_init_0 rfl (lv_at hl 0 rfl) ?_
  refine W.objInit hx hb hown (hts _ xm_29) (hts _ xm_22) (hts _ xm_23) rfl (by rw [hml]; exact hl.1) rfl xd_Te_init_1 (Nat.le_of_ble_eq_true rfl) (Nat.le_of_ble_eq_true rfl) ?_
  refine W.eq (g2 := F0 m 4 ls []) rfl ?_
  refine lv_aload_n hx hb xd_Te_init_4 rfl (lv_at hl 0 rfl) ?_
  refine lv_sipush (v := nI 300) hx hb xd_Te_init_5 (by decide) ?_
  refine wx_new_char hx hb (hts _ xm_40) hK.1 hP hD hS hA 1 rfl (by decide) (by decide) (Nat.le_of_ble_eq_true rfl) (Nat.le_of_ble_eq_true rfl) xd_Te_init_8 (fun q_1 H hP hD hS => ?_)
  have hP : va_P G xk_cl [(t, .inr (1, [.null, .int 0, .int 0])), (q_1, .inl (cA 1, 300, .inl (fun _ => 0)))] H := hP
  have hD : va_D A [(t, .inr (1, [.null, .int 0, .int 0])), (q_1, .inl (cA 1, 300, .inl (fun _ => 0)))] := hD
  refine W.widen (k := 1) (n := 300) (by decide) (by decide) ?_
  refine va_putF (D := G) (ci := 1) (v := .ref q_1) (ty := .array .char) (C := xc_Te) (T := xf_Te) (N := 3) hx hb hts xw_Te xt_Te xt_Te_ok xn_Te hown hK.1 hP hD hS 0 rfl rfl 0 (by decide) (hts _ xm_30) (fun _ h9 => h9) rfl hin rfl (by decide +kernel) rfl rfl (Nat.le_of_ble_eq_true rfl) xd_Te_init_10 (fun H locs hP hD hS => ?_)
  have hP : va_P G xk_cl [(t, .inr (1, [.ref q_1, .int 0, .int 0])), (q_1, .inl (cA 1, 300, .inl (fun _ => 0)))] H := hP
  have hD : va_D A [(t, .inr (1, [.ref q_1, .int 0, .int 0])), (q_1, .inl (cA 1, 300, .inl (fun _ => 0)))] := hD
  have hP9 : va_P G xk_cl [(t, .inr (1, [.ref q_1, .int (nI 0), .int (nI 0)])), (q_1, .inl (cA 1, 300, .inl (tx_A (fun _ => 0))))] _ := hP.sub [0, 1] rfl
  have hD9 : va_D A [(t, .inr (1, [.ref q_1, .int (nI 0), .int (nI 0)])), (q_1, .inl (cA 1, 300, .inl (tx_A (fun _ => 0))))] := hD.sub [0, 1] (by decide) rfl
  exact W.vret hx hb hr (fun T9 ht hW => ⟨⟨(q_1), rfl, trivial, by rw [ht]; exact hP9, hD9⟩, hS.F ht⟩) hS.2.2 xd_Te_init_13
set_option maxHeartbeats 4000000 in
set_option maxRecDepth 100000 in
theorem ct_Pa_init (l : Launch) (G : va_G) (cA : Nat → ClassId) (sz : Nat) (pa : Nat) : Met l xy_Pa_init (.code xy_Pa_init xb_Pa_init 1 none :: tw_W) ({ frames := 1, cells := 1, slots := 8, locals := 12 }) (pc_w G cA [(pa, .inr (5, [.null, .int 0]))] sz [.ref pa]) (va_Qv (fun u9 : Nat => match u9 with | (q1) => True) (fun u9 T9 => match u9 with | (q1) => at_w G (va_A [(pa, .inr (5, [.null, .int 0]))] sz) [(pa, .inr (5, [.ref q1, .int (nI 0)])), (q1, .inl (cA 0, 8, .inl (tx_A (fun _ => 0))))] T9) (va_A [(pa, .inr (5, [.null, .int 0]))] sz)) 1 8 (va_A [(pa, .inr (5, [.null, .int 0]))] sz) := by
  refine Met.ofW (cc := xb_Pa_init) (maxL := 1) (ret := none) (by decide) rfl ?_
  intro p e s m args below meth c s₁ B hml hv
  obtain ⟨rfl, hsz, hK, hP, hD0⟩ := hv
  have hx := B.exec
  have hb := B.bytes
  have hr := B.returns
  have hts0 := atoms_spec (ws := .code xy_Pa_init xb_Pa_init 1 none :: tw_W) B.pre
  have hts : ∀ w9 ∈ tw_W, w9.before [.ref pa].toArray s = true := fun w9 h9 => hts0 w9 (List.mem_cons_of_mem _ h9)
  have hown : s.vm.findClass xc_Pa = some m.cls := findClass_of_methodNamed B.named
  have hlocks := B.notSynchronized
  have hin : meth.name = "<init>" := (name_of_methodNamed B.named B.method).1
  subst hsz
  have hD := hD0.self (sz := s.heap.size)
  generalize hAe : va_A [(pa, .inr (5, [.null, .int 0]))] s.heap.size = A at hD ⊢
  have hA : ∀ q : Nat, s.heap.size ≤ q → A q := fun q h => by rw [← hAe]; exact Or.inr h
  have hS : va_S A s.heap s.heap [] := va_S.rf
  have hP : va_P G xk_cl [(pa, .inr (5, [.null, .int 0]))] s.heap := hP
  have hl := lv_entry ([.ref pa]) (n := 1) (Nat.le_of_ble_eq_true rfl)
  rw [lg_entry_eq]
  generalize (lg_sl ([.ref pa]) ++ List.replicate (1 - (lg_sl ([.ref pa])).length) Slot.unset).toArray = ls at hl ⊢
  have hl : lv_has ls 1 [(0, .ref pa)] := hl
  refine lv_aload_n hx hb xd_Pa_init_0 rfl (lv_at hl 0 rfl) ?_
  refine W.objInit hx hb hown (hts _ xm_75) (hts _ xm_22) (hts _ xm_23) rfl (by rw [hml]; exact hl.1) rfl xd_Pa_init_1 (Nat.le_of_ble_eq_true rfl) (Nat.le_of_ble_eq_true rfl) ?_
  refine W.eq (g2 := F0 m 4 ls []) rfl ?_
  refine lv_aload_n hx hb xd_Pa_init_4 rfl (lv_at hl 0 rfl) ?_
  refine lv_bipush (v := nI 8) hx hb xd_Pa_init_5 (by decide) ?_
  refine wx_new_int hx hb (hts _ xm_57) hK.1 hP hD hS hA 0 rfl (by decide) (by decide) (Nat.le_of_ble_eq_true rfl) (Nat.le_of_ble_eq_true rfl) xd_Pa_init_7 (fun q_1 H hP hD hS => ?_)
  have hP : va_P G xk_cl [(pa, .inr (5, [.null, .int 0])), (q_1, .inl (cA 0, 8, .inl (fun _ => 0)))] H := hP
  have hD : va_D A [(pa, .inr (5, [.null, .int 0])), (q_1, .inl (cA 0, 8, .inl (fun _ => 0)))] := hD
  refine W.widen (k := 1) (n := 8) (by decide) (by decide) ?_
  refine va_putF (D := G) (ci := 5) (v := .ref q_1) (ty := .array .int) (C := xc_Pa) (T := xf_Pa) (N := 2) hx hb hts xw_Pa xt_Pa xt_Pa_ok xn_Pa hown hK.1 hP hD hS 0 rfl rfl 0 (by decide) (hts _ xm_76) (fun _ h9 => h9) rfl hin rfl (by decide +kernel) rfl rfl (Nat.le_of_ble_eq_true rfl) xd_Pa_init_9 (fun H locs hP hD hS => ?_)
  have hP : va_P G xk_cl [(pa, .inr (5, [.ref q_1, .int 0])), (q_1, .inl (cA 0, 8, .inl (fun _ => 0)))] H := hP
  have hD : va_D A [(pa, .inr (5, [.ref q_1, .int 0])), (q_1, .inl (cA 0, 8, .inl (fun _ => 0)))] := hD
  have hP9 : va_P G xk_cl [(pa, .inr (5, [.ref q_1, .int (nI 0)])), (q_1, .inl (cA 0, 8, .inl (tx_A (fun _ => 0))))] _ := hP.sub [0, 1] rfl
  have hD9 : va_D A [(pa, .inr (5, [.ref q_1, .int (nI 0)])), (q_1, .inl (cA 0, 8, .inl (tx_A (fun _ => 0))))] := hD.sub [0, 1] (by decide) rfl
  exact W.vret hx hb hr (fun T9 ht hW => ⟨⟨(q_1), rfl, trivial, by rw [ht]; exact hP9, hD9⟩, hS.F ht⟩) hS.2.2 xd_Pa_init_12
set_option maxHeartbeats 4000000 in
set_option maxRecDepth 100000 in
theorem ct_Re_init (l : Launch) (G : va_G) (cA : Nat → ClassId) (sz : Nat) (re : Nat) : Met l xy_Re_init (.code xy_Re_init xb_Re_init 1 none :: tw_W) ({ frames := 1, cells := 2, slots := 80, locals := 12 }) (pc_w G cA [(re, .inr (7, [.null, .null, .int 0]))] sz [.ref re]) (va_Qv (fun u9 : Nat × Nat => match u9 with | (q1, q2) => True) (fun u9 T9 => match u9 with | (q1, q2) => at_w G (va_A [(re, .inr (7, [.null, .null, .int 0]))] sz) [(re, .inr (7, [.ref q1, .ref q2, .int (nI 0)])), (q1, .inl (cA 2, 40, .inl (mk_A (fun _ => false)))), (q2, .inl (cA 0, 40, .inl (tx_A (fun _ => 0))))] T9) (va_A [(re, .inr (7, [.null, .null, .int 0]))] sz)) 2 80 (va_A [(re, .inr (7, [.null, .null, .int 0]))] sz) := by
  refine Met.ofW (cc := xb_Re_init) (maxL := 1) (ret := none) (by decide) rfl ?_
  intro p e s m args below meth c s₁ B hml hv
  obtain ⟨rfl, hsz, hK, hP, hD0⟩ := hv
  have hx := B.exec
  have hb := B.bytes
  have hr := B.returns
  have hts0 := atoms_spec (ws := .code xy_Re_init xb_Re_init 1 none :: tw_W) B.pre
  have hts : ∀ w9 ∈ tw_W, w9.before [.ref re].toArray s = true := fun w9 h9 => hts0 w9 (List.mem_cons_of_mem _ h9)
  have hown : s.vm.findClass xc_Re = some m.cls := findClass_of_methodNamed B.named
  have hlocks := B.notSynchronized
  have hin : meth.name = "<init>" := (name_of_methodNamed B.named B.method).1
  subst hsz
  have hD := hD0.self (sz := s.heap.size)
  generalize hAe : va_A [(re, .inr (7, [.null, .null, .int 0]))] s.heap.size = A at hD ⊢
  have hA : ∀ q : Nat, s.heap.size ≤ q → A q := fun q h => by rw [← hAe]; exact Or.inr h
  have hS : va_S A s.heap s.heap [] := va_S.rf
  have hP : va_P G xk_cl [(re, .inr (7, [.null, .null, .int 0]))] s.heap := hP
  have hl := lv_entry ([.ref re]) (n := 1) (Nat.le_of_ble_eq_true rfl)
  rw [lg_entry_eq]
  generalize (lg_sl ([.ref re]) ++ List.replicate (1 - (lg_sl ([.ref re])).length) Slot.unset).toArray = ls at hl ⊢
  have hl : lv_has ls 1 [(0, .ref re)] := hl
  refine lv_aload_n hx hb xd_Re_init_0 rfl (lv_at hl 0 rfl) ?_
  refine W.objInit hx hb hown (hts _ xm_147) (hts _ xm_22) (hts _ xm_23) rfl (by rw [hml]; exact hl.1) rfl xd_Re_init_1 (Nat.le_of_ble_eq_true rfl) (Nat.le_of_ble_eq_true rfl) ?_
  refine W.eq (g2 := F0 m 4 ls []) rfl ?_
  refine lv_aload_n hx hb xd_Re_init_4 rfl (lv_at hl 0 rfl) ?_
  refine lv_bipush (v := nI 40) hx hb xd_Re_init_5 (by decide) ?_
  refine wx_new_boolean hx hb (hts _ xm_158) hK.1 hP hD hS hA 2 rfl (by decide) (by decide) (Nat.le_of_ble_eq_true rfl) (Nat.le_of_ble_eq_true rfl) xd_Re_init_7 (fun q_1 H hP hD hS => ?_)
  have hP : va_P G xk_cl [(re, .inr (7, [.null, .null, .int 0])), (q_1, .inl (cA 2, 40, .inl (fun _ => 0)))] H := hP
  have hD : va_D A [(re, .inr (7, [.null, .null, .int 0])), (q_1, .inl (cA 2, 40, .inl (fun _ => 0)))] := hD
  refine W.widen (k := 1) (n := 40) (by decide) (by decide) ?_
  refine va_putF (D := G) (ci := 7) (v := .ref q_1) (ty := .array .boolean) (C := xc_Re) (T := xf_Re) (N := 3) hx hb hts xw_Re xt_Re xt_Re_ok xn_Re hown hK.1 hP hD hS 0 rfl rfl 0 (by decide) (hts _ xm_148) (fun _ h9 => h9) rfl hin rfl (by decide +kernel) rfl rfl (Nat.le_of_ble_eq_true rfl) xd_Re_init_9 (fun H locs hP hD hS => ?_)
  have hP : va_P G xk_cl [(re, .inr (7, [.ref q_1, .null, .int 0])), (q_1, .inl (cA 2, 40, .inl (fun _ => 0)))] H := hP
  have hD : va_D A [(re, .inr (7, [.ref q_1, .null, .int 0])), (q_1, .inl (cA 2, 40, .inl (fun _ => 0)))] := hD
  refine lv_aload_n hx hb xd_Re_init_12 rfl (lv_at hl 0 rfl) ?_
  refine lv_bipush (v := nI 40) hx hb xd_Re_init_13 (by decide) ?_
  refine wx_new_int hx hb (hts _ xm_57) hK.1 hP hD hS hA 0 rfl (by decide) (by decide) (Nat.le_of_ble_eq_true rfl) (Nat.le_of_ble_eq_true rfl) xd_Re_init_15 (fun q_2 H hP hD hS => ?_)
  have hP : va_P G xk_cl [(re, .inr (7, [.ref q_1, .null, .int 0])), (q_1, .inl (cA 2, 40, .inl (fun _ => 0))), (q_2, .inl (cA 0, 40, .inl (fun _ => 0)))] H := hP
  have hD : va_D A [(re, .inr (7, [.ref q_1, .null, .int 0])), (q_1, .inl (cA 2, 40, .inl (fun _ => 0))), (q_2, .inl (cA 0, 40, .inl (fun _ => 0)))] := hD
  refine W.widen (k := 2) (n := 80) (by decide) (by decide) ?_
  refine va_putF (D := G) (ci := 7) (v := .ref q_2) (ty := .array .int) (C := xc_Re) (T := xf_Re) (N := 3) hx hb hts xw_Re xt_Re xt_Re_ok xn_Re hown hK.1 hP hD hS 0 rfl rfl 1 (by decide) (hts _ xm_149) (fun _ h9 => h9) rfl hin rfl (by decide +kernel) rfl rfl (Nat.le_of_ble_eq_true rfl) xd_Re_init_17 (fun H locs hP hD hS => ?_)
  have hP : va_P G xk_cl [(re, .inr (7, [.ref q_1, .ref q_2, .int 0])), (q_1, .inl (cA 2, 40, .inl (fun _ => 0))), (q_2, .inl (cA 0, 40, .inl (fun _ => 0)))] H := hP
  have hD : va_D A [(re, .inr (7, [.ref q_1, .ref q_2, .int 0])), (q_1, .inl (cA 2, 40, .inl (fun _ => 0))), (q_2, .inl (cA 0, 40, .inl (fun _ => 0)))] := hD
  have hP9 : va_P G xk_cl [(re, .inr (7, [.ref q_1, .ref q_2, .int (nI 0)])), (q_1, .inl (cA 2, 40, .inl (mk_A (fun _ => false)))), (q_2, .inl (cA 0, 40, .inl (tx_A (fun _ => 0))))] _ := hP.sub [0, 1, 2] rfl
  have hD9 : va_D A [(re, .inr (7, [.ref q_1, .ref q_2, .int (nI 0)])), (q_1, .inl (cA 2, 40, .inl (mk_A (fun _ => false)))), (q_2, .inl (cA 0, 40, .inl (tx_A (fun _ => 0))))] := hD.sub [0, 1, 2] (by decide) rfl
  exact W.vret hx hb hr (fun T9 ht hW => ⟨⟨(q_1, q_2), rfl, trivial, by rw [ht]; exact hP9, hD9⟩, hS.F ht⟩) hS.2.2 xd_Re_init_20
set_option maxHeartbeats 4000000 in
set_option maxRecDepth 100000 in
theorem ct_Hi_init (l : Launch) (G : va_G) (cA : Nat → ClassId) (sz : Nat) (hi : Nat) : Met l xy_Hi_init (.code xy_Hi_init xb_Hi_init 1 none :: tw_W) ({ frames := 1, cells := 1, slots := 16, locals := 12 }) (pc_w G cA [(hi, .inr (6, [.null, .int 0, .int 0]))] sz [.ref hi]) (va_Qv (fun u9 : Nat => match u9 with | (q1) => True) (fun u9 T9 => match u9 with | (q1) => at_w G (va_A [(hi, .inr (6, [.null, .int 0, .int 0]))] sz) [(hi, .inr (6, [.ref q1, .int (nI 0), .int (nI 0)])), (q1, .inl (cA 3, 16, .inr (.inr (.inr (.inr (fun _ => none))))))] T9) (va_A [(hi, .inr (6, [.null, .int 0, .int 0]))] sz)) 1 16 (va_A [(hi, .inr (6, [.null, .int 0, .int 0]))] sz) := by
  refine Met.ofW (cc := xb_Hi_init) (maxL := 1) (ret := none) (by decide) rfl ?_
  intro p e s m args below meth c s₁ B hml hv
  obtain ⟨rfl, hsz, hK, hP, hD0⟩ := hv
  have hx := B.exec
  have hb := B.bytes
  have hr := B.returns
  have hts0 := atoms_spec (ws := .code xy_Hi_init xb_Hi_init 1 none :: tw_W) B.pre
  have hts : ∀ w9 ∈ tw_W, w9.before [.ref hi].toArray s = true := fun w9 h9 => hts0 w9 (List.mem_cons_of_mem _ h9)
  have hown : s.vm.findClass xc_Hi = some m.cls := findClass_of_methodNamed B.named
  have hlocks := B.notSynchronized
  have hin : meth.name = "<init>" := (name_of_methodNamed B.named B.method).1
  subst hsz
  have hD := hD0.self (sz := s.heap.size)
  generalize hAe : va_A [(hi, .inr (6, [.null, .int 0, .int 0]))] s.heap.size = A at hD ⊢
  have hA : ∀ q : Nat, s.heap.size ≤ q → A q := fun q h => by rw [← hAe]; exact Or.inr h
  have hS : va_S A s.heap s.heap [] := va_S.rf
  have hP : va_P G xk_cl [(hi, .inr (6, [.null, .int 0, .int 0]))] s.heap := hP
  have hl := lv_entry ([.ref hi]) (n := 1) (Nat.le_of_ble_eq_true rfl)
  rw [lg_entry_eq]
  generalize (lg_sl ([.ref hi]) ++ List.replicate (1 - (lg_sl ([.ref hi])).length) Slot.unset).toArray = ls at hl ⊢
  have hl : lv_has ls 1 [(0, .ref hi)] := hl
  refine lv_aload_n hx hb xd_Hi_init_0 rfl (lv_at hl 0 rfl) ?_
  refine W.objInit hx hb hown (hts _ xm_129) (hts _ xm_22) (hts _ xm_23) rfl (by rw [hml]; exact hl.1) rfl xd_Hi_init_1 (Nat.le_of_ble_eq_true rfl) (Nat.le_of_ble_eq_true rfl) ?_
  refine W.eq (g2 := F0 m 4 ls []) rfl ?_
  refine lv_aload_n hx hb xd_Hi_init_4 rfl (lv_at hl 0 rfl) ?_
  refine lv_bipush (v := nI 16) hx hb xd_Hi_init_5 (by decide) ?_
  refine wx_newq (C := "EditLists2$Store") hx hb hown (hts _ xm_130) hK.2.2.2 hK.1 hP hD hS hA 3 rfl (by decide) (by decide) (Nat.le_of_ble_eq_true rfl) (Nat.le_of_ble_eq_true rfl) xd_Hi_init_7 (fun q_1 H hP hD hS => ?_)
  have hP : va_P G xk_cl [(hi, .inr (6, [.null, .int 0, .int 0])), (q_1, .inl (cA 3, 16, .inr (.inr (.inr (.inr (fun _ => none))))))] H := hP
  have hD : va_D A [(hi, .inr (6, [.null, .int 0, .int 0])), (q_1, .inl (cA 3, 16, .inr (.inr (.inr (.inr (fun _ => none))))))] := hD
  refine W.widen (k := 1) (n := 16) (by decide) (by decide) ?_
  refine va_putF (D := G) (ci := 6) (v := .ref q_1) (ty := .array (.object "EditLists2$Store")) (C := xc_Hi) (T := xf_Hi) (N := 3) hx hb hts xw_Hi xt_Hi xt_Hi_ok xn_Hi hown hK.1 hP hD hS 0 rfl rfl 0 (by decide) (hts _ xm_132) (fun _ h9 => h9) rfl hin rfl (by decide +kernel) rfl rfl (Nat.le_of_ble_eq_true rfl) xd_Hi_init_10 (fun H locs hP hD hS => ?_)
  have hP : va_P G xk_cl [(hi, .inr (6, [.ref q_1, .int 0, .int 0])), (q_1, .inl (cA 3, 16, .inr (.inr (.inr (.inr (fun _ => none))))))] H := hP
  have hD : va_D A [(hi, .inr (6, [.ref q_1, .int 0, .int 0])), (q_1, .inl (cA 3, 16, .inr (.inr (.inr (.inr (fun _ => none))))))] := hD
  have hP9 : va_P G xk_cl [(hi, .inr (6, [.ref q_1, .int (nI 0), .int (nI 0)])), (q_1, .inl (cA 3, 16, .inr (.inr (.inr (.inr (fun _ => none))))))] _ := hP.sub [0, 1] rfl
  have hD9 : va_D A [(hi, .inr (6, [.ref q_1, .int (nI 0), .int (nI 0)])), (q_1, .inl (cA 3, 16, .inr (.inr (.inr (.inr (fun _ => none))))))] := hD.sub [0, 1] (by decide) rfl
  exact W.vret hx hb hr (fun T9 ht hW => ⟨⟨(q_1), rfl, trivial, by rw [ht]; exact hP9, hD9⟩, hS.F ht⟩) hS.2.2 xd_Hi_init_13
set_option maxHeartbeats 4000000 in
set_option maxRecDepth 100000 in
theorem ct_Li_init (l : Launch) (G : va_G) (cA : Nat → ClassId) (sz : Nat) (li : Nat) : Met l xy_Li_init (.code xy_Li_init xb_Li_init 1 none :: tw_W) ({ frames := 2, cells := 4, slots := 20, locals := 32 }) (pc_w G cA [(li, .inr (4, [.int 0, .int 0, .null, .null, .int 0, .int 0]))] sz [.ref li]) (va_Qv (fun u9 : Nat × Nat × Nat × Nat => match u9 with | (q1, q2, q3, q4) => True) (fun u9 T9 => match u9 with | (q1, q2, q3, q4) => at_w G (va_A [(li, .inr (4, [.int 0, .int 0, .null, .null, .int 0, .int 0]))] sz) [(li, .inr (4, [.int 0, .int 0, .ref q1, .ref q2, .int 0, .int 0])), (q1, .inr (5, [.ref q3, .int (nI 0)])), (q3, .inl (cA 0, 8, .inl (tx_A (fun _ => 0)))), (q2, .inr (5, [.ref q4, .int (nI 0)])), (q4, .inl (cA 0, 8, .inl (tx_A (fun _ => 0))))] T9) (va_A [(li, .inr (4, [.int 0, .int 0, .null, .null, .int 0, .int 0]))] sz)) 4 20 (va_A [(li, .inr (4, [.int 0, .int 0, .null, .null, .int 0, .int 0]))] sz) := by
  refine Met.ofW (cc := xb_Li_init) (maxL := 1) (ret := none) (by decide) rfl ?_
  intro p e s m args below meth c s₁ B hml hv
  obtain ⟨rfl, hsz, hK, hP, hD0⟩ := hv
  have hx := B.exec
  have hb := B.bytes
  have hr := B.returns
  have hts0 := atoms_spec (ws := .code xy_Li_init xb_Li_init 1 none :: tw_W) B.pre
  have hts : ∀ w9 ∈ tw_W, w9.before [.ref li].toArray s = true := fun w9 h9 => hts0 w9 (List.mem_cons_of_mem _ h9)
  have hown : s.vm.findClass xc_Li = some m.cls := findClass_of_methodNamed B.named
  have hlocks := B.notSynchronized
  have hin : meth.name = "<init>" := (name_of_methodNamed B.named B.method).1
  subst hsz
  have hD := hD0.self (sz := s.heap.size)
  generalize hAe : va_A [(li, .inr (4, [.int 0, .int 0, .null, .null, .int 0, .int 0]))] s.heap.size = A at hD ⊢
  have hA : ∀ q : Nat, s.heap.size ≤ q → A q := fun q h => by rw [← hAe]; exact Or.inr h
  have hS : va_S A s.heap s.heap [] := va_S.rf
  have hP : va_P G xk_cl [(li, .inr (4, [.int 0, .int 0, .null, .null, .int 0, .int 0]))] s.heap := hP
  have hl := lv_entry ([.ref li]) (n := 1) (Nat.le_of_ble_eq_true rfl)
  rw [lg_entry_eq]
  generalize (lg_sl ([.ref li]) ++ List.replicate (1 - (lg_sl ([.ref li])).length) Slot.unset).toArray = ls at hl ⊢
  have hl : lv_has ls 1 [(0, .ref li)] := hl
  refine lv_aload_n hx hb xd_Li_init_0 rfl (lv_at hl 0 rfl) ?_
  refine W.objInit hx hb hown (hts _ xm_69) (hts _ xm_22) (hts _ xm_23) rfl (by rw [hml]; exact hl.1) rfl xd_Li_init_1 (Nat.le_of_ble_eq_true rfl) (Nat.le_of_ble_eq_true rfl) ?_
  refine W.eq (g2 := F0 m 4 ls []) rfl ?_
  refine lv_aload_n hx hb xd_Li_init_4 rfl (lv_at hl 0 rfl) ?_
  refine va_new (ci := 5) (fs := [.null, .int 0]) (C := xc_Pa) (T := xf_Pa) (N := 2) hx hb hts xw_Pa xt_Pa xt_Pa_ok hown (hts _ xm_70) (hts _ xm_71) (hts _ xm_6) hK.1 hP hD hS hA rfl (fun j hj => by rcases (show j = 0 ∨ j = 1 by omega) with rfl | rfl <;> rfl) (Nat.le_of_ble_eq_true rfl) (Nat.le_of_ble_eq_true rfl) xd_Li_init_5 (fun q_1 H hP hD hS => ?_)
  have hP : va_P G xk_cl [(li, .inr (4, [.int 0, .int 0, .null, .null, .int 0, .int 0])), (q_1, .inr (5, [.null, .int 0]))] H := hP
  have hD : va_D A [(li, .inr (4, [.int 0, .int 0, .null, .null, .int 0, .int 0])), (q_1, .inr (5, [.null, .int 0]))] := hD
  refine W.widen (k := 1) (n := 2) (by decide) (by decide) ?_
  refine lv_dup hx hb xd_Li_init_8 rfl ?_
  have hPc := hP.sub (ws' := [(q_1, .inr (5, [.null, .int 0]))]) [1] rfl
  have hDc := hD.sub (ws' := [(q_1, .inr (5, [.null, .int 0]))]) [1] (by decide) rfl
  have hFc := va_free (wc := [(q_1, .inr (5, [.null, .int 0]))]) hD hS hA [1] rfl
  refine va_callv (va_runIN (As := []) (rest := [.ref q_1, .ref li]) ⟨hx, hb, hml, hown, hts⟩ (ct_Pa_init l G cA H.size q_1) ⟨va_cnB 0 hts (tw_g xm_74) rfl rfl rfl (nw_m hK.2 2 rfl) (hts _ xm_6) xh_Pa_init ⟨Nat.le_of_ble_eq_true rfl, Nat.le_of_ble_eq_true rfl⟩, rfl, hts _ xm_73⟩ (ps_w hK hPc hDc) rfl rfl hl.1 rfl (lv_room (Nat.le_of_ble_eq_true rfl)) xd_Li_init_9 ⟨Nat.le_of_ble_eq_true rfl, Nat.le_of_ble_eq_true rfl⟩) hS (fun q _ h => hFc q h) hFc (fun u9 t9 H1 locs ht hvm q_3 hB hz1 hk1 hS => ?_)
  obtain ⟨u_q1_4, rfl⟩ : ∃ z, z = u9 := ⟨_, rfl⟩
  try dsimp only at q_3 hB
  obtain ⟨hP1, hD1⟩ := hB
  rw [ht] at hP1
  obtain ⟨hP, hD⟩ := va_join (wr := [(li, .inr (4, [.int 0, .int 0, .null, .null, .int 0, .int 0]))]) (w1 := [(q_1, .inr (5, [.ref u_q1_4, .int (nI 0)])), (u_q1_4, .inl (cA 0, 8, .inl (tx_A (fun _ => 0))))]) hP hD [1] [0] rfl rfl (by decide) (by decide) hk1 hFc hP1 hD1
  generalize H1 = H at hP hS ⊢
  have hP : va_P G xk_cl [(li, .inr (4, [.int 0, .int 0, .null, .null, .int 0, .int 0])), (q_1, .inr (5, [.ref u_q1_4, .int (nI 0)])), (u_q1_4, .inl (cA 0, 8, .inl (tx_A (fun _ => 0))))] H := hP
  have hD : va_D A [(li, .inr (4, [.int 0, .int 0, .null, .null, .int 0, .int 0])), (q_1, .inr (5, [.ref u_q1_4, .int (nI 0)])), (u_q1_4, .inl (cA 0, 8, .inl (tx_A (fun _ => 0))))] := hD
  refine W.widen (k := 2) (n := 10) (by decide) (by decide) ?_
  refine va_putF (D := G) (ci := 4) (v := .ref q_1) (ty := .object "EditLists2$Path") (C := xc_Li) (T := xf_Li) (N := 6) hx hb hts xw_Li xt_Li xt_Li_ok xn_Li hown hK.1 hP hD hS 0 rfl rfl 2 (by decide) (hts _ xm_87) (fun _ h9 => h9) rfl hin rfl (by decide +kernel) rfl rfl (Nat.le_of_ble_eq_true rfl) xd_Li_init_12 (fun H locs hP hD hS => ?_)
  have hP : va_P G xk_cl [(li, .inr (4, [.int 0, .int 0, .ref q_1, .null, .int 0, .int 0])), (q_1, .inr (5, [.ref u_q1_4, .int (nI 0)])), (u_q1_4, .inl (cA 0, 8, .inl (tx_A (fun _ => 0))))] H := hP
  have hD : va_D A [(li, .inr (4, [.int 0, .int 0, .ref q_1, .null, .int 0, .int 0])), (q_1, .inr (5, [.ref u_q1_4, .int (nI 0)])), (u_q1_4, .inl (cA 0, 8, .inl (tx_A (fun _ => 0))))] := hD
  refine lv_aload_n hx hb xd_Li_init_15 rfl (lv_at hl 0 rfl) ?_
  refine va_new (ci := 5) (fs := [.null, .int 0]) (C := xc_Pa) (T := xf_Pa) (N := 2) hx hb hts xw_Pa xt_Pa xt_Pa_ok hown (hts _ xm_70) (hts _ xm_71) (hts _ xm_6) hK.1 hP hD hS hA rfl (fun j hj => by rcases (show j = 0 ∨ j = 1 by omega) with rfl | rfl <;> rfl) (Nat.le_of_ble_eq_true rfl) (Nat.le_of_ble_eq_true rfl) xd_Li_init_16 (fun q_5 H hP hD hS => ?_)
  have hP : va_P G xk_cl [(li, .inr (4, [.int 0, .int 0, .ref q_1, .null, .int 0, .int 0])), (q_1, .inr (5, [.ref u_q1_4, .int (nI 0)])), (u_q1_4, .inl (cA 0, 8, .inl (tx_A (fun _ => 0)))), (q_5, .inr (5, [.null, .int 0]))] H := hP
  have hD : va_D A [(li, .inr (4, [.int 0, .int 0, .ref q_1, .null, .int 0, .int 0])), (q_1, .inr (5, [.ref u_q1_4, .int (nI 0)])), (u_q1_4, .inl (cA 0, 8, .inl (tx_A (fun _ => 0)))), (q_5, .inr (5, [.null, .int 0]))] := hD
  refine W.widen (k := 3) (n := 12) (by decide) (by decide) ?_
  refine lv_dup hx hb xd_Li_init_19 rfl ?_
  have hPc := hP.sub (ws' := [(q_5, .inr (5, [.null, .int 0]))]) [3] rfl
  have hDc := hD.sub (ws' := [(q_5, .inr (5, [.null, .int 0]))]) [3] (by decide) rfl
  have hFc := va_free (wc := [(q_5, .inr (5, [.null, .int 0]))]) hD hS hA [3] rfl
  refine va_callv (va_runIN (As := []) (rest := [.ref q_5, .ref li]) ⟨hx, hb, hml, hown, hts⟩ (ct_Pa_init l G cA H.size q_5) ⟨va_cnB 0 hts (tw_g xm_74) rfl rfl rfl (nw_m hK.2 2 rfl) (hts _ xm_6) xh_Pa_init ⟨Nat.le_of_ble_eq_true rfl, Nat.le_of_ble_eq_true rfl⟩, rfl, hts _ xm_73⟩ (ps_w hK hPc hDc) rfl rfl hl.1 rfl (lv_room (Nat.le_of_ble_eq_true rfl)) xd_Li_init_20 ⟨Nat.le_of_ble_eq_true rfl, Nat.le_of_ble_eq_true rfl⟩) hS (fun q _ h => hFc q h) hFc (fun u9 t9 H1 locs ht hvm q_7 hB hz1 hk1 hS => ?_)
  obtain ⟨u_q1_8, rfl⟩ : ∃ z, z = u9 := ⟨_, rfl⟩
  try dsimp only at q_7 hB
  obtain ⟨hP1, hD1⟩ := hB
  rw [ht] at hP1
  obtain ⟨hP, hD⟩ := va_join (wr := [(li, .inr (4, [.int 0, .int 0, .ref q_1, .null, .int 0, .int 0])), (q_1, .inr (5, [.ref u_q1_4, .int (nI 0)])), (u_q1_4, .inl (cA 0, 8, .inl (tx_A (fun _ => 0))))]) (w1 := [(q_5, .inr (5, [.ref u_q1_8, .int (nI 0)])), (u_q1_8, .inl (cA 0, 8, .inl (tx_A (fun _ => 0))))]) hP hD [3] [0, 1, 2] rfl rfl (by decide) (by decide) hk1 hFc hP1 hD1
  generalize H1 = H at hP hS ⊢
  have hP : va_P G xk_cl [(li, .inr (4, [.int 0, .int 0, .ref q_1, .null, .int 0, .int 0])), (q_1, .inr (5, [.ref u_q1_4, .int (nI 0)])), (u_q1_4, .inl (cA 0, 8, .inl (tx_A (fun _ => 0)))), (q_5, .inr (5, [.ref u_q1_8, .int (nI 0)])), (u_q1_8, .inl (cA 0, 8, .inl (tx_A (fun _ => 0))))] H := hP
  have hD : va_D A [(li, .inr (4, [.int 0, .int 0, .ref q_1, .null, .int 0, .int 0])), (q_1, .inr (5, [.ref u_q1_4, .int (nI 0)])), (u_q1_4, .inl (cA 0, 8, .inl (tx_A (fun _ => 0)))), (q_5, .inr (5, [.ref u_q1_8, .int (nI 0)])), (u_q1_8, .inl (cA 0, 8, .inl (tx_A (fun _ => 0))))] := hD
  refine W.widen (k := 4) (n := 20) (by decide) (by decide) ?_
  refine va_putF (D := G) (ci := 4) (v := .ref q_5) (ty := .object "EditLists2$Path") (C := xc_Li) (T := xf_Li) (N := 6) hx hb hts xw_Li xt_Li xt_Li_ok xn_Li hown hK.1 hP hD hS 0 rfl rfl 3 (by decide) (hts _ xm_89) (fun _ h9 => h9) rfl hin rfl (by decide +kernel) rfl rfl (Nat.le_of_ble_eq_true rfl) xd_Li_init_23 (fun H locs hP hD hS => ?_)
  have hP : va_P G xk_cl [(li, .inr (4, [.int 0, .int 0, .ref q_1, .ref q_5, .int 0, .int 0])), (q_1, .inr (5, [.ref u_q1_4, .int (nI 0)])), (u_q1_4, .inl (cA 0, 8, .inl (tx_A (fun _ => 0)))), (q_5, .inr (5, [.ref u_q1_8, .int (nI 0)])), (u_q1_8, .inl (cA 0, 8, .inl (tx_A (fun _ => 0))))] H := hP
  have hD : va_D A [(li, .inr (4, [.int 0, .int 0, .ref q_1, .ref q_5, .int 0, .int 0])), (q_1, .inr (5, [.ref u_q1_4, .int (nI 0)])), (u_q1_4, .inl (cA 0, 8, .inl (tx_A (fun _ => 0)))), (q_5, .inr (5, [.ref u_q1_8, .int (nI 0)])), (u_q1_8, .inl (cA 0, 8, .inl (tx_A (fun _ => 0))))] := hD
  have hP9 : va_P G xk_cl [(li, .inr (4, [.int 0, .int 0, .ref q_1, .ref q_5, .int 0, .int 0])), (q_1, .inr (5, [.ref u_q1_4, .int (nI 0)])), (u_q1_4, .inl (cA 0, 8, .inl (tx_A (fun _ => 0)))), (q_5, .inr (5, [.ref u_q1_8, .int (nI 0)])), (u_q1_8, .inl (cA 0, 8, .inl (tx_A (fun _ => 0))))] _ := hP.sub [0, 1, 2, 3, 4] rfl
  have hD9 : va_D A [(li, .inr (4, [.int 0, .int 0, .ref q_1, .ref q_5, .int 0, .int 0])), (q_1, .inr (5, [.ref u_q1_4, .int (nI 0)])), (u_q1_4, .inl (cA 0, 8, .inl (tx_A (fun _ => 0)))), (q_5, .inr (5, [.ref u_q1_8, .int (nI 0)])), (u_q1_8, .inl (cA 0, 8, .inl (tx_A (fun _ => 0))))] := hD.sub [0, 1, 2, 3, 4] (by decide) rfl
  exact W.vret hx hb hr (fun T9 ht hW => ⟨⟨(q_1, q_5, u_q1_4, u_q1_8), rfl, trivial, by rw [ht]; exact hP9, hD9⟩, hS.F ht⟩) hS.2.2 xd_Li_init_26
set_option maxHeartbeats 4000000 in
set_option maxRecDepth 100000 in
theorem ct_Ed_init (l : Launch) (G : va_G) (cA : Nat → ClassId) (sz : Nat) (ed : Nat) (o : Nat) : Met l xy_Ed_init (.code xy_Ed_init xb_Ed_init 2 none :: tw_W) ({ frames := 3, cells := 5, slots := 26, locals := 52 }) (pc_w G cA [(ed, .inr (3, [.null, .null, .int 0, .int 0, .int 0]))] sz [.ref ed, .ref o]) (va_Qv (fun u9 : Nat × Nat × Nat × Nat × Nat => match u9 with | (q0, q1, q2, q3, q4) => True) (fun u9 T9 => match u9 with | (q0, q1, q2, q3, q4) => at_w G (va_A [(ed, .inr (3, [.null, .null, .int 0, .int 0, .int 0]))] sz) [(ed, .inr (3, [.ref o, .ref q0, .int 0, .int 0, .int 0])), (q0, .inr (4, [.int 0, .int 0, .ref q1, .ref q2, .int 0, .int 0])), (q1, .inr (5, [.ref q3, .int (nI 0)])), (q3, .inl (cA 0, 8, .inl (tx_A (fun _ => 0)))), (q2, .inr (5, [.ref q4, .int (nI 0)])), (q4, .inl (cA 0, 8, .inl (tx_A (fun _ => 0))))] T9) (va_A [(ed, .inr (3, [.null, .null, .int 0, .int 0, .int 0]))] sz)) 5 26 (va_A [(ed, .inr (3, [.null, .null, .int 0, .int 0, .int 0]))] sz) := by
  refine Met.ofW (cc := xb_Ed_init) (maxL := 2) (ret := none) (by decide) rfl ?_
  intro p e s m args below meth c s₁ B hml hv
  obtain ⟨rfl, hsz, hK, hP, hD0⟩ := hv
  have hx := B.exec
  have hb := B.bytes
  have hr := B.returns
  have hts0 := atoms_spec (ws := .code xy_Ed_init xb_Ed_init 2 none :: tw_W) B.pre
  have hts : ∀ w9 ∈ tw_W, w9.before [.ref ed, .ref o].toArray s = true := fun w9 h9 => hts0 w9 (List.mem_cons_of_mem _ h9)
  have hown : s.vm.findClass xc_Ed = some m.cls := findClass_of_methodNamed B.named
  have hlocks := B.notSynchronized
  have hin : meth.name = "<init>" := (name_of_methodNamed B.named B.method).1
  subst hsz
  have hD := hD0.self (sz := s.heap.size)
  generalize hAe : va_A [(ed, .inr (3, [.null, .null, .int 0, .int 0, .int 0]))] s.heap.size = A at hD ⊢
  have hA : ∀ q : Nat, s.heap.size ≤ q → A q := fun q h => by rw [← hAe]; exact Or.inr h
  have hS : va_S A s.heap s.heap [] := va_S.rf
  have hP : va_P G xk_cl [(ed, .inr (3, [.null, .null, .int 0, .int 0, .int 0]))] s.heap := hP
  have hl := lv_entry ([.ref ed, .ref o]) (n := 2) (Nat.le_of_ble_eq_true rfl)
  rw [lg_entry_eq]
  generalize (lg_sl ([.ref ed, .ref o]) ++ List.replicate (2 - (lg_sl ([.ref ed, .ref o])).length) Slot.unset).toArray = ls at hl ⊢
  have hl : lv_has ls 2 [(0, .ref ed), (1, .ref o)] := hl
  refine lv_aload_n hx hb xd_Ed_init_0 rfl (lv_at hl 0 rfl) ?_
  refine W.objInit hx hb hown (hts _ xm_63) (hts _ xm_22) (hts _ xm_23) rfl (by rw [hml]; exact hl.1) rfl xd_Ed_init_1 (Nat.le_of_ble_eq_true rfl) (Nat.le_of_ble_eq_true rfl) ?_
  refine W.eq (g2 := F0 m 4 ls []) rfl ?_
  refine lv_aload_n hx hb xd_Ed_init_4 rfl (lv_at hl 0 rfl) ?_
  refine va_new (ci := 4) (fs := [.int 0, .int 0, .null, .null, .int 0, .int 0]) (C := xc_Li) (T := xf_Li) (N := 6) hx hb hts xw_Li xt_Li xt_Li_ok hown (hts _ xm_64) (hts _ xm_65) (hts _ xm_5) hK.1 hP hD hS hA rfl (fun j hj => by rcases (show j = 0 ∨ j = 1 ∨ j = 2 ∨ j = 3 ∨ j = 4 ∨ j = 5 by omega) with rfl | rfl | rfl | rfl | rfl | rfl <;> rfl) (Nat.le_of_ble_eq_true rfl) (Nat.le_of_ble_eq_true rfl) xd_Ed_init_5 (fun q_1 H hP hD hS => ?_)
  have hP : va_P G xk_cl [(ed, .inr (3, [.null, .null, .int 0, .int 0, .int 0])), (q_1, .inr (4, [.int 0, .int 0, .null, .null, .int 0, .int 0]))] H := hP
  have hD : va_D A [(ed, .inr (3, [.null, .null, .int 0, .int 0, .int 0])), (q_1, .inr (4, [.int 0, .int 0, .null, .null, .int 0, .int 0]))] := hD
  refine W.widen (k := 1) (n := 6) (by decide) (by decide) ?_
  refine lv_dup hx hb xd_Ed_init_8 rfl ?_
  have hPc := hP.sub (ws' := [(q_1, .inr (4, [.int 0, .int 0, .null, .null, .int 0, .int 0]))]) [1] rfl
  have hDc := hD.sub (ws' := [(q_1, .inr (4, [.int 0, .int 0, .null, .null, .int 0, .int 0]))]) [1] (by decide) rfl
  have hFc := va_free (wc := [(q_1, .inr (4, [.int 0, .int 0, .null, .null, .int 0, .int 0]))]) hD hS hA [1] rfl
  refine va_callv (va_runIN (As := []) (rest := [.ref q_1, .ref ed]) ⟨hx, hb, hml, hown, hts⟩ (ct_Li_init l G cA H.size q_1) ⟨va_cnB 0 hts (tw_g xm_68) rfl rfl rfl (nw_m hK.2 1 rfl) (hts _ xm_5) xh_Li_init ⟨Nat.le_of_ble_eq_true rfl, Nat.le_of_ble_eq_true rfl⟩, rfl, hts _ xm_67⟩ (ps_w hK hPc hDc) rfl rfl hl.1 rfl (lv_room (Nat.le_of_ble_eq_true rfl)) xd_Ed_init_9 ⟨Nat.le_of_ble_eq_true rfl, Nat.le_of_ble_eq_true rfl⟩) hS (fun q _ h => hFc q h) hFc (fun u9 t9 H1 locs ht hvm q_3 hB hz1 hk1 hS => ?_)
  obtain ⟨u_q1_4, u_q2_5, u_q3_6, u_q4_7⟩ := u9
  try dsimp only at q_3 hB
  obtain ⟨hP1, hD1⟩ := hB
  rw [ht] at hP1
  obtain ⟨hP, hD⟩ := va_join (wr := [(ed, .inr (3, [.null, .null, .int 0, .int 0, .int 0]))]) (w1 := [(q_1, .inr (4, [.int 0, .int 0, .ref u_q1_4, .ref u_q2_5, .int 0, .int 0])), (u_q1_4, .inr (5, [.ref u_q3_6, .int (nI 0)])), (u_q3_6, .inl (cA 0, 8, .inl (tx_A (fun _ => 0)))), (u_q2_5, .inr (5, [.ref u_q4_7, .int (nI 0)])), (u_q4_7, .inl (cA 0, 8, .inl (tx_A (fun _ => 0))))]) hP hD [1] [0] rfl rfl (by decide) (by decide) hk1 hFc hP1 hD1
  generalize H1 = H at hP hS ⊢
  have hP : va_P G xk_cl [(ed, .inr (3, [.null, .null, .int 0, .int 0, .int 0])), (q_1, .inr (4, [.int 0, .int 0, .ref u_q1_4, .ref u_q2_5, .int 0, .int 0])), (u_q1_4, .inr (5, [.ref u_q3_6, .int (nI 0)])), (u_q3_6, .inl (cA 0, 8, .inl (tx_A (fun _ => 0)))), (u_q2_5, .inr (5, [.ref u_q4_7, .int (nI 0)])), (u_q4_7, .inl (cA 0, 8, .inl (tx_A (fun _ => 0))))] H := hP
  have hD : va_D A [(ed, .inr (3, [.null, .null, .int 0, .int 0, .int 0])), (q_1, .inr (4, [.int 0, .int 0, .ref u_q1_4, .ref u_q2_5, .int 0, .int 0])), (u_q1_4, .inr (5, [.ref u_q3_6, .int (nI 0)])), (u_q3_6, .inl (cA 0, 8, .inl (tx_A (fun _ => 0)))), (u_q2_5, .inr (5, [.ref u_q4_7, .int (nI 0)])), (u_q4_7, .inl (cA 0, 8, .inl (tx_A (fun _ => 0))))] := hD
  refine W.widen (k := 5) (n := 26) (by decide) (by decide) ?_
  refine va_putF (D := G) (ci := 3) (v := .ref q_1) (ty := .object "EditLists2$Line") (C := xc_Ed) (T := xf_Ed) (N := 5) hx hb hts xw_Ed xt_Ed xt_Ed_ok xn_Ed hown hK.1 hP hD hS 0 rfl rfl 1 (by decide) (hts _ xm_109) (fun _ h9 => h9) rfl hin rfl (by decide +kernel) rfl rfl (Nat.le_of_ble_eq_true rfl) xd_Ed_init_12 (fun H locs hP hD hS => ?_)
  have hP : va_P G xk_cl [(ed, .inr (3, [.null, .ref q_1, .int 0, .int 0, .int 0])), (q_1, .inr (4, [.int 0, .int 0, .ref u_q1_4, .ref u_q2_5, .int 0, .int 0])), (u_q1_4, .inr (5, [.ref u_q3_6, .int (nI 0)])), (u_q3_6, .inl (cA 0, 8, .inl (tx_A (fun _ => 0)))), (u_q2_5, .inr (5, [.ref u_q4_7, .int (nI 0)])), (u_q4_7, .inl (cA 0, 8, .inl (tx_A (fun _ => 0))))] H := hP
  have hD : va_D A [(ed, .inr (3, [.null, .ref q_1, .int 0, .int 0, .int 0])), (q_1, .inr (4, [.int 0, .int 0, .ref u_q1_4, .ref u_q2_5, .int 0, .int 0])), (u_q1_4, .inr (5, [.ref u_q3_6, .int (nI 0)])), (u_q3_6, .inl (cA 0, 8, .inl (tx_A (fun _ => 0)))), (u_q2_5, .inr (5, [.ref u_q4_7, .int (nI 0)])), (u_q4_7, .inl (cA 0, 8, .inl (tx_A (fun _ => 0))))] := hD
  refine lv_aload_n hx hb xd_Ed_init_15 rfl (lv_at hl 0 rfl) ?_
  refine lv_aload_n hx hb xd_Ed_init_16 rfl (lv_at hl 1 rfl) ?_
  refine va_putF (D := G) (ci := 3) (v := .ref o) (ty := .object "EditLists2$Store") (C := xc_Ed) (T := xf_Ed) (N := 5) hx hb hts xw_Ed xt_Ed xt_Ed_ok xn_Ed hown hK.1 hP hD hS 0 rfl rfl 0 (by decide) (hts _ xm_108) (fun _ h9 => h9) rfl hin rfl (by decide +kernel) rfl rfl (Nat.le_of_ble_eq_true rfl) xd_Ed_init_17 (fun H locs hP hD hS => ?_)
  have hP : va_P G xk_cl [(ed, .inr (3, [.ref o, .ref q_1, .int 0, .int 0, .int 0])), (q_1, .inr (4, [.int 0, .int 0, .ref u_q1_4, .ref u_q2_5, .int 0, .int 0])), (u_q1_4, .inr (5, [.ref u_q3_6, .int (nI 0)])), (u_q3_6, .inl (cA 0, 8, .inl (tx_A (fun _ => 0)))), (u_q2_5, .inr (5, [.ref u_q4_7, .int (nI 0)])), (u_q4_7, .inl (cA 0, 8, .inl (tx_A (fun _ => 0))))] H := hP
  have hD : va_D A [(ed, .inr (3, [.ref o, .ref q_1, .int 0, .int 0, .int 0])), (q_1, .inr (4, [.int 0, .int 0, .ref u_q1_4, .ref u_q2_5, .int 0, .int 0])), (u_q1_4, .inr (5, [.ref u_q3_6, .int (nI 0)])), (u_q3_6, .inl (cA 0, 8, .inl (tx_A (fun _ => 0)))), (u_q2_5, .inr (5, [.ref u_q4_7, .int (nI 0)])), (u_q4_7, .inl (cA 0, 8, .inl (tx_A (fun _ => 0))))] := hD
  have hP9 : va_P G xk_cl [(ed, .inr (3, [.ref o, .ref q_1, .int 0, .int 0, .int 0])), (q_1, .inr (4, [.int 0, .int 0, .ref u_q1_4, .ref u_q2_5, .int 0, .int 0])), (u_q1_4, .inr (5, [.ref u_q3_6, .int (nI 0)])), (u_q3_6, .inl (cA 0, 8, .inl (tx_A (fun _ => 0)))), (u_q2_5, .inr (5, [.ref u_q4_7, .int (nI 0)])), (u_q4_7, .inl (cA 0, 8, .inl (tx_A (fun _ => 0))))] _ := hP.sub [0, 1, 2, 3, 4, 5] rfl
  have hD9 : va_D A [(ed, .inr (3, [.ref o, .ref q_1, .int 0, .int 0, .int 0])), (q_1, .inr (4, [.int 0, .int 0, .ref u_q1_4, .ref u_q2_5, .int 0, .int 0])), (u_q1_4, .inr (5, [.ref u_q3_6, .int (nI 0)])), (u_q3_6, .inl (cA 0, 8, .inl (tx_A (fun _ => 0)))), (u_q2_5, .inr (5, [.ref u_q4_7, .int (nI 0)])), (u_q4_7, .inl (cA 0, 8, .inl (tx_A (fun _ => 0))))] := hD.sub [0, 1, 2, 3, 4, 5] (by decide) rfl
  exact W.vret hx hb hr (fun T9 ht hW => ⟨⟨(q_1, u_q1_4, u_q2_5, u_q3_6, u_q4_7), rfl, trivial, by rw [ht]; exact hP9, hD9⟩, hS.F ht⟩) hS.2.2 xd_Ed_init_20
set_option maxHeartbeats 4000000 in
set_option maxRecDepth 100000 in
theorem ct_X_init (l : Launch) (G : va_G) (cA : Nat → ClassId) (sz : Nat) (x : Nat) : Met l xy_X_init (.code xy_X_init xb_X_init 1 none :: tw_W) ({ frames := 4, cells := 22, slots := 2722, locals := 73 }) (pc_w G cA [(x, .inr (0, [.null, .null, .null, .null, .null, .null, .null, .int 0, .int 0, .int 0]))] sz [.ref x]) (va_Qv (fun u9 : Nat × Nat × Nat × Nat × Nat × Nat × Nat × Nat × Nat × Nat × Nat × Nat × Nat × Nat × Nat × Nat × Nat × Nat × Nat × Nat × Nat × Nat => match u9 with | (x1, x2, x3, x4, x5, x6, x7, x8, x9, x10, x11, x12, x13, x14, x15, x16, x17, x18, x19, x20, x21, x22) => True) (fun u9 T9 => match u9 with | (x1, x2, x3, x4, x5, x6, x7, x8, x9, x10, x11, x12, x13, x14, x15, x16, x17, x18, x19, x20, x21, x22) => at_w G (va_A [(x, .inr (0, [.null, .null, .null, .null, .null, .null, .null, .int 0, .int 0, .int 0]))] sz) [(x, .inr (0, [.ref x1, .ref x3, .ref x7, .ref x11, .ref x17, .ref x19, .ref x22, .int 0, .int 0, .int 0])), (x1, .inr (1, [.ref x2, .int (nI 0), .int (nI 0)])), (x2, .inl (cA 1, 300, .inl (tx_A (fun _ => 0)))), (x3, .inr (2, [.ref x4, .ref x5, .ref x6])), (x4, .inl (cA 0, 40, .inl (upd (fun _ => 0) 0 (nI 1)))), (x5, .inl (cA 0, 40, .inl (sp_kc (fun _ => 0)))), (x6, .inl (cA 0, 1040, .inl (fun _ => 0))), (x7, .inr (2, [.ref x8, .ref x9, .ref x10])), (x8, .inl (cA 0, 40, .inl (upd (fun _ => 0) 0 (nI 1)))), (x9, .inl (cA 0, 40, .inl (sp_kc (fun _ => 0)))), (x10, .inl (cA 0, 1040, .inl (fun _ => 0))), (x11, .inr (3, [.ref x3, .ref x12, .int 0, .int 0, .int 0])), (x12, .inr (4, [.int 0, .int 0, .ref x13, .ref x15, .int 0, .int 0])), (x13, .inr (5, [.ref x14, .int (nI 0)])), (x14, .inl (cA 0, 8, .inl (tx_A (fun _ => 0)))), (x15, .inr (5, [.ref x16, .int (nI 0)])), (x16, .inl (cA 0, 8, .inl (tx_A (fun _ => 0)))), (x17, .inr (6, [.ref x18, .int (nI 0), .int (nI 0)])), (x18, .inl (cA 3, 16, .inr (.inr (.inr (.inr (fun _ => none)))))), (x19, .inr (7, [.ref x20, .ref x21, .int (nI 0)])), (x20, .inl (cA 2, 40, .inl (mk_A (fun _ => false)))), (x21, .inl (cA 0, 40, .inl (tx_A (fun _ => 0)))), (x22, .inl (cA 0, 40, .inl (tx_A (fun _ => 0))))] T9) (va_A [(x, .inr (0, [.null, .null, .null, .null, .null, .null, .null, .int 0, .int 0, .int 0]))] sz)) 22 2722 (va_A [(x, .inr (0, [.null, .null, .null, .null, .null, .null, .null, .int 0, .int 0, .int 0]))] sz) := by
  refine Met.ofW (cc := xb_X_init) (maxL := 1) (ret := none) (by decide) rfl ?_
  intro p e s m args below meth c s₁ B hml hv
  obtain ⟨rfl, hsz, hK, hP, hD0⟩ := hv
  have hx := B.exec
  have hb := B.bytes
  have hr := B.returns
  have hts0 := atoms_spec (ws := .code xy_X_init xb_X_init 1 none :: tw_W) B.pre
  have hts : ∀ w9 ∈ tw_W, w9.before [.ref x].toArray s = true := fun w9 h9 => hts0 w9 (List.mem_cons_of_mem _ h9)
  have hown : s.vm.findClass xc_X = some m.cls := findClass_of_methodNamed B.named
  have hlocks := B.notSynchronized
  have hin : meth.name = "<init>" := (name_of_methodNamed B.named B.method).1
  subst hsz
  have hD := hD0.self (sz := s.heap.size)
  generalize hAe : va_A [(x, .inr (0, [.null, .null, .null, .null, .null, .null, .null, .int 0, .int 0, .int 0]))] s.heap.size = A at hD ⊢
  have hA : ∀ q : Nat, s.heap.size ≤ q → A q := fun q h => by rw [← hAe]; exact Or.inr h
  have hS : va_S A s.heap s.heap [] := va_S.rf
  have hP : va_P G xk_cl [(x, .inr (0, [.null, .null, .null, .null, .null, .null, .null, .int 0, .int 0, .int 0]))] s.heap := hP
  have hl := lv_entry ([.ref x]) (n := 1) (Nat.le_of_ble_eq_true rfl)
  rw [lg_entry_eq]
  generalize (lg_sl ([.ref x]) ++ List.replicate (1 - (lg_sl ([.ref x])).length) Slot.unset).toArray = ls at hl ⊢
  have hl : lv_has ls 1 [(0, .ref x)] := hl
  refine lv_aload_n hx hb xd_X_init_0 rfl (lv_at hl 0 rfl) ?_
  refine W.objInit hx hb hown (hts _ xm_21) (hts _ xm_22) (hts _ xm_23) rfl (by rw [hml]; exact hl.1) rfl xd_X_init_1 (Nat.le_of_ble_eq_true rfl) (Nat.le_of_ble_eq_true rfl) ?_
  refine W.eq (g2 := F0 m 4 ls []) rfl ?_
  refine lv_aload_n hx hb xd_X_init_4 rfl (lv_at hl 0 rfl) ?_
  refine va_new (ci := 1) (fs := [.null, .int 0, .int 0]) (C := xc_Te) (T := xf_Te) (N := 3) hx hb hts xw_Te xt_Te xt_Te_ok hown (hts _ xm_24) (hts _ xm_25) (hts _ xm_2) hK.1 hP hD hS hA rfl (fun j hj => by rcases (show j = 0 ∨ j = 1 ∨ j = 2 by omega) with rfl | rfl | rfl <;> rfl) (Nat.le_of_ble_eq_true rfl) (Nat.le_of_ble_eq_true rfl) xd_X_init_5 (fun q_1 H hP hD hS => ?_)
  have hP : va_P G xk_cl [(x, .inr (0, [.null, .null, .null, .null, .null, .null, .null, .int 0, .int 0, .int 0])), (q_1, .inr (1, [.null, .int 0, .int 0]))] H := hP
  have hD : va_D A [(x, .inr (0, [.null, .null, .null, .null, .null, .null, .null, .int 0, .int 0, .int 0])), (q_1, .inr (1, [.null, .int 0, .int 0]))] := hD
  refine W.widen (k := 1) (n := 3) (by decide) (by decide) ?_
  refine lv_dup hx hb xd_X_init_8 rfl ?_
  have hPc := hP.sub (ws' := [(q_1, .inr (1, [.null, .int 0, .int 0]))]) [1] rfl
  have hDc := hD.sub (ws' := [(q_1, .inr (1, [.null, .int 0, .int 0]))]) [1] (by decide) rfl
  have hFc := va_free (wc := [(q_1, .inr (1, [.null, .int 0, .int 0]))]) hD hS hA [1] rfl
  refine va_callv (va_runIN (As := []) (rest := [.ref q_1, .ref x]) ⟨hx, hb, hml, hown, hts⟩ (ct_Te_init l G cA H.size q_1) ⟨va_cnB 0 hts (tw_g xm_28) rfl rfl rfl (nw_m hK.2 0 rfl) (hts _ xm_2) xh_Te_init ⟨Nat.le_of_ble_eq_true rfl, Nat.le_of_ble_eq_true rfl⟩, rfl, hts _ xm_27⟩ (ps_w hK hPc hDc) rfl rfl hl.1 rfl (lv_room (Nat.le_of_ble_eq_true rfl)) xd_X_init_9 ⟨Nat.le_of_ble_eq_true rfl, Nat.le_of_ble_eq_true rfl⟩) hS (fun q _ h => hFc q h) hFc (fun u9 t9 H1 locs ht hvm q_3 hB hz1 hk1 hS => ?_)
  obtain ⟨u_q1_4, rfl⟩ : ∃ z, z = u9 := ⟨_, rfl⟩
  try dsimp only at q_3 hB
  obtain ⟨hP1, hD1⟩ := hB
  rw [ht] at hP1
  obtain ⟨hP, hD⟩ := va_join (wr := [(x, .inr (0, [.null, .null, .null, .null, .null, .null, .null, .int 0, .int 0, .int 0]))]) (w1 := [(q_1, .inr (1, [.ref u_q1_4, .int (nI 0), .int (nI 0)])), (u_q1_4, .inl (cA 1, 300, .inl (tx_A (fun _ => 0))))]) hP hD [1] [0] rfl rfl (by decide) (by decide) hk1 hFc hP1 hD1
  generalize H1 = H at hP hS ⊢
  have hP : va_P G xk_cl [(x, .inr (0, [.null, .null, .null, .null, .null, .null, .null, .int 0, .int 0, .int 0])), (q_1, .inr (1, [.ref u_q1_4, .int (nI 0), .int (nI 0)])), (u_q1_4, .inl (cA 1, 300, .inl (tx_A (fun _ => 0))))] H := hP
  have hD : va_D A [(x, .inr (0, [.null, .null, .null, .null, .null, .null, .null, .int 0, .int 0, .int 0])), (q_1, .inr (1, [.ref u_q1_4, .int (nI 0), .int (nI 0)])), (u_q1_4, .inl (cA 1, 300, .inl (tx_A (fun _ => 0))))] := hD
  refine W.widen (k := 2) (n := 303) (by decide) (by decide) ?_
  refine va_putF (D := G) (ci := 0) (v := .ref q_1) (ty := .object "EditLists2$Text") (C := xc_X) (T := xf_X) (N := 10) hx hb hts xw_X xt_X xt_X_ok xn_X hown hK.1 hP hD hS 0 rfl rfl 0 (by decide) (hts _ xm_159) (fun _ h9 => h9) rfl hin rfl (by decide +kernel) rfl rfl (Nat.le_of_ble_eq_true rfl) xd_X_init_12 (fun H locs hP hD hS => ?_)
  have hP : va_P G xk_cl [(x, .inr (0, [.ref q_1, .null, .null, .null, .null, .null, .null, .int 0, .int 0, .int 0])), (q_1, .inr (1, [.ref u_q1_4, .int (nI 0), .int (nI 0)])), (u_q1_4, .inl (cA 1, 300, .inl (tx_A (fun _ => 0))))] H := hP
  have hD : va_D A [(x, .inr (0, [.ref q_1, .null, .null, .null, .null, .null, .null, .int 0, .int 0, .int 0])), (q_1, .inr (1, [.ref u_q1_4, .int (nI 0), .int (nI 0)])), (u_q1_4, .inl (cA 1, 300, .inl (tx_A (fun _ => 0))))] := hD
  refine lv_aload_n hx hb xd_X_init_15 rfl (lv_at hl 0 rfl) ?_
  refine va_new (ci := 2) (fs := [.null, .null, .null]) (C := xc_St) (T := xf_St) (N := 3) hx hb hts xw_St xt_St xt_St_ok hown (hts _ xm_41) (hts _ xm_42) (hts _ xm_3) hK.1 hP hD hS hA rfl (fun j hj => by rcases (show j = 0 ∨ j = 1 ∨ j = 2 by omega) with rfl | rfl | rfl <;> rfl) (Nat.le_of_ble_eq_true rfl) (Nat.le_of_ble_eq_true rfl) xd_X_init_16 (fun q_5 H hP hD hS => ?_)
  have hP : va_P G xk_cl [(x, .inr (0, [.ref q_1, .null, .null, .null, .null, .null, .null, .int 0, .int 0, .int 0])), (q_1, .inr (1, [.ref u_q1_4, .int (nI 0), .int (nI 0)])), (u_q1_4, .inl (cA 1, 300, .inl (tx_A (fun _ => 0)))), (q_5, .inr (2, [.null, .null, .null]))] H := hP
  have hD : va_D A [(x, .inr (0, [.ref q_1, .null, .null, .null, .null, .null, .null, .int 0, .int 0, .int 0])), (q_1, .inr (1, [.ref u_q1_4, .int (nI 0), .int (nI 0)])), (u_q1_4, .inl (cA 1, 300, .inl (tx_A (fun _ => 0)))), (q_5, .inr (2, [.null, .null, .null]))] := hD
  refine W.widen (k := 3) (n := 306) (by decide) (by decide) ?_
  refine lv_dup hx hb xd_X_init_19 rfl ?_
  have hPc := hP.sub (ws' := [(q_5, .inr (2, [.null, .null, .null]))]) [3] rfl
  have hDc := hD.sub (ws' := [(q_5, .inr (2, [.null, .null, .null]))]) [3] (by decide) rfl
  have hFc := va_free (wc := [(q_5, .inr (2, [.null, .null, .null]))]) hD hS hA [3] rfl
  refine va_callv (va_runI (As := []) (rest := [.ref q_5, .ref x]) ⟨hx, hb, hml, hown, hts⟩ (ct_St_init l G cA H.size q_5) (cwI 0 hts (tw_g xm_45) rfl rfl rfl (hts _ xm_3) (hts _ xm_43) (hts _ xm_44) rfl xh_St_init ⟨Nat.le_of_ble_eq_true rfl, Nat.le_of_ble_eq_true rfl⟩) (ps_w hK hPc hDc) rfl rfl hl.1 rfl (lv_room (Nat.le_of_ble_eq_true rfl)) xd_X_init_20 ⟨Nat.le_of_ble_eq_true rfl, Nat.le_of_ble_eq_true rfl⟩) hS (fun q _ h => hFc q h) hFc (fun u9 t9 H1 locs ht hvm q_7 hB hz1 hk1 hS => ?_)
  obtain ⟨u_q1_8, u_q2_9, u_q3_10⟩ := u9
  try dsimp only at q_7 hB
  obtain ⟨hP1, hD1⟩ := hB
  rw [ht] at hP1
  obtain ⟨hP, hD⟩ := va_join (wr := [(x, .inr (0, [.ref q_1, .null, .null, .null, .null, .null, .null, .int 0, .int 0, .int 0])), (q_1, .inr (1, [.ref u_q1_4, .int (nI 0), .int (nI 0)])), (u_q1_4, .inl (cA 1, 300, .inl (tx_A (fun _ => 0))))]) (w1 := [(q_5, .inr (2, [.ref u_q1_8, .ref u_q2_9, .ref u_q3_10])), (u_q1_8, .inl (cA 0, 40, .inl (upd (fun _ => 0) 0 (nI 1)))), (u_q2_9, .inl (cA 0, 40, .inl (sp_kc (fun _ => 0)))), (u_q3_10, .inl (cA 0, 1040, .inl (fun _ => 0)))]) hP hD [3] [0, 1, 2] rfl rfl (by decide) (by decide) hk1 hFc hP1 hD1
  generalize H1 = H at hP hS ⊢
  have hP : va_P G xk_cl [(x, .inr (0, [.ref q_1, .null, .null, .null, .null, .null, .null, .int 0, .int 0, .int 0])), (q_1, .inr (1, [.ref u_q1_4, .int (nI 0), .int (nI 0)])), (u_q1_4, .inl (cA 1, 300, .inl (tx_A (fun _ => 0)))), (q_5, .inr (2, [.ref u_q1_8, .ref u_q2_9, .ref u_q3_10])), (u_q1_8, .inl (cA 0, 40, .inl (upd (fun _ => 0) 0 (nI 1)))), (u_q2_9, .inl (cA 0, 40, .inl (sp_kc (fun _ => 0)))), (u_q3_10, .inl (cA 0, 1040, .inl (fun _ => 0)))] H := hP
  have hD : va_D A [(x, .inr (0, [.ref q_1, .null, .null, .null, .null, .null, .null, .int 0, .int 0, .int 0])), (q_1, .inr (1, [.ref u_q1_4, .int (nI 0), .int (nI 0)])), (u_q1_4, .inl (cA 1, 300, .inl (tx_A (fun _ => 0)))), (q_5, .inr (2, [.ref u_q1_8, .ref u_q2_9, .ref u_q3_10])), (u_q1_8, .inl (cA 0, 40, .inl (upd (fun _ => 0) 0 (nI 1)))), (u_q2_9, .inl (cA 0, 40, .inl (sp_kc (fun _ => 0)))), (u_q3_10, .inl (cA 0, 1040, .inl (fun _ => 0)))] := hD
  refine W.widen (k := 6) (n := 1426) (by decide) (by decide) ?_
  refine va_putF (D := G) (ci := 0) (v := .ref q_5) (ty := .object "EditLists2$Store") (C := xc_X) (T := xf_X) (N := 10) hx hb hts xw_X xt_X xt_X_ok xn_X hown hK.1 hP hD hS 0 rfl rfl 1 (by decide) (hts _ xm_160) (fun _ h9 => h9) rfl hin rfl (by decide +kernel) rfl rfl (Nat.le_of_ble_eq_true rfl) xd_X_init_23 (fun H locs hP hD hS => ?_)
  have hP : va_P G xk_cl [(x, .inr (0, [.ref q_1, .ref q_5, .null, .null, .null, .null, .null, .int 0, .int 0, .int 0])), (q_1, .inr (1, [.ref u_q1_4, .int (nI 0), .int (nI 0)])), (u_q1_4, .inl (cA 1, 300, .inl (tx_A (fun _ => 0)))), (q_5, .inr (2, [.ref u_q1_8, .ref u_q2_9, .ref u_q3_10])), (u_q1_8, .inl (cA 0, 40, .inl (upd (fun _ => 0) 0 (nI 1)))), (u_q2_9, .inl (cA 0, 40, .inl (sp_kc (fun _ => 0)))), (u_q3_10, .inl (cA 0, 1040, .inl (fun _ => 0)))] H := hP
  have hD : va_D A [(x, .inr (0, [.ref q_1, .ref q_5, .null, .null, .null, .null, .null, .int 0, .int 0, .int 0])), (q_1, .inr (1, [.ref u_q1_4, .int (nI 0), .int (nI 0)])), (u_q1_4, .inl (cA 1, 300, .inl (tx_A (fun _ => 0)))), (q_5, .inr (2, [.ref u_q1_8, .ref u_q2_9, .ref u_q3_10])), (u_q1_8, .inl (cA 0, 40, .inl (upd (fun _ => 0) 0 (nI 1)))), (u_q2_9, .inl (cA 0, 40, .inl (sp_kc (fun _ => 0)))), (u_q3_10, .inl (cA 0, 1040, .inl (fun _ => 0)))] := hD
  refine lv_aload_n hx hb xd_X_init_26 rfl (lv_at hl 0 rfl) ?_
  refine va_new (ci := 2) (fs := [.null, .null, .null]) (C := xc_St) (T := xf_St) (N := 3) hx hb hts xw_St xt_St xt_St_ok hown (hts _ xm_41) (hts _ xm_42) (hts _ xm_3) hK.1 hP hD hS hA rfl (fun j hj => by rcases (show j = 0 ∨ j = 1 ∨ j = 2 by omega) with rfl | rfl | rfl <;> rfl) (Nat.le_of_ble_eq_true rfl) (Nat.le_of_ble_eq_true rfl) xd_X_init_27 (fun q_11 H hP hD hS => ?_)
  have hP : va_P G xk_cl [(x, .inr (0, [.ref q_1, .ref q_5, .null, .null, .null, .null, .null, .int 0, .int 0, .int 0])), (q_1, .inr (1, [.ref u_q1_4, .int (nI 0), .int (nI 0)])), (u_q1_4, .inl (cA 1, 300, .inl (tx_A (fun _ => 0)))), (q_5, .inr (2, [.ref u_q1_8, .ref u_q2_9, .ref u_q3_10])), (u_q1_8, .inl (cA 0, 40, .inl (upd (fun _ => 0) 0 (nI 1)))), (u_q2_9, .inl (cA 0, 40, .inl (sp_kc (fun _ => 0)))), (u_q3_10, .inl (cA 0, 1040, .inl (fun _ => 0))), (q_11, .inr (2, [.null, .null, .null]))] H := hP
  have hD : va_D A [(x, .inr (0, [.ref q_1, .ref q_5, .null, .null, .null, .null, .null, .int 0, .int 0, .int 0])), (q_1, .inr (1, [.ref u_q1_4, .int (nI 0), .int (nI 0)])), (u_q1_4, .inl (cA 1, 300, .inl (tx_A (fun _ => 0)))), (q_5, .inr (2, [.ref u_q1_8, .ref u_q2_9, .ref u_q3_10])), (u_q1_8, .inl (cA 0, 40, .inl (upd (fun _ => 0) 0 (nI 1)))), (u_q2_9, .inl (cA 0, 40, .inl (sp_kc (fun _ => 0)))), (u_q3_10, .inl (cA 0, 1040, .inl (fun _ => 0))), (q_11, .inr (2, [.null, .null, .null]))] := hD
  refine W.widen (k := 7) (n := 1429) (by decide) (by decide) ?_
  refine lv_dup hx hb xd_X_init_30 rfl ?_
  have hPc := hP.sub (ws' := [(q_11, .inr (2, [.null, .null, .null]))]) [7] rfl
  have hDc := hD.sub (ws' := [(q_11, .inr (2, [.null, .null, .null]))]) [7] (by decide) rfl
  have hFc := va_free (wc := [(q_11, .inr (2, [.null, .null, .null]))]) hD hS hA [7] rfl
  refine va_callv (va_runI (As := []) (rest := [.ref q_11, .ref x]) ⟨hx, hb, hml, hown, hts⟩ (ct_St_init l G cA H.size q_11) (cwI 0 hts (tw_g xm_45) rfl rfl rfl (hts _ xm_3) (hts _ xm_43) (hts _ xm_44) rfl xh_St_init ⟨Nat.le_of_ble_eq_true rfl, Nat.le_of_ble_eq_true rfl⟩) (ps_w hK hPc hDc) rfl rfl hl.1 rfl (lv_room (Nat.le_of_ble_eq_true rfl)) xd_X_init_31 ⟨Nat.le_of_ble_eq_true rfl, Nat.le_of_ble_eq_true rfl⟩) hS (fun q _ h => hFc q h) hFc (fun u9 t9 H1 locs ht hvm q_13 hB hz1 hk1 hS => ?_)
  obtain ⟨u_q1_14, u_q2_15, u_q3_16⟩ := u9
  try dsimp only at q_13 hB
  obtain ⟨hP1, hD1⟩ := hB
  rw [ht] at hP1
  obtain ⟨hP, hD⟩ := va_join (wr := [(x, .inr (0, [.ref q_1, .ref q_5, .null, .null, .null, .null, .null, .int 0, .int 0, .int 0])), (q_1, .inr (1, [.ref u_q1_4, .int (nI 0), .int (nI 0)])), (u_q1_4, .inl (cA 1, 300, .inl (tx_A (fun _ => 0)))), (q_5, .inr (2, [.ref u_q1_8, .ref u_q2_9, .ref u_q3_10])), (u_q1_8, .inl (cA 0, 40, .inl (upd (fun _ => 0) 0 (nI 1)))), (u_q2_9, .inl (cA 0, 40, .inl (sp_kc (fun _ => 0)))), (u_q3_10, .inl (cA 0, 1040, .inl (fun _ => 0)))]) (w1 := [(q_11, .inr (2, [.ref u_q1_14, .ref u_q2_15, .ref u_q3_16])), (u_q1_14, .inl (cA 0, 40, .inl (upd (fun _ => 0) 0 (nI 1)))), (u_q2_15, .inl (cA 0, 40, .inl (sp_kc (fun _ => 0)))), (u_q3_16, .inl (cA 0, 1040, .inl (fun _ => 0)))]) hP hD [7] [0, 1, 2, 3, 4, 5, 6] rfl rfl (by decide) (by decide) hk1 hFc hP1 hD1
  generalize H1 = H at hP hS ⊢
  have hP : va_P G xk_cl [(x, .inr (0, [.ref q_1, .ref q_5, .null, .null, .null, .null, .null, .int 0, .int 0, .int 0])), (q_1, .inr (1, [.ref u_q1_4, .int (nI 0), .int (nI 0)])), (u_q1_4, .inl (cA 1, 300, .inl (tx_A (fun _ => 0)))), (q_5, .inr (2, [.ref u_q1_8, .ref u_q2_9, .ref u_q3_10])), (u_q1_8, .inl (cA 0, 40, .inl (upd (fun _ => 0) 0 (nI 1)))), (u_q2_9, .inl (cA 0, 40, .inl (sp_kc (fun _ => 0)))), (u_q3_10, .inl (cA 0, 1040, .inl (fun _ => 0))), (q_11, .inr (2, [.ref u_q1_14, .ref u_q2_15, .ref u_q3_16])), (u_q1_14, .inl (cA 0, 40, .inl (upd (fun _ => 0) 0 (nI 1)))), (u_q2_15, .inl (cA 0, 40, .inl (sp_kc (fun _ => 0)))), (u_q3_16, .inl (cA 0, 1040, .inl (fun _ => 0)))] H := hP
  have hD : va_D A [(x, .inr (0, [.ref q_1, .ref q_5, .null, .null, .null, .null, .null, .int 0, .int 0, .int 0])), (q_1, .inr (1, [.ref u_q1_4, .int (nI 0), .int (nI 0)])), (u_q1_4, .inl (cA 1, 300, .inl (tx_A (fun _ => 0)))), (q_5, .inr (2, [.ref u_q1_8, .ref u_q2_9, .ref u_q3_10])), (u_q1_8, .inl (cA 0, 40, .inl (upd (fun _ => 0) 0 (nI 1)))), (u_q2_9, .inl (cA 0, 40, .inl (sp_kc (fun _ => 0)))), (u_q3_10, .inl (cA 0, 1040, .inl (fun _ => 0))), (q_11, .inr (2, [.ref u_q1_14, .ref u_q2_15, .ref u_q3_16])), (u_q1_14, .inl (cA 0, 40, .inl (upd (fun _ => 0) 0 (nI 1)))), (u_q2_15, .inl (cA 0, 40, .inl (sp_kc (fun _ => 0)))), (u_q3_16, .inl (cA 0, 1040, .inl (fun _ => 0)))] := hD
  refine W.widen (k := 10) (n := 2549) (by decide) (by decide) ?_
  refine va_putF (D := G) (ci := 0) (v := .ref q_11) (ty := .object "EditLists2$Store") (C := xc_X) (T := xf_X) (N := 10) hx hb hts xw_X xt_X xt_X_ok xn_X hown hK.1 hP hD hS 0 rfl rfl 2 (by decide) (hts _ xm_161) (fun _ h9 => h9) rfl hin rfl (by decide +kernel) rfl rfl (Nat.le_of_ble_eq_true rfl) xd_X_init_34 (fun H locs hP hD hS => ?_)
  have hP : va_P G xk_cl [(x, .inr (0, [.ref q_1, .ref q_5, .ref q_11, .null, .null, .null, .null, .int 0, .int 0, .int 0])), (q_1, .inr (1, [.ref u_q1_4, .int (nI 0), .int (nI 0)])), (u_q1_4, .inl (cA 1, 300, .inl (tx_A (fun _ => 0)))), (q_5, .inr (2, [.ref u_q1_8, .ref u_q2_9, .ref u_q3_10])), (u_q1_8, .inl (cA 0, 40, .inl (upd (fun _ => 0) 0 (nI 1)))), (u_q2_9, .inl (cA 0, 40, .inl (sp_kc (fun _ => 0)))), (u_q3_10, .inl (cA 0, 1040, .inl (fun _ => 0))), (q_11, .inr (2, [.ref u_q1_14, .ref u_q2_15, .ref u_q3_16])), (u_q1_14, .inl (cA 0, 40, .inl (upd (fun _ => 0) 0 (nI 1)))), (u_q2_15, .inl (cA 0, 40, .inl (sp_kc (fun _ => 0)))), (u_q3_16, .inl (cA 0, 1040, .inl (fun _ => 0)))] H := hP
  have hD : va_D A [(x, .inr (0, [.ref q_1, .ref q_5, .ref q_11, .null, .null, .null, .null, .int 0, .int 0, .int 0])), (q_1, .inr (1, [.ref u_q1_4, .int (nI 0), .int (nI 0)])), (u_q1_4, .inl (cA 1, 300, .inl (tx_A (fun _ => 0)))), (q_5, .inr (2, [.ref u_q1_8, .ref u_q2_9, .ref u_q3_10])), (u_q1_8, .inl (cA 0, 40, .inl (upd (fun _ => 0) 0 (nI 1)))), (u_q2_9, .inl (cA 0, 40, .inl (sp_kc (fun _ => 0)))), (u_q3_10, .inl (cA 0, 1040, .inl (fun _ => 0))), (q_11, .inr (2, [.ref u_q1_14, .ref u_q2_15, .ref u_q3_16])), (u_q1_14, .inl (cA 0, 40, .inl (upd (fun _ => 0) 0 (nI 1)))), (u_q2_15, .inl (cA 0, 40, .inl (sp_kc (fun _ => 0)))), (u_q3_16, .inl (cA 0, 1040, .inl (fun _ => 0)))] := hD
  refine lv_aload_n hx hb xd_X_init_37 rfl (lv_at hl 0 rfl) ?_
  refine va_new (ci := 3) (fs := [.null, .null, .int 0, .int 0, .int 0]) (C := xc_Ed) (T := xf_Ed) (N := 5) hx hb hts xw_Ed xt_Ed xt_Ed_ok hown (hts _ xm_58) (hts _ xm_59) (hts _ xm_4) hK.1 hP hD hS hA rfl (fun j hj => by rcases (show j = 0 ∨ j = 1 ∨ j = 2 ∨ j = 3 ∨ j = 4 by omega) with rfl | rfl | rfl | rfl | rfl <;> rfl) (Nat.le_of_ble_eq_true rfl) (Nat.le_of_ble_eq_true rfl) xd_X_init_38 (fun q_17 H hP hD hS => ?_)
  have hP : va_P G xk_cl [(x, .inr (0, [.ref q_1, .ref q_5, .ref q_11, .null, .null, .null, .null, .int 0, .int 0, .int 0])), (q_1, .inr (1, [.ref u_q1_4, .int (nI 0), .int (nI 0)])), (u_q1_4, .inl (cA 1, 300, .inl (tx_A (fun _ => 0)))), (q_5, .inr (2, [.ref u_q1_8, .ref u_q2_9, .ref u_q3_10])), (u_q1_8, .inl (cA 0, 40, .inl (upd (fun _ => 0) 0 (nI 1)))), (u_q2_9, .inl (cA 0, 40, .inl (sp_kc (fun _ => 0)))), (u_q3_10, .inl (cA 0, 1040, .inl (fun _ => 0))), (q_11, .inr (2, [.ref u_q1_14, .ref u_q2_15, .ref u_q3_16])), (u_q1_14, .inl (cA 0, 40, .inl (upd (fun _ => 0) 0 (nI 1)))), (u_q2_15, .inl (cA 0, 40, .inl (sp_kc (fun _ => 0)))), (u_q3_16, .inl (cA 0, 1040, .inl (fun _ => 0))), (q_17, .inr (3, [.null, .null, .int 0, .int 0, .int 0]))] H := hP
  have hD : va_D A [(x, .inr (0, [.ref q_1, .ref q_5, .ref q_11, .null, .null, .null, .null, .int 0, .int 0, .int 0])), (q_1, .inr (1, [.ref u_q1_4, .int (nI 0), .int (nI 0)])), (u_q1_4, .inl (cA 1, 300, .inl (tx_A (fun _ => 0)))), (q_5, .inr (2, [.ref u_q1_8, .ref u_q2_9, .ref u_q3_10])), (u_q1_8, .inl (cA 0, 40, .inl (upd (fun _ => 0) 0 (nI 1)))), (u_q2_9, .inl (cA 0, 40, .inl (sp_kc (fun _ => 0)))), (u_q3_10, .inl (cA 0, 1040, .inl (fun _ => 0))), (q_11, .inr (2, [.ref u_q1_14, .ref u_q2_15, .ref u_q3_16])), (u_q1_14, .inl (cA 0, 40, .inl (upd (fun _ => 0) 0 (nI 1)))), (u_q2_15, .inl (cA 0, 40, .inl (sp_kc (fun _ => 0)))), (u_q3_16, .inl (cA 0, 1040, .inl (fun _ => 0))), (q_17, .inr (3, [.null, .null, .int 0, .int 0, .int 0]))] := hD
  refine W.widen (k := 11) (n := 2554) (by decide) (by decide) ?_
  refine lv_dup hx hb xd_X_init_41 rfl ?_
  refine lv_aload_n hx hb xd_X_init_42 rfl (lv_at hl 0 rfl) ?_
  refine va_get (D := G) (ci := 0) (v := .ref q_5) (C := xc_X) (T := xf_X) (N := 10) hx hb hts xw_X hown hK.1 hP 0 rfl rfl 1 (by decide) (hts _ xm_160) (fun _ h9 => h9) rfl xd_X_init_43 ?_
  have hPc := hP.sub (ws' := [(q_17, .inr (3, [.null, .null, .int 0, .int 0, .int 0]))]) [11] rfl
  have hDc := hD.sub (ws' := [(q_17, .inr (3, [.null, .null, .int 0, .int 0, .int 0]))]) [11] (by decide) rfl
  have hFc := va_free (wc := [(q_17, .inr (3, [.null, .null, .int 0, .int 0, .int 0]))]) hD hS hA [11] rfl
  refine va_callv (va_runI (As := [.ref q_5]) (rest := [.ref q_17, .ref x]) ⟨hx, hb, hml, hown, hts⟩ (ct_Ed_init l G cA H.size q_17 q_5) (cwI 1 hts (tw_g xm_62) rfl rfl rfl (hts _ xm_4) (hts _ xm_60) (hts _ xm_61) rfl xh_Ed_init ⟨Nat.le_of_ble_eq_true rfl, Nat.le_of_ble_eq_true rfl⟩) (ps_w hK hPc hDc) rfl rfl hl.1 rfl (lv_room (Nat.le_of_ble_eq_true rfl)) xd_X_init_46 ⟨Nat.le_of_ble_eq_true rfl, Nat.le_of_ble_eq_true rfl⟩) hS (fun q _ h => hFc q h) hFc (fun u9 t9 H1 locs ht hvm q_19 hB hz1 hk1 hS => ?_)
  obtain ⟨u_q0_20, u_q1_21, u_q2_22, u_q3_23, u_q4_24⟩ := u9
  try dsimp only at q_19 hB
  obtain ⟨hP1, hD1⟩ := hB
  rw [ht] at hP1
  obtain ⟨hP, hD⟩ := va_join (wr := [(x, .inr (0, [.ref q_1, .ref q_5, .ref q_11, .null, .null, .null, .null, .int 0, .int 0, .int 0])), (q_1, .inr (1, [.ref u_q1_4, .int (nI 0), .int (nI 0)])), (u_q1_4, .inl (cA 1, 300, .inl (tx_A (fun _ => 0)))), (q_5, .inr (2, [.ref u_q1_8, .ref u_q2_9, .ref u_q3_10])), (u_q1_8, .inl (cA 0, 40, .inl (upd (fun _ => 0) 0 (nI 1)))), (u_q2_9, .inl (cA 0, 40, .inl (sp_kc (fun _ => 0)))), (u_q3_10, .inl (cA 0, 1040, .inl (fun _ => 0))), (q_11, .inr (2, [.ref u_q1_14, .ref u_q2_15, .ref u_q3_16])), (u_q1_14, .inl (cA 0, 40, .inl (upd (fun _ => 0) 0 (nI 1)))), (u_q2_15, .inl (cA 0, 40, .inl (sp_kc (fun _ => 0)))), (u_q3_16, .inl (cA 0, 1040, .inl (fun _ => 0)))]) (w1 := [(q_17, .inr (3, [.ref q_5, .ref u_q0_20, .int 0, .int 0, .int 0])), (u_q0_20, .inr (4, [.int 0, .int 0, .ref u_q1_21, .ref u_q2_22, .int 0, .int 0])), (u_q1_21, .inr (5, [.ref u_q3_23, .int (nI 0)])), (u_q3_23, .inl (cA 0, 8, .inl (tx_A (fun _ => 0)))), (u_q2_22, .inr (5, [.ref u_q4_24, .int (nI 0)])), (u_q4_24, .inl (cA 0, 8, .inl (tx_A (fun _ => 0))))]) hP hD [11] [0, 1, 2, 3, 4, 5, 6, 7, 8, 9, 10] rfl rfl (by decide) (by decide) hk1 hFc hP1 hD1
  generalize H1 = H at hP hS ⊢
  have hP : va_P G xk_cl [(x, .inr (0, [.ref q_1, .ref q_5, .ref q_11, .null, .null, .null, .null, .int 0, .int 0, .int 0])), (q_1, .inr (1, [.ref u_q1_4, .int (nI 0), .int (nI 0)])), (u_q1_4, .inl (cA 1, 300, .inl (tx_A (fun _ => 0)))), (q_5, .inr (2, [.ref u_q1_8, .ref u_q2_9, .ref u_q3_10])), (u_q1_8, .inl (cA 0, 40, .inl (upd (fun _ => 0) 0 (nI 1)))), (u_q2_9, .inl (cA 0, 40, .inl (sp_kc (fun _ => 0)))), (u_q3_10, .inl (cA 0, 1040, .inl (fun _ => 0))), (q_11, .inr (2, [.ref u_q1_14, .ref u_q2_15, .ref u_q3_16])), (u_q1_14, .inl (cA 0, 40, .inl (upd (fun _ => 0) 0 (nI 1)))), (u_q2_15, .inl (cA 0, 40, .inl (sp_kc (fun _ => 0)))), (u_q3_16, .inl (cA 0, 1040, .inl (fun _ => 0))), (q_17, .inr (3, [.ref q_5, .ref u_q0_20, .int 0, .int 0, .int 0])), (u_q0_20, .inr (4, [.int 0, .int 0, .ref u_q1_21, .ref u_q2_22, .int 0, .int 0])), (u_q1_21, .inr (5, [.ref u_q3_23, .int (nI 0)])), (u_q3_23, .inl (cA 0, 8, .inl (tx_A (fun _ => 0)))), (u_q2_22, .inr (5, [.ref u_q4_24, .int (nI 0)])), (u_q4_24, .inl (cA 0, 8, .inl (tx_A (fun _ => 0))))] H := hP
  have hD : va_D A [(x, .inr (0, [.ref q_1, .ref q_5, .ref q_11, .null, .null, .null, .null, .int 0, .int 0, .int 0])), (q_1, .inr (1, [.ref u_q1_4, .int (nI 0), .int (nI 0)])), (u_q1_4, .inl (cA 1, 300, .inl (tx_A (fun _ => 0)))), (q_5, .inr (2, [.ref u_q1_8, .ref u_q2_9, .ref u_q3_10])), (u_q1_8, .inl (cA 0, 40, .inl (upd (fun _ => 0) 0 (nI 1)))), (u_q2_9, .inl (cA 0, 40, .inl (sp_kc (fun _ => 0)))), (u_q3_10, .inl (cA 0, 1040, .inl (fun _ => 0))), (q_11, .inr (2, [.ref u_q1_14, .ref u_q2_15, .ref u_q3_16])), (u_q1_14, .inl (cA 0, 40, .inl (upd (fun _ => 0) 0 (nI 1)))), (u_q2_15, .inl (cA 0, 40, .inl (sp_kc (fun _ => 0)))), (u_q3_16, .inl (cA 0, 1040, .inl (fun _ => 0))), (q_17, .inr (3, [.ref q_5, .ref u_q0_20, .int 0, .int 0, .int 0])), (u_q0_20, .inr (4, [.int 0, .int 0, .ref u_q1_21, .ref u_q2_22, .int 0, .int 0])), (u_q1_21, .inr (5, [.ref u_q3_23, .int (nI 0)])), (u_q3_23, .inl (cA 0, 8, .inl (tx_A (fun _ => 0)))), (u_q2_22, .inr (5, [.ref u_q4_24, .int (nI 0)])), (u_q4_24, .inl (cA 0, 8, .inl (tx_A (fun _ => 0))))] := hD
  refine W.widen (k := 16) (n := 2580) (by decide) (by decide) ?_
  refine va_putF (D := G) (ci := 0) (v := .ref q_17) (ty := .object "EditLists2$Editor") (C := xc_X) (T := xf_X) (N := 10) hx hb hts xw_X xt_X xt_X_ok xn_X hown hK.1 hP hD hS 0 rfl rfl 3 (by decide) (hts _ xm_162) (fun _ h9 => h9) rfl hin rfl (by decide +kernel) rfl rfl (Nat.le_of_ble_eq_true rfl) xd_X_init_49 (fun H locs hP hD hS => ?_)
  have hP : va_P G xk_cl [(x, .inr (0, [.ref q_1, .ref q_5, .ref q_11, .ref q_17, .null, .null, .null, .int 0, .int 0, .int 0])), (q_1, .inr (1, [.ref u_q1_4, .int (nI 0), .int (nI 0)])), (u_q1_4, .inl (cA 1, 300, .inl (tx_A (fun _ => 0)))), (q_5, .inr (2, [.ref u_q1_8, .ref u_q2_9, .ref u_q3_10])), (u_q1_8, .inl (cA 0, 40, .inl (upd (fun _ => 0) 0 (nI 1)))), (u_q2_9, .inl (cA 0, 40, .inl (sp_kc (fun _ => 0)))), (u_q3_10, .inl (cA 0, 1040, .inl (fun _ => 0))), (q_11, .inr (2, [.ref u_q1_14, .ref u_q2_15, .ref u_q3_16])), (u_q1_14, .inl (cA 0, 40, .inl (upd (fun _ => 0) 0 (nI 1)))), (u_q2_15, .inl (cA 0, 40, .inl (sp_kc (fun _ => 0)))), (u_q3_16, .inl (cA 0, 1040, .inl (fun _ => 0))), (q_17, .inr (3, [.ref q_5, .ref u_q0_20, .int 0, .int 0, .int 0])), (u_q0_20, .inr (4, [.int 0, .int 0, .ref u_q1_21, .ref u_q2_22, .int 0, .int 0])), (u_q1_21, .inr (5, [.ref u_q3_23, .int (nI 0)])), (u_q3_23, .inl (cA 0, 8, .inl (tx_A (fun _ => 0)))), (u_q2_22, .inr (5, [.ref u_q4_24, .int (nI 0)])), (u_q4_24, .inl (cA 0, 8, .inl (tx_A (fun _ => 0))))] H := hP
  have hD : va_D A [(x, .inr (0, [.ref q_1, .ref q_5, .ref q_11, .ref q_17, .null, .null, .null, .int 0, .int 0, .int 0])), (q_1, .inr (1, [.ref u_q1_4, .int (nI 0), .int (nI 0)])), (u_q1_4, .inl (cA 1, 300, .inl (tx_A (fun _ => 0)))), (q_5, .inr (2, [.ref u_q1_8, .ref u_q2_9, .ref u_q3_10])), (u_q1_8, .inl (cA 0, 40, .inl (upd (fun _ => 0) 0 (nI 1)))), (u_q2_9, .inl (cA 0, 40, .inl (sp_kc (fun _ => 0)))), (u_q3_10, .inl (cA 0, 1040, .inl (fun _ => 0))), (q_11, .inr (2, [.ref u_q1_14, .ref u_q2_15, .ref u_q3_16])), (u_q1_14, .inl (cA 0, 40, .inl (upd (fun _ => 0) 0 (nI 1)))), (u_q2_15, .inl (cA 0, 40, .inl (sp_kc (fun _ => 0)))), (u_q3_16, .inl (cA 0, 1040, .inl (fun _ => 0))), (q_17, .inr (3, [.ref q_5, .ref u_q0_20, .int 0, .int 0, .int 0])), (u_q0_20, .inr (4, [.int 0, .int 0, .ref u_q1_21, .ref u_q2_22, .int 0, .int 0])), (u_q1_21, .inr (5, [.ref u_q3_23, .int (nI 0)])), (u_q3_23, .inl (cA 0, 8, .inl (tx_A (fun _ => 0)))), (u_q2_22, .inr (5, [.ref u_q4_24, .int (nI 0)])), (u_q4_24, .inl (cA 0, 8, .inl (tx_A (fun _ => 0))))] := hD
  refine lv_aload_n hx hb xd_X_init_52 rfl (lv_at hl 0 rfl) ?_
  refine va_new (ci := 6) (fs := [.null, .int 0, .int 0]) (C := xc_Hi) (T := xf_Hi) (N := 3) hx hb hts xw_Hi xt_Hi xt_Hi_ok hown (hts _ xm_124) (hts _ xm_125) (hts _ xm_7) hK.1 hP hD hS hA rfl (fun j hj => by rcases (show j = 0 ∨ j = 1 ∨ j = 2 by omega) with rfl | rfl | rfl <;> rfl) (Nat.le_of_ble_eq_true rfl) (Nat.le_of_ble_eq_true rfl) xd_X_init_53 (fun q_25 H hP hD hS => ?_)
  have hP : va_P G xk_cl [(x, .inr (0, [.ref q_1, .ref q_5, .ref q_11, .ref q_17, .null, .null, .null, .int 0, .int 0, .int 0])), (q_1, .inr (1, [.ref u_q1_4, .int (nI 0), .int (nI 0)])), (u_q1_4, .inl (cA 1, 300, .inl (tx_A (fun _ => 0)))), (q_5, .inr (2, [.ref u_q1_8, .ref u_q2_9, .ref u_q3_10])), (u_q1_8, .inl (cA 0, 40, .inl (upd (fun _ => 0) 0 (nI 1)))), (u_q2_9, .inl (cA 0, 40, .inl (sp_kc (fun _ => 0)))), (u_q3_10, .inl (cA 0, 1040, .inl (fun _ => 0))), (q_11, .inr (2, [.ref u_q1_14, .ref u_q2_15, .ref u_q3_16])), (u_q1_14, .inl (cA 0, 40, .inl (upd (fun _ => 0) 0 (nI 1)))), (u_q2_15, .inl (cA 0, 40, .inl (sp_kc (fun _ => 0)))), (u_q3_16, .inl (cA 0, 1040, .inl (fun _ => 0))), (q_17, .inr (3, [.ref q_5, .ref u_q0_20, .int 0, .int 0, .int 0])), (u_q0_20, .inr (4, [.int 0, .int 0, .ref u_q1_21, .ref u_q2_22, .int 0, .int 0])), (u_q1_21, .inr (5, [.ref u_q3_23, .int (nI 0)])), (u_q3_23, .inl (cA 0, 8, .inl (tx_A (fun _ => 0)))), (u_q2_22, .inr (5, [.ref u_q4_24, .int (nI 0)])), (u_q4_24, .inl (cA 0, 8, .inl (tx_A (fun _ => 0)))), (q_25, .inr (6, [.null, .int 0, .int 0]))] H := hP
  have hD : va_D A [(x, .inr (0, [.ref q_1, .ref q_5, .ref q_11, .ref q_17, .null, .null, .null, .int 0, .int 0, .int 0])), (q_1, .inr (1, [.ref u_q1_4, .int (nI 0), .int (nI 0)])), (u_q1_4, .inl (cA 1, 300, .inl (tx_A (fun _ => 0)))), (q_5, .inr (2, [.ref u_q1_8, .ref u_q2_9, .ref u_q3_10])), (u_q1_8, .inl (cA 0, 40, .inl (upd (fun _ => 0) 0 (nI 1)))), (u_q2_9, .inl (cA 0, 40, .inl (sp_kc (fun _ => 0)))), (u_q3_10, .inl (cA 0, 1040, .inl (fun _ => 0))), (q_11, .inr (2, [.ref u_q1_14, .ref u_q2_15, .ref u_q3_16])), (u_q1_14, .inl (cA 0, 40, .inl (upd (fun _ => 0) 0 (nI 1)))), (u_q2_15, .inl (cA 0, 40, .inl (sp_kc (fun _ => 0)))), (u_q3_16, .inl (cA 0, 1040, .inl (fun _ => 0))), (q_17, .inr (3, [.ref q_5, .ref u_q0_20, .int 0, .int 0, .int 0])), (u_q0_20, .inr (4, [.int 0, .int 0, .ref u_q1_21, .ref u_q2_22, .int 0, .int 0])), (u_q1_21, .inr (5, [.ref u_q3_23, .int (nI 0)])), (u_q3_23, .inl (cA 0, 8, .inl (tx_A (fun _ => 0)))), (u_q2_22, .inr (5, [.ref u_q4_24, .int (nI 0)])), (u_q4_24, .inl (cA 0, 8, .inl (tx_A (fun _ => 0)))), (q_25, .inr (6, [.null, .int 0, .int 0]))] := hD
  refine W.widen (k := 17) (n := 2583) (by decide) (by decide) ?_
  refine lv_dup hx hb xd_X_init_56 rfl ?_
  have hPc := hP.sub (ws' := [(q_25, .inr (6, [.null, .int 0, .int 0]))]) [17] rfl
  have hDc := hD.sub (ws' := [(q_25, .inr (6, [.null, .int 0, .int 0]))]) [17] (by decide) rfl
  have hFc := va_free (wc := [(q_25, .inr (6, [.null, .int 0, .int 0]))]) hD hS hA [17] rfl
  refine va_callv (va_runIN (As := []) (rest := [.ref q_25, .ref x]) ⟨hx, hb, hml, hown, hts⟩ (ct_Hi_init l G cA H.size q_25) ⟨va_cnB 0 hts (tw_g xm_128) rfl rfl rfl (nw_m hK.2 3 rfl) (hts _ xm_7) xh_Hi_init ⟨Nat.le_of_ble_eq_true rfl, Nat.le_of_ble_eq_true rfl⟩, rfl, hts _ xm_127⟩ (ps_w hK hPc hDc) rfl rfl hl.1 rfl (lv_room (Nat.le_of_ble_eq_true rfl)) xd_X_init_57 ⟨Nat.le_of_ble_eq_true rfl, Nat.le_of_ble_eq_true rfl⟩) hS (fun q _ h => hFc q h) hFc (fun u9 t9 H1 locs ht hvm q_27 hB hz1 hk1 hS => ?_)
  obtain ⟨u_q1_28, rfl⟩ : ∃ z, z = u9 := ⟨_, rfl⟩
  try dsimp only at q_27 hB
  obtain ⟨hP1, hD1⟩ := hB
  rw [ht] at hP1
  obtain ⟨hP, hD⟩ := va_join (wr := [(x, .inr (0, [.ref q_1, .ref q_5, .ref q_11, .ref q_17, .null, .null, .null, .int 0, .int 0, .int 0])), (q_1, .inr (1, [.ref u_q1_4, .int (nI 0), .int (nI 0)])), (u_q1_4, .inl (cA 1, 300, .inl (tx_A (fun _ => 0)))), (q_5, .inr (2, [.ref u_q1_8, .ref u_q2_9, .ref u_q3_10])), (u_q1_8, .inl (cA 0, 40, .inl (upd (fun _ => 0) 0 (nI 1)))), (u_q2_9, .inl (cA 0, 40, .inl (sp_kc (fun _ => 0)))), (u_q3_10, .inl (cA 0, 1040, .inl (fun _ => 0))), (q_11, .inr (2, [.ref u_q1_14, .ref u_q2_15, .ref u_q3_16])), (u_q1_14, .inl (cA 0, 40, .inl (upd (fun _ => 0) 0 (nI 1)))), (u_q2_15, .inl (cA 0, 40, .inl (sp_kc (fun _ => 0)))), (u_q3_16, .inl (cA 0, 1040, .inl (fun _ => 0))), (q_17, .inr (3, [.ref q_5, .ref u_q0_20, .int 0, .int 0, .int 0])), (u_q0_20, .inr (4, [.int 0, .int 0, .ref u_q1_21, .ref u_q2_22, .int 0, .int 0])), (u_q1_21, .inr (5, [.ref u_q3_23, .int (nI 0)])), (u_q3_23, .inl (cA 0, 8, .inl (tx_A (fun _ => 0)))), (u_q2_22, .inr (5, [.ref u_q4_24, .int (nI 0)])), (u_q4_24, .inl (cA 0, 8, .inl (tx_A (fun _ => 0))))]) (w1 := [(q_25, .inr (6, [.ref u_q1_28, .int (nI 0), .int (nI 0)])), (u_q1_28, .inl (cA 3, 16, .inr (.inr (.inr (.inr (fun _ => none))))))]) hP hD [17] [0, 1, 2, 3, 4, 5, 6, 7, 8, 9, 10, 11, 12, 13, 14, 15, 16] rfl rfl (by decide) (by decide) hk1 hFc hP1 hD1
  generalize H1 = H at hP hS ⊢
  have hP : va_P G xk_cl [(x, .inr (0, [.ref q_1, .ref q_5, .ref q_11, .ref q_17, .null, .null, .null, .int 0, .int 0, .int 0])), (q_1, .inr (1, [.ref u_q1_4, .int (nI 0), .int (nI 0)])), (u_q1_4, .inl (cA 1, 300, .inl (tx_A (fun _ => 0)))), (q_5, .inr (2, [.ref u_q1_8, .ref u_q2_9, .ref u_q3_10])), (u_q1_8, .inl (cA 0, 40, .inl (upd (fun _ => 0) 0 (nI 1)))), (u_q2_9, .inl (cA 0, 40, .inl (sp_kc (fun _ => 0)))), (u_q3_10, .inl (cA 0, 1040, .inl (fun _ => 0))), (q_11, .inr (2, [.ref u_q1_14, .ref u_q2_15, .ref u_q3_16])), (u_q1_14, .inl (cA 0, 40, .inl (upd (fun _ => 0) 0 (nI 1)))), (u_q2_15, .inl (cA 0, 40, .inl (sp_kc (fun _ => 0)))), (u_q3_16, .inl (cA 0, 1040, .inl (fun _ => 0))), (q_17, .inr (3, [.ref q_5, .ref u_q0_20, .int 0, .int 0, .int 0])), (u_q0_20, .inr (4, [.int 0, .int 0, .ref u_q1_21, .ref u_q2_22, .int 0, .int 0])), (u_q1_21, .inr (5, [.ref u_q3_23, .int (nI 0)])), (u_q3_23, .inl (cA 0, 8, .inl (tx_A (fun _ => 0)))), (u_q2_22, .inr (5, [.ref u_q4_24, .int (nI 0)])), (u_q4_24, .inl (cA 0, 8, .inl (tx_A (fun _ => 0)))), (q_25, .inr (6, [.ref u_q1_28, .int (nI 0), .int (nI 0)])), (u_q1_28, .inl (cA 3, 16, .inr (.inr (.inr (.inr (fun _ => none))))))] H := hP
  have hD : va_D A [(x, .inr (0, [.ref q_1, .ref q_5, .ref q_11, .ref q_17, .null, .null, .null, .int 0, .int 0, .int 0])), (q_1, .inr (1, [.ref u_q1_4, .int (nI 0), .int (nI 0)])), (u_q1_4, .inl (cA 1, 300, .inl (tx_A (fun _ => 0)))), (q_5, .inr (2, [.ref u_q1_8, .ref u_q2_9, .ref u_q3_10])), (u_q1_8, .inl (cA 0, 40, .inl (upd (fun _ => 0) 0 (nI 1)))), (u_q2_9, .inl (cA 0, 40, .inl (sp_kc (fun _ => 0)))), (u_q3_10, .inl (cA 0, 1040, .inl (fun _ => 0))), (q_11, .inr (2, [.ref u_q1_14, .ref u_q2_15, .ref u_q3_16])), (u_q1_14, .inl (cA 0, 40, .inl (upd (fun _ => 0) 0 (nI 1)))), (u_q2_15, .inl (cA 0, 40, .inl (sp_kc (fun _ => 0)))), (u_q3_16, .inl (cA 0, 1040, .inl (fun _ => 0))), (q_17, .inr (3, [.ref q_5, .ref u_q0_20, .int 0, .int 0, .int 0])), (u_q0_20, .inr (4, [.int 0, .int 0, .ref u_q1_21, .ref u_q2_22, .int 0, .int 0])), (u_q1_21, .inr (5, [.ref u_q3_23, .int (nI 0)])), (u_q3_23, .inl (cA 0, 8, .inl (tx_A (fun _ => 0)))), (u_q2_22, .inr (5, [.ref u_q4_24, .int (nI 0)])), (u_q4_24, .inl (cA 0, 8, .inl (tx_A (fun _ => 0)))), (q_25, .inr (6, [.ref u_q1_28, .int (nI 0), .int (nI 0)])), (u_q1_28, .inl (cA 3, 16, .inr (.inr (.inr (.inr (fun _ => none))))))] := hD
  refine W.widen (k := 18) (n := 2599) (by decide) (by decide) ?_
  refine va_putF (D := G) (ci := 0) (v := .ref q_25) (ty := .object "EditLists2$History") (C := xc_X) (T := xf_X) (N := 10) hx hb hts xw_X xt_X xt_X_ok xn_X hown hK.1 hP hD hS 0 rfl rfl 4 (by decide) (hts _ xm_163) (fun _ h9 => h9) rfl hin rfl (by decide +kernel) rfl rfl (Nat.le_of_ble_eq_true rfl) xd_X_init_60 (fun H locs hP hD hS => ?_)
  have hP : va_P G xk_cl [(x, .inr (0, [.ref q_1, .ref q_5, .ref q_11, .ref q_17, .ref q_25, .null, .null, .int 0, .int 0, .int 0])), (q_1, .inr (1, [.ref u_q1_4, .int (nI 0), .int (nI 0)])), (u_q1_4, .inl (cA 1, 300, .inl (tx_A (fun _ => 0)))), (q_5, .inr (2, [.ref u_q1_8, .ref u_q2_9, .ref u_q3_10])), (u_q1_8, .inl (cA 0, 40, .inl (upd (fun _ => 0) 0 (nI 1)))), (u_q2_9, .inl (cA 0, 40, .inl (sp_kc (fun _ => 0)))), (u_q3_10, .inl (cA 0, 1040, .inl (fun _ => 0))), (q_11, .inr (2, [.ref u_q1_14, .ref u_q2_15, .ref u_q3_16])), (u_q1_14, .inl (cA 0, 40, .inl (upd (fun _ => 0) 0 (nI 1)))), (u_q2_15, .inl (cA 0, 40, .inl (sp_kc (fun _ => 0)))), (u_q3_16, .inl (cA 0, 1040, .inl (fun _ => 0))), (q_17, .inr (3, [.ref q_5, .ref u_q0_20, .int 0, .int 0, .int 0])), (u_q0_20, .inr (4, [.int 0, .int 0, .ref u_q1_21, .ref u_q2_22, .int 0, .int 0])), (u_q1_21, .inr (5, [.ref u_q3_23, .int (nI 0)])), (u_q3_23, .inl (cA 0, 8, .inl (tx_A (fun _ => 0)))), (u_q2_22, .inr (5, [.ref u_q4_24, .int (nI 0)])), (u_q4_24, .inl (cA 0, 8, .inl (tx_A (fun _ => 0)))), (q_25, .inr (6, [.ref u_q1_28, .int (nI 0), .int (nI 0)])), (u_q1_28, .inl (cA 3, 16, .inr (.inr (.inr (.inr (fun _ => none))))))] H := hP
  have hD : va_D A [(x, .inr (0, [.ref q_1, .ref q_5, .ref q_11, .ref q_17, .ref q_25, .null, .null, .int 0, .int 0, .int 0])), (q_1, .inr (1, [.ref u_q1_4, .int (nI 0), .int (nI 0)])), (u_q1_4, .inl (cA 1, 300, .inl (tx_A (fun _ => 0)))), (q_5, .inr (2, [.ref u_q1_8, .ref u_q2_9, .ref u_q3_10])), (u_q1_8, .inl (cA 0, 40, .inl (upd (fun _ => 0) 0 (nI 1)))), (u_q2_9, .inl (cA 0, 40, .inl (sp_kc (fun _ => 0)))), (u_q3_10, .inl (cA 0, 1040, .inl (fun _ => 0))), (q_11, .inr (2, [.ref u_q1_14, .ref u_q2_15, .ref u_q3_16])), (u_q1_14, .inl (cA 0, 40, .inl (upd (fun _ => 0) 0 (nI 1)))), (u_q2_15, .inl (cA 0, 40, .inl (sp_kc (fun _ => 0)))), (u_q3_16, .inl (cA 0, 1040, .inl (fun _ => 0))), (q_17, .inr (3, [.ref q_5, .ref u_q0_20, .int 0, .int 0, .int 0])), (u_q0_20, .inr (4, [.int 0, .int 0, .ref u_q1_21, .ref u_q2_22, .int 0, .int 0])), (u_q1_21, .inr (5, [.ref u_q3_23, .int (nI 0)])), (u_q3_23, .inl (cA 0, 8, .inl (tx_A (fun _ => 0)))), (u_q2_22, .inr (5, [.ref u_q4_24, .int (nI 0)])), (u_q4_24, .inl (cA 0, 8, .inl (tx_A (fun _ => 0)))), (q_25, .inr (6, [.ref u_q1_28, .int (nI 0), .int (nI 0)])), (u_q1_28, .inl (cA 3, 16, .inr (.inr (.inr (.inr (fun _ => none))))))] := hD
  refine lv_aload_n hx hb xd_X_init_63 rfl (lv_at hl 0 rfl) ?_
  refine va_new (ci := 7) (fs := [.null, .null, .int 0]) (C := xc_Re) (T := xf_Re) (N := 3) hx hb hts xw_Re xt_Re xt_Re_ok hown (hts _ xm_142) (hts _ xm_143) (hts _ xm_8) hK.1 hP hD hS hA rfl (fun j hj => by rcases (show j = 0 ∨ j = 1 ∨ j = 2 by omega) with rfl | rfl | rfl <;> rfl) (Nat.le_of_ble_eq_true rfl) (Nat.le_of_ble_eq_true rfl) xd_X_init_64 (fun q_29 H hP hD hS => ?_)
  have hP : va_P G xk_cl [(x, .inr (0, [.ref q_1, .ref q_5, .ref q_11, .ref q_17, .ref q_25, .null, .null, .int 0, .int 0, .int 0])), (q_1, .inr (1, [.ref u_q1_4, .int (nI 0), .int (nI 0)])), (u_q1_4, .inl (cA 1, 300, .inl (tx_A (fun _ => 0)))), (q_5, .inr (2, [.ref u_q1_8, .ref u_q2_9, .ref u_q3_10])), (u_q1_8, .inl (cA 0, 40, .inl (upd (fun _ => 0) 0 (nI 1)))), (u_q2_9, .inl (cA 0, 40, .inl (sp_kc (fun _ => 0)))), (u_q3_10, .inl (cA 0, 1040, .inl (fun _ => 0))), (q_11, .inr (2, [.ref u_q1_14, .ref u_q2_15, .ref u_q3_16])), (u_q1_14, .inl (cA 0, 40, .inl (upd (fun _ => 0) 0 (nI 1)))), (u_q2_15, .inl (cA 0, 40, .inl (sp_kc (fun _ => 0)))), (u_q3_16, .inl (cA 0, 1040, .inl (fun _ => 0))), (q_17, .inr (3, [.ref q_5, .ref u_q0_20, .int 0, .int 0, .int 0])), (u_q0_20, .inr (4, [.int 0, .int 0, .ref u_q1_21, .ref u_q2_22, .int 0, .int 0])), (u_q1_21, .inr (5, [.ref u_q3_23, .int (nI 0)])), (u_q3_23, .inl (cA 0, 8, .inl (tx_A (fun _ => 0)))), (u_q2_22, .inr (5, [.ref u_q4_24, .int (nI 0)])), (u_q4_24, .inl (cA 0, 8, .inl (tx_A (fun _ => 0)))), (q_25, .inr (6, [.ref u_q1_28, .int (nI 0), .int (nI 0)])), (u_q1_28, .inl (cA 3, 16, .inr (.inr (.inr (.inr (fun _ => none)))))), (q_29, .inr (7, [.null, .null, .int 0]))] H := hP
  have hD : va_D A [(x, .inr (0, [.ref q_1, .ref q_5, .ref q_11, .ref q_17, .ref q_25, .null, .null, .int 0, .int 0, .int 0])), (q_1, .inr (1, [.ref u_q1_4, .int (nI 0), .int (nI 0)])), (u_q1_4, .inl (cA 1, 300, .inl (tx_A (fun _ => 0)))), (q_5, .inr (2, [.ref u_q1_8, .ref u_q2_9, .ref u_q3_10])), (u_q1_8, .inl (cA 0, 40, .inl (upd (fun _ => 0) 0 (nI 1)))), (u_q2_9, .inl (cA 0, 40, .inl (sp_kc (fun _ => 0)))), (u_q3_10, .inl (cA 0, 1040, .inl (fun _ => 0))), (q_11, .inr (2, [.ref u_q1_14, .ref u_q2_15, .ref u_q3_16])), (u_q1_14, .inl (cA 0, 40, .inl (upd (fun _ => 0) 0 (nI 1)))), (u_q2_15, .inl (cA 0, 40, .inl (sp_kc (fun _ => 0)))), (u_q3_16, .inl (cA 0, 1040, .inl (fun _ => 0))), (q_17, .inr (3, [.ref q_5, .ref u_q0_20, .int 0, .int 0, .int 0])), (u_q0_20, .inr (4, [.int 0, .int 0, .ref u_q1_21, .ref u_q2_22, .int 0, .int 0])), (u_q1_21, .inr (5, [.ref u_q3_23, .int (nI 0)])), (u_q3_23, .inl (cA 0, 8, .inl (tx_A (fun _ => 0)))), (u_q2_22, .inr (5, [.ref u_q4_24, .int (nI 0)])), (u_q4_24, .inl (cA 0, 8, .inl (tx_A (fun _ => 0)))), (q_25, .inr (6, [.ref u_q1_28, .int (nI 0), .int (nI 0)])), (u_q1_28, .inl (cA 3, 16, .inr (.inr (.inr (.inr (fun _ => none)))))), (q_29, .inr (7, [.null, .null, .int 0]))] := hD
  refine W.widen (k := 19) (n := 2602) (by decide) (by decide) ?_
  refine lv_dup hx hb xd_X_init_67 rfl ?_
  have hPc := hP.sub (ws' := [(q_29, .inr (7, [.null, .null, .int 0]))]) [19] rfl
  have hDc := hD.sub (ws' := [(q_29, .inr (7, [.null, .null, .int 0]))]) [19] (by decide) rfl
  have hFc := va_free (wc := [(q_29, .inr (7, [.null, .null, .int 0]))]) hD hS hA [19] rfl
  refine va_callv (va_runIN (As := []) (rest := [.ref q_29, .ref x]) ⟨hx, hb, hml, hown, hts⟩ (ct_Re_init l G cA H.size q_29) ⟨va_cnB 0 hts (tw_g xm_146) rfl rfl rfl (nw_m hK.2 4 rfl) (hts _ xm_8) xh_Re_init ⟨Nat.le_of_ble_eq_true rfl, Nat.le_of_ble_eq_true rfl⟩, rfl, hts _ xm_145⟩ (ps_w hK hPc hDc) rfl rfl hl.1 rfl (lv_room (Nat.le_of_ble_eq_true rfl)) xd_X_init_68 ⟨Nat.le_of_ble_eq_true rfl, Nat.le_of_ble_eq_true rfl⟩) hS (fun q _ h => hFc q h) hFc (fun u9 t9 H1 locs ht hvm q_31 hB hz1 hk1 hS => ?_)
  obtain ⟨u_q1_32, u_q2_33⟩ := u9
  try dsimp only at q_31 hB
  obtain ⟨hP1, hD1⟩ := hB
  rw [ht] at hP1
  obtain ⟨hP, hD⟩ := va_join (wr := [(x, .inr (0, [.ref q_1, .ref q_5, .ref q_11, .ref q_17, .ref q_25, .null, .null, .int 0, .int 0, .int 0])), (q_1, .inr (1, [.ref u_q1_4, .int (nI 0), .int (nI 0)])), (u_q1_4, .inl (cA 1, 300, .inl (tx_A (fun _ => 0)))), (q_5, .inr (2, [.ref u_q1_8, .ref u_q2_9, .ref u_q3_10])), (u_q1_8, .inl (cA 0, 40, .inl (upd (fun _ => 0) 0 (nI 1)))), (u_q2_9, .inl (cA 0, 40, .inl (sp_kc (fun _ => 0)))), (u_q3_10, .inl (cA 0, 1040, .inl (fun _ => 0))), (q_11, .inr (2, [.ref u_q1_14, .ref u_q2_15, .ref u_q3_16])), (u_q1_14, .inl (cA 0, 40, .inl (upd (fun _ => 0) 0 (nI 1)))), (u_q2_15, .inl (cA 0, 40, .inl (sp_kc (fun _ => 0)))), (u_q3_16, .inl (cA 0, 1040, .inl (fun _ => 0))), (q_17, .inr (3, [.ref q_5, .ref u_q0_20, .int 0, .int 0, .int 0])), (u_q0_20, .inr (4, [.int 0, .int 0, .ref u_q1_21, .ref u_q2_22, .int 0, .int 0])), (u_q1_21, .inr (5, [.ref u_q3_23, .int (nI 0)])), (u_q3_23, .inl (cA 0, 8, .inl (tx_A (fun _ => 0)))), (u_q2_22, .inr (5, [.ref u_q4_24, .int (nI 0)])), (u_q4_24, .inl (cA 0, 8, .inl (tx_A (fun _ => 0)))), (q_25, .inr (6, [.ref u_q1_28, .int (nI 0), .int (nI 0)])), (u_q1_28, .inl (cA 3, 16, .inr (.inr (.inr (.inr (fun _ => none))))))]) (w1 := [(q_29, .inr (7, [.ref u_q1_32, .ref u_q2_33, .int (nI 0)])), (u_q1_32, .inl (cA 2, 40, .inl (mk_A (fun _ => false)))), (u_q2_33, .inl (cA 0, 40, .inl (tx_A (fun _ => 0))))]) hP hD [19] [0, 1, 2, 3, 4, 5, 6, 7, 8, 9, 10, 11, 12, 13, 14, 15, 16, 17, 18] rfl rfl (by decide) (by decide) hk1 hFc hP1 hD1
  generalize H1 = H at hP hS ⊢
  have hP : va_P G xk_cl [(x, .inr (0, [.ref q_1, .ref q_5, .ref q_11, .ref q_17, .ref q_25, .null, .null, .int 0, .int 0, .int 0])), (q_1, .inr (1, [.ref u_q1_4, .int (nI 0), .int (nI 0)])), (u_q1_4, .inl (cA 1, 300, .inl (tx_A (fun _ => 0)))), (q_5, .inr (2, [.ref u_q1_8, .ref u_q2_9, .ref u_q3_10])), (u_q1_8, .inl (cA 0, 40, .inl (upd (fun _ => 0) 0 (nI 1)))), (u_q2_9, .inl (cA 0, 40, .inl (sp_kc (fun _ => 0)))), (u_q3_10, .inl (cA 0, 1040, .inl (fun _ => 0))), (q_11, .inr (2, [.ref u_q1_14, .ref u_q2_15, .ref u_q3_16])), (u_q1_14, .inl (cA 0, 40, .inl (upd (fun _ => 0) 0 (nI 1)))), (u_q2_15, .inl (cA 0, 40, .inl (sp_kc (fun _ => 0)))), (u_q3_16, .inl (cA 0, 1040, .inl (fun _ => 0))), (q_17, .inr (3, [.ref q_5, .ref u_q0_20, .int 0, .int 0, .int 0])), (u_q0_20, .inr (4, [.int 0, .int 0, .ref u_q1_21, .ref u_q2_22, .int 0, .int 0])), (u_q1_21, .inr (5, [.ref u_q3_23, .int (nI 0)])), (u_q3_23, .inl (cA 0, 8, .inl (tx_A (fun _ => 0)))), (u_q2_22, .inr (5, [.ref u_q4_24, .int (nI 0)])), (u_q4_24, .inl (cA 0, 8, .inl (tx_A (fun _ => 0)))), (q_25, .inr (6, [.ref u_q1_28, .int (nI 0), .int (nI 0)])), (u_q1_28, .inl (cA 3, 16, .inr (.inr (.inr (.inr (fun _ => none)))))), (q_29, .inr (7, [.ref u_q1_32, .ref u_q2_33, .int (nI 0)])), (u_q1_32, .inl (cA 2, 40, .inl (mk_A (fun _ => false)))), (u_q2_33, .inl (cA 0, 40, .inl (tx_A (fun _ => 0))))] H := hP
  have hD : va_D A [(x, .inr (0, [.ref q_1, .ref q_5, .ref q_11, .ref q_17, .ref q_25, .null, .null, .int 0, .int 0, .int 0])), (q_1, .inr (1, [.ref u_q1_4, .int (nI 0), .int (nI 0)])), (u_q1_4, .inl (cA 1, 300, .inl (tx_A (fun _ => 0)))), (q_5, .inr (2, [.ref u_q1_8, .ref u_q2_9, .ref u_q3_10])), (u_q1_8, .inl (cA 0, 40, .inl (upd (fun _ => 0) 0 (nI 1)))), (u_q2_9, .inl (cA 0, 40, .inl (sp_kc (fun _ => 0)))), (u_q3_10, .inl (cA 0, 1040, .inl (fun _ => 0))), (q_11, .inr (2, [.ref u_q1_14, .ref u_q2_15, .ref u_q3_16])), (u_q1_14, .inl (cA 0, 40, .inl (upd (fun _ => 0) 0 (nI 1)))), (u_q2_15, .inl (cA 0, 40, .inl (sp_kc (fun _ => 0)))), (u_q3_16, .inl (cA 0, 1040, .inl (fun _ => 0))), (q_17, .inr (3, [.ref q_5, .ref u_q0_20, .int 0, .int 0, .int 0])), (u_q0_20, .inr (4, [.int 0, .int 0, .ref u_q1_21, .ref u_q2_22, .int 0, .int 0])), (u_q1_21, .inr (5, [.ref u_q3_23, .int (nI 0)])), (u_q3_23, .inl (cA 0, 8, .inl (tx_A (fun _ => 0)))), (u_q2_22, .inr (5, [.ref u_q4_24, .int (nI 0)])), (u_q4_24, .inl (cA 0, 8, .inl (tx_A (fun _ => 0)))), (q_25, .inr (6, [.ref u_q1_28, .int (nI 0), .int (nI 0)])), (u_q1_28, .inl (cA 3, 16, .inr (.inr (.inr (.inr (fun _ => none)))))), (q_29, .inr (7, [.ref u_q1_32, .ref u_q2_33, .int (nI 0)])), (u_q1_32, .inl (cA 2, 40, .inl (mk_A (fun _ => false)))), (u_q2_33, .inl (cA 0, 40, .inl (tx_A (fun _ => 0))))] := hD
  refine W.widen (k := 21) (n := 2682) (by decide) (by decide) ?_
  refine va_putF (D := G) (ci := 0) (v := .ref q_29) (ty := .object "EditLists2$Reach") (C := xc_X) (T := xf_X) (N := 10) hx hb hts xw_X xt_X xt_X_ok xn_X hown hK.1 hP hD hS 0 rfl rfl 5 (by decide) (hts _ xm_164) (fun _ h9 => h9) rfl hin rfl (by decide +kernel) rfl rfl (Nat.le_of_ble_eq_true rfl) xd_X_init_71 (fun H locs hP hD hS => ?_)
  have hP : va_P G xk_cl [(x, .inr (0, [.ref q_1, .ref q_5, .ref q_11, .ref q_17, .ref q_25, .ref q_29, .null, .int 0, .int 0, .int 0])), (q_1, .inr (1, [.ref u_q1_4, .int (nI 0), .int (nI 0)])), (u_q1_4, .inl (cA 1, 300, .inl (tx_A (fun _ => 0)))), (q_5, .inr (2, [.ref u_q1_8, .ref u_q2_9, .ref u_q3_10])), (u_q1_8, .inl (cA 0, 40, .inl (upd (fun _ => 0) 0 (nI 1)))), (u_q2_9, .inl (cA 0, 40, .inl (sp_kc (fun _ => 0)))), (u_q3_10, .inl (cA 0, 1040, .inl (fun _ => 0))), (q_11, .inr (2, [.ref u_q1_14, .ref u_q2_15, .ref u_q3_16])), (u_q1_14, .inl (cA 0, 40, .inl (upd (fun _ => 0) 0 (nI 1)))), (u_q2_15, .inl (cA 0, 40, .inl (sp_kc (fun _ => 0)))), (u_q3_16, .inl (cA 0, 1040, .inl (fun _ => 0))), (q_17, .inr (3, [.ref q_5, .ref u_q0_20, .int 0, .int 0, .int 0])), (u_q0_20, .inr (4, [.int 0, .int 0, .ref u_q1_21, .ref u_q2_22, .int 0, .int 0])), (u_q1_21, .inr (5, [.ref u_q3_23, .int (nI 0)])), (u_q3_23, .inl (cA 0, 8, .inl (tx_A (fun _ => 0)))), (u_q2_22, .inr (5, [.ref u_q4_24, .int (nI 0)])), (u_q4_24, .inl (cA 0, 8, .inl (tx_A (fun _ => 0)))), (q_25, .inr (6, [.ref u_q1_28, .int (nI 0), .int (nI 0)])), (u_q1_28, .inl (cA 3, 16, .inr (.inr (.inr (.inr (fun _ => none)))))), (q_29, .inr (7, [.ref u_q1_32, .ref u_q2_33, .int (nI 0)])), (u_q1_32, .inl (cA 2, 40, .inl (mk_A (fun _ => false)))), (u_q2_33, .inl (cA 0, 40, .inl (tx_A (fun _ => 0))))] H := hP
  have hD : va_D A [(x, .inr (0, [.ref q_1, .ref q_5, .ref q_11, .ref q_17, .ref q_25, .ref q_29, .null, .int 0, .int 0, .int 0])), (q_1, .inr (1, [.ref u_q1_4, .int (nI 0), .int (nI 0)])), (u_q1_4, .inl (cA 1, 300, .inl (tx_A (fun _ => 0)))), (q_5, .inr (2, [.ref u_q1_8, .ref u_q2_9, .ref u_q3_10])), (u_q1_8, .inl (cA 0, 40, .inl (upd (fun _ => 0) 0 (nI 1)))), (u_q2_9, .inl (cA 0, 40, .inl (sp_kc (fun _ => 0)))), (u_q3_10, .inl (cA 0, 1040, .inl (fun _ => 0))), (q_11, .inr (2, [.ref u_q1_14, .ref u_q2_15, .ref u_q3_16])), (u_q1_14, .inl (cA 0, 40, .inl (upd (fun _ => 0) 0 (nI 1)))), (u_q2_15, .inl (cA 0, 40, .inl (sp_kc (fun _ => 0)))), (u_q3_16, .inl (cA 0, 1040, .inl (fun _ => 0))), (q_17, .inr (3, [.ref q_5, .ref u_q0_20, .int 0, .int 0, .int 0])), (u_q0_20, .inr (4, [.int 0, .int 0, .ref u_q1_21, .ref u_q2_22, .int 0, .int 0])), (u_q1_21, .inr (5, [.ref u_q3_23, .int (nI 0)])), (u_q3_23, .inl (cA 0, 8, .inl (tx_A (fun _ => 0)))), (u_q2_22, .inr (5, [.ref u_q4_24, .int (nI 0)])), (u_q4_24, .inl (cA 0, 8, .inl (tx_A (fun _ => 0)))), (q_25, .inr (6, [.ref u_q1_28, .int (nI 0), .int (nI 0)])), (u_q1_28, .inl (cA 3, 16, .inr (.inr (.inr (.inr (fun _ => none)))))), (q_29, .inr (7, [.ref u_q1_32, .ref u_q2_33, .int (nI 0)])), (u_q1_32, .inl (cA 2, 40, .inl (mk_A (fun _ => false)))), (u_q2_33, .inl (cA 0, 40, .inl (tx_A (fun _ => 0))))] := hD
  refine lv_aload_n hx hb xd_X_init_74 rfl (lv_at hl 0 rfl) ?_
  refine lv_bipush (v := nI 40) hx hb xd_X_init_75 (by decide) ?_
  refine wx_new_int hx hb (hts _ xm_57) hK.1 hP hD hS hA 0 rfl (by decide) (by decide) (Nat.le_of_ble_eq_true rfl) (Nat.le_of_ble_eq_true rfl) xd_X_init_77 (fun q_34 H hP hD hS => ?_)
  have hP : va_P G xk_cl [(x, .inr (0, [.ref q_1, .ref q_5, .ref q_11, .ref q_17, .ref q_25, .ref q_29, .null, .int 0, .int 0, .int 0])), (q_1, .inr (1, [.ref u_q1_4, .int (nI 0), .int (nI 0)])), (u_q1_4, .inl (cA 1, 300, .inl (tx_A (fun _ => 0)))), (q_5, .inr (2, [.ref u_q1_8, .ref u_q2_9, .ref u_q3_10])), (u_q1_8, .inl (cA 0, 40, .inl (upd (fun _ => 0) 0 (nI 1)))), (u_q2_9, .inl (cA 0, 40, .inl (sp_kc (fun _ => 0)))), (u_q3_10, .inl (cA 0, 1040, .inl (fun _ => 0))), (q_11, .inr (2, [.ref u_q1_14, .ref u_q2_15, .ref u_q3_16])), (u_q1_14, .inl (cA 0, 40, .inl (upd (fun _ => 0) 0 (nI 1)))), (u_q2_15, .inl (cA 0, 40, .inl (sp_kc (fun _ => 0)))), (u_q3_16, .inl (cA 0, 1040, .inl (fun _ => 0))), (q_17, .inr (3, [.ref q_5, .ref u_q0_20, .int 0, .int 0, .int 0])), (u_q0_20, .inr (4, [.int 0, .int 0, .ref u_q1_21, .ref u_q2_22, .int 0, .int 0])), (u_q1_21, .inr (5, [.ref u_q3_23, .int (nI 0)])), (u_q3_23, .inl (cA 0, 8, .inl (tx_A (fun _ => 0)))), (u_q2_22, .inr (5, [.ref u_q4_24, .int (nI 0)])), (u_q4_24, .inl (cA 0, 8, .inl (tx_A (fun _ => 0)))), (q_25, .inr (6, [.ref u_q1_28, .int (nI 0), .int (nI 0)])), (u_q1_28, .inl (cA 3, 16, .inr (.inr (.inr (.inr (fun _ => none)))))), (q_29, .inr (7, [.ref u_q1_32, .ref u_q2_33, .int (nI 0)])), (u_q1_32, .inl (cA 2, 40, .inl (mk_A (fun _ => false)))), (u_q2_33, .inl (cA 0, 40, .inl (tx_A (fun _ => 0)))), (q_34, .inl (cA 0, 40, .inl (fun _ => 0)))] H := hP
  have hD : va_D A [(x, .inr (0, [.ref q_1, .ref q_5, .ref q_11, .ref q_17, .ref q_25, .ref q_29, .null, .int 0, .int 0, .int 0])), (q_1, .inr (1, [.ref u_q1_4, .int (nI 0), .int (nI 0)])), (u_q1_4, .inl (cA 1, 300, .inl (tx_A (fun _ => 0)))), (q_5, .inr (2, [.ref u_q1_8, .ref u_q2_9, .ref u_q3_10])), (u_q1_8, .inl (cA 0, 40, .inl (upd (fun _ => 0) 0 (nI 1)))), (u_q2_9, .inl (cA 0, 40, .inl (sp_kc (fun _ => 0)))), (u_q3_10, .inl (cA 0, 1040, .inl (fun _ => 0))), (q_11, .inr (2, [.ref u_q1_14, .ref u_q2_15, .ref u_q3_16])), (u_q1_14, .inl (cA 0, 40, .inl (upd (fun _ => 0) 0 (nI 1)))), (u_q2_15, .inl (cA 0, 40, .inl (sp_kc (fun _ => 0)))), (u_q3_16, .inl (cA 0, 1040, .inl (fun _ => 0))), (q_17, .inr (3, [.ref q_5, .ref u_q0_20, .int 0, .int 0, .int 0])), (u_q0_20, .inr (4, [.int 0, .int 0, .ref u_q1_21, .ref u_q2_22, .int 0, .int 0])), (u_q1_21, .inr (5, [.ref u_q3_23, .int (nI 0)])), (u_q3_23, .inl (cA 0, 8, .inl (tx_A (fun _ => 0)))), (u_q2_22, .inr (5, [.ref u_q4_24, .int (nI 0)])), (u_q4_24, .inl (cA 0, 8, .inl (tx_A (fun _ => 0)))), (q_25, .inr (6, [.ref u_q1_28, .int (nI 0), .int (nI 0)])), (u_q1_28, .inl (cA 3, 16, .inr (.inr (.inr (.inr (fun _ => none)))))), (q_29, .inr (7, [.ref u_q1_32, .ref u_q2_33, .int (nI 0)])), (u_q1_32, .inl (cA 2, 40, .inl (mk_A (fun _ => false)))), (u_q2_33, .inl (cA 0, 40, .inl (tx_A (fun _ => 0)))), (q_34, .inl (cA 0, 40, .inl (fun _ => 0)))] := hD
  refine W.widen (k := 22) (n := 2722) (by decide) (by decide) ?_
  refine va_putF (D := G) (ci := 0) (v := .ref q_34) (ty := .array .int) (C := xc_X) (T := xf_X) (N := 10) hx hb hts xw_X xt_X xt_X_ok xn_X hown hK.1 hP hD hS 0 rfl rfl 6 (by decide) (hts _ xm_165) (fun _ h9 => h9) rfl hin rfl (by decide +kernel) rfl rfl (Nat.le_of_ble_eq_true rfl) xd_X_init_79 (fun H locs hP hD hS => ?_)
  have hP : va_P G xk_cl [(x, .inr (0, [.ref q_1, .ref q_5, .ref q_11, .ref q_17, .ref q_25, .ref q_29, .ref q_34, .int 0, .int 0, .int 0])), (q_1, .inr (1, [.ref u_q1_4, .int (nI 0), .int (nI 0)])), (u_q1_4, .inl (cA 1, 300, .inl (tx_A (fun _ => 0)))), (q_5, .inr (2, [.ref u_q1_8, .ref u_q2_9, .ref u_q3_10])), (u_q1_8, .inl (cA 0, 40, .inl (upd (fun _ => 0) 0 (nI 1)))), (u_q2_9, .inl (cA 0, 40, .inl (sp_kc (fun _ => 0)))), (u_q3_10, .inl (cA 0, 1040, .inl (fun _ => 0))), (q_11, .inr (2, [.ref u_q1_14, .ref u_q2_15, .ref u_q3_16])), (u_q1_14, .inl (cA 0, 40, .inl (upd (fun _ => 0) 0 (nI 1)))), (u_q2_15, .inl (cA 0, 40, .inl (sp_kc (fun _ => 0)))), (u_q3_16, .inl (cA 0, 1040, .inl (fun _ => 0))), (q_17, .inr (3, [.ref q_5, .ref u_q0_20, .int 0, .int 0, .int 0])), (u_q0_20, .inr (4, [.int 0, .int 0, .ref u_q1_21, .ref u_q2_22, .int 0, .int 0])), (u_q1_21, .inr (5, [.ref u_q3_23, .int (nI 0)])), (u_q3_23, .inl (cA 0, 8, .inl (tx_A (fun _ => 0)))), (u_q2_22, .inr (5, [.ref u_q4_24, .int (nI 0)])), (u_q4_24, .inl (cA 0, 8, .inl (tx_A (fun _ => 0)))), (q_25, .inr (6, [.ref u_q1_28, .int (nI 0), .int (nI 0)])), (u_q1_28, .inl (cA 3, 16, .inr (.inr (.inr (.inr (fun _ => none)))))), (q_29, .inr (7, [.ref u_q1_32, .ref u_q2_33, .int (nI 0)])), (u_q1_32, .inl (cA 2, 40, .inl (mk_A (fun _ => false)))), (u_q2_33, .inl (cA 0, 40, .inl (tx_A (fun _ => 0)))), (q_34, .inl (cA 0, 40, .inl (fun _ => 0)))] H := hP
  have hD : va_D A [(x, .inr (0, [.ref q_1, .ref q_5, .ref q_11, .ref q_17, .ref q_25, .ref q_29, .ref q_34, .int 0, .int 0, .int 0])), (q_1, .inr (1, [.ref u_q1_4, .int (nI 0), .int (nI 0)])), (u_q1_4, .inl (cA 1, 300, .inl (tx_A (fun _ => 0)))), (q_5, .inr (2, [.ref u_q1_8, .ref u_q2_9, .ref u_q3_10])), (u_q1_8, .inl (cA 0, 40, .inl (upd (fun _ => 0) 0 (nI 1)))), (u_q2_9, .inl (cA 0, 40, .inl (sp_kc (fun _ => 0)))), (u_q3_10, .inl (cA 0, 1040, .inl (fun _ => 0))), (q_11, .inr (2, [.ref u_q1_14, .ref u_q2_15, .ref u_q3_16])), (u_q1_14, .inl (cA 0, 40, .inl (upd (fun _ => 0) 0 (nI 1)))), (u_q2_15, .inl (cA 0, 40, .inl (sp_kc (fun _ => 0)))), (u_q3_16, .inl (cA 0, 1040, .inl (fun _ => 0))), (q_17, .inr (3, [.ref q_5, .ref u_q0_20, .int 0, .int 0, .int 0])), (u_q0_20, .inr (4, [.int 0, .int 0, .ref u_q1_21, .ref u_q2_22, .int 0, .int 0])), (u_q1_21, .inr (5, [.ref u_q3_23, .int (nI 0)])), (u_q3_23, .inl (cA 0, 8, .inl (tx_A (fun _ => 0)))), (u_q2_22, .inr (5, [.ref u_q4_24, .int (nI 0)])), (u_q4_24, .inl (cA 0, 8, .inl (tx_A (fun _ => 0)))), (q_25, .inr (6, [.ref u_q1_28, .int (nI 0), .int (nI 0)])), (u_q1_28, .inl (cA 3, 16, .inr (.inr (.inr (.inr (fun _ => none)))))), (q_29, .inr (7, [.ref u_q1_32, .ref u_q2_33, .int (nI 0)])), (u_q1_32, .inl (cA 2, 40, .inl (mk_A (fun _ => false)))), (u_q2_33, .inl (cA 0, 40, .inl (tx_A (fun _ => 0)))), (q_34, .inl (cA 0, 40, .inl (fun _ => 0)))] := hD
  have hP9 : va_P G xk_cl [(x, .inr (0, [.ref q_1, .ref q_5, .ref q_11, .ref q_17, .ref q_25, .ref q_29, .ref q_34, .int 0, .int 0, .int 0])), (q_1, .inr (1, [.ref u_q1_4, .int (nI 0), .int (nI 0)])), (u_q1_4, .inl (cA 1, 300, .inl (tx_A (fun _ => 0)))), (q_5, .inr (2, [.ref u_q1_8, .ref u_q2_9, .ref u_q3_10])), (u_q1_8, .inl (cA 0, 40, .inl (upd (fun _ => 0) 0 (nI 1)))), (u_q2_9, .inl (cA 0, 40, .inl (sp_kc (fun _ => 0)))), (u_q3_10, .inl (cA 0, 1040, .inl (fun _ => 0))), (q_11, .inr (2, [.ref u_q1_14, .ref u_q2_15, .ref u_q3_16])), (u_q1_14, .inl (cA 0, 40, .inl (upd (fun _ => 0) 0 (nI 1)))), (u_q2_15, .inl (cA 0, 40, .inl (sp_kc (fun _ => 0)))), (u_q3_16, .inl (cA 0, 1040, .inl (fun _ => 0))), (q_17, .inr (3, [.ref q_5, .ref u_q0_20, .int 0, .int 0, .int 0])), (u_q0_20, .inr (4, [.int 0, .int 0, .ref u_q1_21, .ref u_q2_22, .int 0, .int 0])), (u_q1_21, .inr (5, [.ref u_q3_23, .int (nI 0)])), (u_q3_23, .inl (cA 0, 8, .inl (tx_A (fun _ => 0)))), (u_q2_22, .inr (5, [.ref u_q4_24, .int (nI 0)])), (u_q4_24, .inl (cA 0, 8, .inl (tx_A (fun _ => 0)))), (q_25, .inr (6, [.ref u_q1_28, .int (nI 0), .int (nI 0)])), (u_q1_28, .inl (cA 3, 16, .inr (.inr (.inr (.inr (fun _ => none)))))), (q_29, .inr (7, [.ref u_q1_32, .ref u_q2_33, .int (nI 0)])), (u_q1_32, .inl (cA 2, 40, .inl (mk_A (fun _ => false)))), (u_q2_33, .inl (cA 0, 40, .inl (tx_A (fun _ => 0)))), (q_34, .inl (cA 0, 40, .inl (tx_A (fun _ => 0))))] _ := hP.sub [0, 1, 2, 3, 4, 5, 6, 7, 8, 9, 10, 11, 12, 13, 14, 15, 16, 17, 18, 19, 20, 21, 22] rfl
  have hD9 : va_D A [(x, .inr (0, [.ref q_1, .ref q_5, .ref q_11, .ref q_17, .ref q_25, .ref q_29, .ref q_34, .int 0, .int 0, .int 0])), (q_1, .inr (1, [.ref u_q1_4, .int (nI 0), .int (nI 0)])), (u_q1_4, .inl (cA 1, 300, .inl (tx_A (fun _ => 0)))), (q_5, .inr (2, [.ref u_q1_8, .ref u_q2_9, .ref u_q3_10])), (u_q1_8, .inl (cA 0, 40, .inl (upd (fun _ => 0) 0 (nI 1)))), (u_q2_9, .inl (cA 0, 40, .inl (sp_kc (fun _ => 0)))), (u_q3_10, .inl (cA 0, 1040, .inl (fun _ => 0))), (q_11, .inr (2, [.ref u_q1_14, .ref u_q2_15, .ref u_q3_16])), (u_q1_14, .inl (cA 0, 40, .inl (upd (fun _ => 0) 0 (nI 1)))), (u_q2_15, .inl (cA 0, 40, .inl (sp_kc (fun _ => 0)))), (u_q3_16, .inl (cA 0, 1040, .inl (fun _ => 0))), (q_17, .inr (3, [.ref q_5, .ref u_q0_20, .int 0, .int 0, .int 0])), (u_q0_20, .inr (4, [.int 0, .int 0, .ref u_q1_21, .ref u_q2_22, .int 0, .int 0])), (u_q1_21, .inr (5, [.ref u_q3_23, .int (nI 0)])), (u_q3_23, .inl (cA 0, 8, .inl (tx_A (fun _ => 0)))), (u_q2_22, .inr (5, [.ref u_q4_24, .int (nI 0)])), (u_q4_24, .inl (cA 0, 8, .inl (tx_A (fun _ => 0)))), (q_25, .inr (6, [.ref u_q1_28, .int (nI 0), .int (nI 0)])), (u_q1_28, .inl (cA 3, 16, .inr (.inr (.inr (.inr (fun _ => none)))))), (q_29, .inr (7, [.ref u_q1_32, .ref u_q2_33, .int (nI 0)])), (u_q1_32, .inl (cA 2, 40, .inl (mk_A (fun _ => false)))), (u_q2_33, .inl (cA 0, 40, .inl (tx_A (fun _ => 0)))), (q_34, .inl (cA 0, 40, .inl (tx_A (fun _ => 0))))] := hD.sub [0, 1, 2, 3, 4, 5, 6, 7, 8, 9, 10, 11, 12, 13, 14, 15, 16, 17, 18, 19, 20, 21, 22] (by decide) rfl
  exact W.vret hx hb hr (fun T9 ht hW => ⟨⟨(q_1, u_q1_4, q_5, u_q1_8, u_q2_9, u_q3_10, q_11, u_q1_14, u_q2_15, u_q3_16, q_17, u_q0_20, u_q1_21, u_q3_23, u_q2_22, u_q4_24, q_25, u_q1_28, q_29, u_q1_32, u_q2_33, q_34), rfl, trivial, by rw [ht]; exact hP9, hD9⟩, hS.F ht⟩) hS.2.2 xd_X_init_82
