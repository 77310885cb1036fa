def sp_th (x : Int32) : Int32 := if x = 0 then nI 0 else nI 1
def sp_sg (x : Int32) : Int32 := if x = nI 2 then nI 1 else nI 0
set_option maxHeartbeats 4000000 in
set_option maxRecDepth 100000 in
theorem ct_St_isThere (l : Launch) (G : va_G) (cA : Nat → ClassId) (o : Nat) (a1 : Nat) (a2 : Nat) (a3 : Nat) (st : Nat → Int32) (n : Nat) (hn : n < 40) : Met l xy_St_isThere (.code xy_St_isThere xb_St_isThere 2 (some .boolean) :: tw_W) ({ frames := 1, cells := 0, slots := 0, locals := 20 }) (pc_r G cA [(o, .inr (2, [.ref a1, .ref a2, .ref a3])), (a1, .inl (cA 0, 40, .inl st))] [.ref o, .int (nI n)]) (vp_Si (fun r : Int32 => r = sp_th (st n))) 0 0 (fun _ => False) := by
  refine Met.ofW (cc := xb_St_isThere) (maxL := 2) (ret := (some .boolean)) (by decide) rfl ?_
  intro p e s m args below meth c s₁ B hml hv
  obtain ⟨rfl, hK, hP⟩ := hv
  have hx := B.exec
  have hb := B.bytes
  have hr := B.returns
  have hts0 := atoms_spec (ws := .code xy_St_isThere xb_St_isThere 2 (some .boolean) :: tw_W) B.pre
  have hts : ∀ w9 ∈ tw_W, w9.before [.ref o, .int (nI n)].toArray s = true := fun w9 h9 => hts0 w9 (List.mem_cons_of_mem _ h9)
  have hown : s.vm.findClass xc_St = some m.cls := findClass_of_methodNamed B.named
  have hlocks := B.notSynchronized
  have hP : va_P G xk_cl [(o, .inr (2, [.ref a1, .ref a2, .ref a3])), (a1, .inl (cA 0, 40, .inl st))] s.heap := hP
  have hl := lv_entry ([.ref o, .int (nI n)]) (n := 2) (Nat.le_of_ble_eq_true rfl)
  rw [lg_entry_eq]
  generalize (lg_sl ([.ref o, .int (nI n)]) ++ List.replicate (2 - (lg_sl ([.ref o, .int (nI n)])).length) Slot.unset).toArray = ls at hl ⊢
  have hl : lv_has ls 2 [(0, .ref o), (1, .int (nI n))] := hl
  refine lv_iload_n hx hb xd_St_isThere_0 rfl (lv_at hl 1 rfl) ?_
  have hPc := hP.sub (ws' := []) [] rfl
  refine vp_callSi (va_Run.run (va_runSN (As := [.int (nI n)]) (rest := []) ⟨hx, hb, hml, hown, hts⟩ (ct_X_isObject l G cA (nI n)) ⟨va_cnB 1 hts (tw_g xm_276) rfl rfl rfl (nw_m hK.2 9 rfl) (hts _ xm_1) xh_X_isObject ⟨Nat.le_of_ble_eq_true rfl, Nat.le_of_ble_eq_true rfl⟩, hts _ xm_275, trivial⟩ (ps_r hK hPc) rfl rfl hl.1 rfl (lv_room (Nat.le_of_ble_eq_true rfl)) xd_St_isThere_1 ⟨Nat.le_of_ble_eq_true rfl, Nat.le_of_ble_eq_true rfl⟩)) (fun r_1 q_2 => ?_)
  refine lx_top (z := sp_ob (nI n)) (q_2) ?_
  refine lx_top (z := nI 1) (sp_ob_t (by omega)) ?_
  refine lv_if_eq (tgt := 20) hx hb xd_St_isThere_4 (by decide) (fun c_4_2 => absurd c_4_2 (by decide)) (fun c_4_2 => ?_)
  refine lv_aload_n hx hb xd_St_isThere_7 rfl (lv_at hl 0 rfl) ?_
  refine va_get (D := G) (ci := 2) (v := .ref a1) (C := xc_St) (T := xf_St) (N := 3) hx hb hts xw_St hown hK.1 hP 0 rfl rfl 0 (by decide) (hts _ xm_47) (fun _ h9 => h9) rfl xd_St_isThere_8 ?_
  refine lv_iload_n hx hb xd_St_isThere_11 rfl (lv_at hl 1 rfl) ?_
  refine wx_iald hx hb hK.1 hP 1 0 rfl rfl (k := n) (by omega) (by decide) xd_St_isThere_12 ?_
  refine lv_if_eq (tgt := 20) hx hb xd_St_isThere_13 (by decide) (fun c_13_3 => ?_) (fun c_13_3 => ?_)
  · refine lv_iconst (v := nI 0) hx hb xd_St_isThere_20 (by decide) ?_
    exact W.zret (v := nI 0) (ty := .boolean) hx hb hr (by decide) (fun T9 ht _ => ⟨_, rfl, by simp [sp_th, c_4_2, c_13_3], ht⟩) (fun _ h => absurd h List.not_mem_nil) xd_St_isThere_21
  · refine lv_iconst (v := nI 1) hx hb xd_St_isThere_16 (by decide) ?_
    refine lv_goto (tgt := 21) hx hb xd_St_isThere_17 (by decide) ?_
    exact W.zret (v := nI 1) (ty := .boolean) hx hb hr (by decide) (fun T9 ht _ => ⟨_, rfl, by simp [sp_th, c_4_2, c_13_3], ht⟩) (fun _ h => absurd h List.not_mem_nil) xd_St_isThere_21
set_option maxHeartbeats 4000000 in
set_option maxRecDepth 100000 in
theorem ct_St_isSigned (l : Launch) (G : va_G) (cA : Nat → ClassId) (o : Nat) (a1 : Nat) (a2 : Nat) (a3 : Nat) (st : Nat → Int32) (n : Nat) (hn : n < 40) : Met l xy_St_isSigned (.code xy_St_isSigned xb_St_isSigned 2 (some .boolean) :: tw_W) ({ frames := 1, cells := 0, slots := 0, locals := 20 }) (pc_r G cA [(o, .inr (2, [.ref a1, .ref a2, .ref a3])), (a1, .inl (cA 0, 40, .inl st))] [.ref o, .int (nI n)]) (vp_Si (fun r : Int32 => r = sp_sg (st n))) 0 0 (fun _ => False) := by
  refine Met.ofW (cc := xb_St_isSigned) (maxL := 2) (ret := (some .boolean)) (by decide) rfl ?_
  intro p e s m args below meth c s₁ B hml hv
  obtain ⟨rfl, hK, hP⟩ := hv
  have hx := B.exec
  have hb := B.bytes
  have hr := B.returns
  have hts0 := atoms_spec (ws := .code xy_St_isSigned xb_St_isSigned 2 (some .boolean) :: tw_W) B.pre
  have hts : ∀ w9 ∈ tw_W, w9.before [.ref o, .int (nI n)].toArray s = true := fun w9 h9 => hts0 w9 (List.mem_cons_of_mem _ h9)
  have hown : s.vm.findClass xc_St = some m.cls := findClass_of_methodNamed B.named
  have hlocks := B.notSynchronized
  have hP : va_P G xk_cl [(o, .inr (2, [.ref a1, .ref a2, .ref a3])), (a1, .inl (cA 0, 40, .inl st))] s.heap := hP
  have hl := lv_entry ([.ref o, .int (nI n)]) (n := 2) (Nat.le_of_ble_eq_true rfl)
  rw [lg_entry_eq]
  generalize (lg_sl ([.ref o, .int (nI n)]) ++ List.replicate (2 - (lg_sl ([.ref o, .int (nI n)])).length) Slot.unset).toArray = ls at hl ⊢
  have hl : lv_has ls 2 [(0, .ref o), (1, .int (nI n))] := hl
  refine lv_iload_n hx hb xd_St_isSigned_0 rfl (lv_at hl 1 rfl) ?_
  have hPc := hP.sub (ws' := []) [] rfl
  refine vp_callSi (va_Run.run (va_runSN (As := [.int (nI n)]) (rest := []) ⟨hx, hb, hml, hown, hts⟩ (ct_X_isObject l G cA (nI n)) ⟨va_cnB 1 hts (tw_g xm_276) rfl rfl rfl (nw_m hK.2 9 rfl) (hts _ xm_1) xh_X_isObject ⟨Nat.le_of_ble_eq_true rfl, Nat.le_of_ble_eq_true rfl⟩, hts _ xm_275, trivial⟩ (ps_r hK hPc) rfl rfl hl.1 rfl (lv_room (Nat.le_of_ble_eq_true rfl)) xd_St_isSigned_1 ⟨Nat.le_of_ble_eq_true rfl, Nat.le_of_ble_eq_true rfl⟩)) (fun r_1 q_2 => ?_)
  refine lx_top (z := sp_ob (nI n)) (q_2) ?_
  refine lx_top (z := nI 1) (sp_ob_t (by omega)) ?_
  refine lv_if_eq (tgt := 21) hx hb xd_St_isSigned_4 (by decide) (fun c_4_2 => absurd c_4_2 (by decide)) (fun c_4_2 => ?_)
  refine lv_aload_n hx hb xd_St_isSigned_7 rfl (lv_at hl 0 rfl) ?_
  refine va_get (D := G) (ci := 2) (v := .ref a1) (C := xc_St) (T := xf_St) (N := 3) hx hb hts xw_St hown hK.1 hP 0 rfl rfl 0 (by decide) (hts _ xm_47) (fun _ h9 => h9) rfl xd_St_isSigned_8 ?_
  refine lv_iload_n hx hb xd_St_isSigned_11 rfl (lv_at hl 1 rfl) ?_
  refine wx_iald hx hb hK.1 hP 1 0 rfl rfl (k := n) (by omega) (by decide) xd_St_isSigned_12 ?_
  refine lv_iconst (v := nI 2) hx hb xd_St_isSigned_13 (by decide) ?_
  refine lv_icmp_ne (tgt := 21) hx hb xd_St_isSigned_14 (by decide) (fun c_14_3 => ?_) (fun c_14_3 => ?_)
  · refine lv_iconst (v := nI 0) hx hb xd_St_isSigned_21 (by decide) ?_
    exact W.zret (v := nI 0) (ty := .boolean) hx hb hr (by decide) (fun T9 ht _ => ⟨_, rfl, by simp [sp_sg, c_4_2, c_14_3], ht⟩) (fun _ h => absurd h List.not_mem_nil) xd_St_isSigned_22
  · refine lv_iconst (v := nI 1) hx hb xd_St_isSigned_17 (by decide) ?_
    refine lv_goto (tgt := 22) hx hb xd_St_isSigned_18 (by decide) ?_
    exact W.zret (v := nI 1) (ty := .boolean) hx hb hr (by decide) (fun T9 ht _ => ⟨_, rfl, by simp [sp_sg, c_4_2, c_14_3], ht⟩) (fun _ h => absurd h List.not_mem_nil) xd_St_isSigned_22
set_option maxHeartbeats 4000000 in
set_option maxRecDepth 100000 in
theorem ct_St_keyCount (l : Launch) (G : va_G) (cA : Nat → ClassId) (o : Nat) (a1 : Nat) (a2 : Nat) (a3 : Nat) (kc : Nat → Int32) (n : Nat) (hn : n < 40) : Met l xy_St_keyCount (.code xy_St_keyCount xb_St_keyCount 2 (some .int) :: tw_W) ({ frames := 1, cells := 0, slots := 0, locals := 20 }) (pc_r G cA [(o, .inr (2, [.ref a1, .ref a2, .ref a3])), (a2, .inl (cA 0, 40, .inl kc))] [.ref o, .int (nI n)]) (vp_Si (fun r : Int32 => r = kc n)) 0 0 (fun _ => False) := by
  refine Met.ofW (cc := xb_St_keyCount) (maxL := 2) (ret := (some .int)) (by decide) rfl ?_
  intro p e s m args below meth c s₁ B hml hv
  obtain ⟨rfl, hK, hP⟩ := hv
  have hx := B.exec
  have hb := B.bytes
  have hr := B.returns
  have hts0 := atoms_spec (ws := .code xy_St_keyCount xb_St_keyCount 2 (some .int) :: tw_W) B.pre
  have hts : ∀ w9 ∈ tw_W, w9.before [.ref o, .int (nI n)].toArray s = true := fun w9 h9 => hts0 w9 (List.mem_cons_of_mem _ h9)
  have hown : s.vm.findClass xc_St = some m.cls := findClass_of_methodNamed B.named
  have hlocks := B.notSynchronized
  have hP : va_P G xk_cl [(o, .inr (2, [.ref a1, .ref a2, .ref a3])), (a2, .inl (cA 0, 40, .inl kc))] s.heap := hP
  have hl := lv_entry ([.ref o, .int (nI n)]) (n := 2) (Nat.le_of_ble_eq_true rfl)
  rw [lg_entry_eq]
  generalize (lg_sl ([.ref o, .int (nI n)]) ++ List.replicate (2 - (lg_sl ([.ref o, .int (nI n)])).length) Slot.unset).toArray = ls at hl ⊢
  have hl : lv_has ls 2 [(0, .ref o), (1, .int (nI n))] := hl
  refine lv_iload_n hx hb xd_St_keyCount_0 rfl (lv_at hl 1 rfl) ?_
  have hPc := hP.sub (ws' := []) [] rfl
  refine vp_callSi (va_Run.run (va_runSN (As := [.int (nI n)]) (rest := []) ⟨hx, hb, hml, hown, hts⟩ (ct_X_isObject l G cA (nI n)) ⟨va_cnB 1 hts (tw_g xm_276) rfl rfl rfl (nw_m hK.2 9 rfl) (hts _ xm_1) xh_X_isObject ⟨Nat.le_of_ble_eq_true rfl, Nat.le_of_ble_eq_true rfl⟩, hts _ xm_275, trivial⟩ (ps_r hK hPc) rfl rfl hl.1 rfl (lv_room (Nat.le_of_ble_eq_true rfl)) xd_St_keyCount_1 ⟨Nat.le_of_ble_eq_true rfl, Nat.le_of_ble_eq_true rfl⟩)) (fun r_1 q_2 => ?_)
  refine lx_top (z := sp_ob (nI n)) (q_2) ?_
  refine lx_top (z := nI 1) (sp_ob_t (by omega)) ?_
  refine lv_if_eq (tgt := 16) hx hb xd_St_keyCount_4 (by decide) (fun c_4_2 => absurd c_4_2 (by decide)) (fun c_4_2 => ?_)
  refine lv_aload_n hx hb xd_St_keyCount_7 rfl (lv_at hl 0 rfl) ?_
  refine va_get (D := G) (ci := 2) (v := .ref a2) (C := xc_St) (T := xf_St) (N := 3) hx hb hts xw_St hown hK.1 hP 0 rfl rfl 1 (by decide) (hts _ xm_48) (fun _ h9 => h9) rfl xd_St_keyCount_8 ?_
  refine lv_iload_n hx hb xd_St_keyCount_11 rfl (lv_at hl 1 rfl) ?_
  refine wx_iald hx hb hK.1 hP 1 0 rfl rfl (k := n) (by omega) (by decide) xd_St_keyCount_12 ?_
  refine lv_goto (tgt := 17) hx hb xd_St_keyCount_13 (by decide) ?_
  exact W.iret (v := kc n) hx hb hr (fun T9 ht _ => ⟨_, rfl, rfl, ht⟩) (fun _ h => absurd h List.not_mem_nil) xd_St_keyCount_17
set_option maxHeartbeats 4000000 in
set_option maxRecDepth 100000 in
theorem ct_St_cellAt (l : Launch) (G : va_G) (cA : Nat → ClassId) (o : Nat) (a1 : Nat) (a2 : Nat) (a3 : Nat) (ce : Nat → Int32) (n : Nat) (k : Nat) (hn : n < 40) (hk : k < 26) : Met l xy_St_cellAt (.code xy_St_cellAt xb_St_cellAt 3 (some .int) :: tw_W) ({ frames := 1, cells := 0, slots := 0, locals := 20 }) (pc_r G cA [(o, .inr (2, [.ref a1, .ref a2, .ref a3])), (a3, .inl (cA 0, 1040, .inl ce))] [.ref o, .int (nI n), .int (nI k)]) (vp_Si (fun r : Int32 => r = ce (n * 26 + k))) 0 0 (fun _ => False) := by
  refine Met.ofW (cc := xb_St_cellAt) (maxL := 3) (ret := (some .int)) (by decide) rfl ?_
  intro p e s m args below meth c s₁ B hml hv
  obtain ⟨rfl, hK, hP⟩ := hv
  have hx := B.exec
  have hb := B.bytes
  have hr := B.returns
  have hts0 := atoms_spec (ws := .code xy_St_cellAt xb_St_cellAt 3 (some .int) :: tw_W) B.pre
  have hts : ∀ w9 ∈ tw_W, w9.before [.ref o, .int (nI n), .int (nI k)].toArray s = true := fun w9 h9 => hts0 w9 (List.mem_cons_of_mem _ h9)
  have hown : s.vm.findClass xc_St = some m.cls := findClass_of_methodNamed B.named
  have hlocks := B.notSynchronized
  have hP : va_P G xk_cl [(o, .inr (2, [.ref a1, .ref a2, .ref a3])), (a3, .inl (cA 0, 1040, .inl ce))] s.heap := hP
  have hl := lv_entry ([.ref o, .int (nI n), .int (nI k)]) (n := 3) (Nat.le_of_ble_eq_true rfl)
  rw [lg_entry_eq]
  generalize (lg_sl ([.ref o, .int (nI n), .int (nI k)]) ++ List.replicate (3 - (lg_sl ([.ref o, .int (nI n), .int (nI k)])).length) Slot.unset).toArray = ls at hl ⊢
  have hl : lv_has ls 3 [(0, .ref o), (1, .int (nI n)), (2, .int (nI k))] := hl
  refine lv_iload_n hx hb xd_St_cellAt_0 rfl (lv_at hl 1 rfl) ?_
  have hPc := hP.sub (ws' := []) [] rfl
  refine vp_callSi (va_Run.run (va_runSN (As := [.int (nI n)]) (rest := []) ⟨hx, hb, hml, hown, hts⟩ (ct_X_isObject l G cA (nI n)) ⟨va_cnB 1 hts (tw_g xm_276) rfl rfl rfl (nw_m hK.2 9 rfl) (hts _ xm_1) xh_X_isObject ⟨Nat.le_of_ble_eq_true rfl, Nat.le_of_ble_eq_true rfl⟩, hts _ xm_275, trivial⟩ (ps_r hK hPc) rfl rfl hl.1 rfl (lv_room (Nat.le_of_ble_eq_true rfl)) xd_St_cellAt_1 ⟨Nat.le_of_ble_eq_true rfl, Nat.le_of_ble_eq_true rfl⟩)) (fun r_1 q_2 => ?_)
  refine lx_top (z := sp_ob (nI n)) (q_2) ?_
  refine lx_top (z := nI 1) (sp_ob_t (by omega)) ?_
  refine lv_if_eq (tgt := 28) hx hb xd_St_cellAt_4 (by decide) (fun c_4_2 => absurd c_4_2 (by decide)) (fun c_4_2 => ?_)
  refine lv_iload_n hx hb xd_St_cellAt_7 rfl (lv_at hl 2 rfl) ?_
  have hPc := hP.sub (ws' := []) [] rfl
  refine vp_callSi (va_Run.run (va_runSN (As := [.int (nI k)]) (rest := []) ⟨hx, hb, hml, hown, hts⟩ (ct_X_isKey l G cA (nI k)) ⟨va_cnB 1 hts (tw_g xm_321) rfl rfl rfl (nw_m hK.2 10 rfl) (hts _ xm_1) xh_X_isKey ⟨Nat.le_of_ble_eq_true rfl, Nat.le_of_ble_eq_true rfl⟩, hts _ xm_320, trivial⟩ (ps_r hK hPc) rfl rfl hl.1 rfl (lv_room (Nat.le_of_ble_eq_true rfl)) xd_St_cellAt_8 ⟨Nat.le_of_ble_eq_true rfl, Nat.le_of_ble_eq_true rfl⟩)) (fun r_4 q_5 => ?_)
  refine lx_top (z := sp_ky (nI k)) (q_5) ?_
  refine lx_top (z := nI 1) (sp_ky_t (by omega)) ?_
  refine lv_if_eq (tgt := 28) hx hb xd_St_cellAt_11 (by decide) (fun c_11_5 => absurd c_11_5 (by decide)) (fun c_11_5 => ?_)
  refine lv_aload_n hx hb xd_St_cellAt_14 rfl (lv_at hl 0 rfl) ?_
  refine va_get (D := G) (ci := 2) (v := .ref a3) (C := xc_St) (T := xf_St) (N := 3) hx hb hts xw_St hown hK.1 hP 0 rfl rfl 2 (by decide) (hts _ xm_49) (fun _ h9 => h9) rfl xd_St_cellAt_15 ?_
  refine lv_iload_n hx hb xd_St_cellAt_18 rfl (lv_at hl 1 rfl) ?_
  refine lv_bipush (v := nI 26) hx hb xd_St_cellAt_19 (by decide) ?_
  refine lx_imul (z := nI (n * 26)) hx hb xd_St_cellAt_21 (pk_mul _ _) ?_
  refine lv_iload_n hx hb xd_St_cellAt_22 rfl (lv_at hl 2 rfl) ?_
  refine lx_iadd (z := nI (n * 26 + k)) hx hb xd_St_cellAt_23 (nI_add _ _) ?_
  refine wx_iald hx hb hK.1 hP 1 0 rfl rfl (k := n * 26 + k) (by omega) (by decide) xd_St_cellAt_24 ?_
  refine lv_goto (tgt := 29) hx hb xd_St_cellAt_25 (by decide) ?_
  exact W.iret (v := ce (n * 26 + k)) hx hb hr (fun T9 ht _ => ⟨_, rfl, rfl, ht⟩) (fun _ h => absurd h List.not_mem_nil) xd_St_cellAt_29
