theorem so_F {n : Nat} (h : n < 40) : ¬ sp_ob (nI n) = 0 := (by decide +kernel : ∀ n, n < 40 → ¬ sp_ob (nI n) = 0) n h
theorem sk_F9 {n : Nat} (h : n < 26) : ¬ sp_ky (nI n) = 0 := (by decide +kernel : ∀ n, n < 26 → ¬ sp_ky (nI n) = 0) n h
theorem nI_n0 {n : Nat} (h : n < 2147483648) : ¬ nI n < 0 := nI_nlt (b := 0) (Nat.zero_le _) h
set_option maxHeartbeats 4000000 in
set_option maxRecDepth 100000 in
theorem ct_X_changed (l : Launch) (G : va_G) (cA : Nat → ClassId) (x : Nat) (t : Nat) (ed : Nat) (hi : Nat) (re : Nat) (ua : Nat) (uc : Nat) (pl : Int32) (dl : Int32) (o : Nat) (y : Nat) (uf : Nat → Nat) (i : Nat) (hi_ : i < uc) (hu : uc ≤ 40) : Met l xy_X_changed (.code xy_X_changed xb_X_changed 2 (some .int) :: tw_W) ({ frames := 0, cells := 0, slots := 0, locals := 0 }) (pc_r G cA [(x, .inr (0, [.ref t, .ref o, .ref y, .ref ed, .ref hi, .ref re, .ref ua, .int (nI uc), .int pl, .int dl])), (ua, .inl (cA 0, 40, .inl (tx_A uf)))] [.ref x, .int (nI i)]) (vp_Si (fun r : Int32 => r = nI (uf i))) 0 0 (fun _ => False) := by
  refine Met.ofW (cc := xb_X_changed) (maxL := 2) (ret := (some .int)) (by decide) rfl ?_
  intro p e s m args below meth c s₁ B hml hv
  obtain ⟨rfl, hK, hP⟩ := hv
  have hx := B.exec
  have hb := B.bytes
  have hr := B.returns
  have hts0 := atoms_spec (ws := .code xy_X_changed xb_X_changed 2 (some .int) :: tw_W) B.pre
  have hts : ∀ w9 ∈ tw_W, w9.before [.ref x, .int (nI i)].toArray s = true := fun w9 h9 => hts0 w9 (List.mem_cons_of_mem _ h9)
  have hown : s.vm.findClass xc_X = some m.cls := findClass_of_methodNamed B.named
  have hlocks := B.notSynchronized
  have hP : va_P G xk_cl [(x, .inr (0, [.ref t, .ref o, .ref y, .ref ed, .ref hi, .ref re, .ref ua, .int (nI uc), .int pl, .int dl])), (ua, .inl (cA 0, 40, .inl (tx_A uf)))] s.heap := hP
  have hl := lv_entry ([.ref x, .int (nI i)]) (n := 2) (Nat.le_of_ble_eq_true rfl)
  rw [lg_entry_eq]
  generalize (lg_sl ([.ref x, .int (nI i)]) ++ List.replicate (2 - (lg_sl ([.ref x, .int (nI i)])).length) Slot.unset).toArray = ls at hl ⊢
  have hl : lv_has ls 2 [(0, .ref x), (1, .int (nI i))] := hl
  refine lv_iload_n hx hb xd_X_changed_0 rfl (lv_at hl 1 rfl) ?_
  refine lv_if_lt (tgt := 21) hx hb xd_X_changed_1 (by decide) (fun c_1_0 => absurd c_1_0 (nI_n0 (by omega))) (fun c_1_0 => ?_)
  refine lv_iload_n hx hb xd_X_changed_4 rfl (lv_at hl 1 rfl) ?_
  refine lv_aload_n hx hb xd_X_changed_5 rfl (lv_at hl 0 rfl) ?_
  refine va_get (D := G) (ci := 0) (v := .int (nI uc)) (C := xc_X) (T := xf_X) (N := 10) hx hb hts xw_X hown hK.1 hP 0 rfl rfl 7 (by decide) (hts _ xm_166) (fun _ h9 => h9) rfl xd_X_changed_6 ?_
  refine lv_icmp_ge (tgt := 21) hx hb xd_X_changed_9 (by decide) (fun c_9_1 => absurd c_9_1 (nI_ge (by omega) (by omega))) (fun c_9_1 => ?_)
  refine lv_iload_n hx hb xd_X_changed_12 rfl (lv_at hl 1 rfl) ?_
  refine lv_aload_n hx hb xd_X_changed_13 rfl (lv_at hl 0 rfl) ?_
  refine va_get (D := G) (ci := 0) (v := .ref ua) (C := xc_X) (T := xf_X) (N := 10) hx hb hts xw_X hown hK.1 hP 0 rfl rfl 6 (by decide) (hts _ xm_165) (fun _ h9 => h9) rfl xd_X_changed_14 ?_
  refine va_alen hx hb hK.1 hP 1 0 rfl rfl (v := nI 40) rfl xd_X_changed_17 ?_
  refine lv_icmp_lt (tgt := 31) hx hb xd_X_changed_18 (by decide) (fun c_18_2 => ?_) (fun c_18_2 => absurd (nI_lt (by omega) (by decide)) c_18_2)
  refine lv_aload_n hx hb xd_X_changed_31 rfl (lv_at hl 0 rfl) ?_
  refine va_get (D := G) (ci := 0) (v := .ref ua) (C := xc_X) (T := xf_X) (N := 10) hx hb hts xw_X hown hK.1 hP 0 rfl rfl 6 (by decide) (hts _ xm_165) (fun _ h9 => h9) rfl xd_X_changed_32 ?_
  refine lv_iload_n hx hb xd_X_changed_35 rfl (lv_at hl 1 rfl) ?_
  refine wx_iald hx hb hK.1 hP 1 0 rfl rfl (k := i) (by omega) (by decide) xd_X_changed_36 ?_
  exact W.iret (v := (tx_A uf) i) hx hb hr (fun T9 ht _ => ⟨_, rfl, rfl, ht⟩) (fun _ h => absurd h List.not_mem_nil) xd_X_changed_37
set_option maxHeartbeats 4000000 in
set_option maxRecDepth 100000 in
theorem ctT_X_changed (l : Launch) (G : va_G) (cA : Nat → ClassId) (hfl : l.flags = flags0) (x : Nat) (t : Nat) (ed : Nat) (hi : Nat) (re : Nat) (ua : Nat) (uc : Nat) (pl : Int32) (dl : Int32) (o : Nat) (y : Nat) (uf : Nat → Nat) (x0 : Int32) (hx0 : x0 < 0 ∨ nI uc ≤ x0) : MetT l xy_X_changed (.code xy_X_changed xb_X_changed 2 (some .int) :: tw_W) ({ frames := 6, cells := 1, slots := 6, locals := 82 }) (pc_t G cA [(x, .inr (0, [.ref t, .ref o, .ref y, .ref ed, .ref hi, .ref re, .ref ua, .int (nI uc), .int pl, .int dl])), (ua, .inl (cA 0, 40, .inl (tx_A uf)))] [.ref x, .int x0]) th_X 1 6 := by
  refine MetT.ofW (cc := xb_X_changed) (maxL := 2) (ret := (some .int)) (by decide) rfl ?_
  intro p e s m args below meth c s₁ B hml hv
  obtain ⟨rfl, hK, hP, hT⟩ := hv
  have hx := B.exec
  have hb := B.bytes
  have hr := B.returns
  have hts0 := atoms_spec (ws := .code xy_X_changed xb_X_changed 2 (some .int) :: tw_W) B.pre
  have hts : ∀ w9 ∈ tw_W, w9.before [.ref x, .int x0].toArray s = true := fun w9 h9 => hts0 w9 (List.mem_cons_of_mem _ h9)
  have hown : s.vm.findClass xc_X = some m.cls := findClass_of_methodNamed B.named
  have hlocks := B.notSynchronized
  have hemp := B.noHandlers (hts0 _ List.mem_cons_self)
  have hP : va_P G xk_cl [(x, .inr (0, [.ref t, .ref o, .ref y, .ref ed, .ref hi, .ref re, .ref ua, .int (nI uc), .int pl, .int dl])), (ua, .inl (cA 0, 40, .inl (tx_A uf)))] s.heap := hP
  have hl := lv_entry ([.ref x, .int x0]) (n := 2) (Nat.le_of_ble_eq_true rfl)
  rw [lg_entry_eq]
  generalize (lg_sl ([.ref x, .int x0]) ++ List.replicate (2 - (lg_sl ([.ref x, .int x0])).length) Slot.unset).toArray = ls at hl ⊢
  have hl : lv_has ls 2 [(0, .ref x), (1, .int x0)] := hl
  refine lv_iload_n hx hb xd_X_changed_0 rfl (lv_at hl 1 rfl) ?_
  by_cases q_n : x0 < 0
  · refine lv_if_lt (tgt := 21) hx hb xd_X_changed_1 (by decide) (fun c_1_0 => ?_) (fun c_1_0 => absurd (q_n) c_1_0)
    obtain ⟨qz_, hZ_⟩ := hT.2.2.1
    exact wt_site hx hb hfl hown hts hT hemp hlocks (hl.1.trans hml.symm) hZ_ xd_X_changed_21 xd_X_changed_24 xd_X_changed_25 xd_X_changed_27 xd_X_changed_30 ⟨Nat.le_of_ble_eq_true rfl, Nat.le_of_ble_eq_true rfl, Nat.le_of_ble_eq_true rfl, Nat.le_of_ble_eq_true rfl⟩
  · refine lv_if_lt (tgt := 21) hx hb xd_X_changed_1 (by decide) (fun c_1_1 => absurd c_1_1 (q_n)) (fun c_1_1 => ?_)
    refine lv_iload_n hx hb xd_X_changed_4 rfl (lv_at hl 1 rfl) ?_
    refine lv_aload_n hx hb xd_X_changed_5 rfl (lv_at hl 0 rfl) ?_
    refine va_get (D := G) (ci := 0) (v := .int (nI uc)) (C := xc_X) (T := xf_X) (N := 10) hx hb hts xw_X hown hK.1 hP 0 rfl rfl 7 (by decide) (hts _ xm_166) (fun _ h9 => h9) rfl xd_X_changed_6 ?_
    refine lv_icmp_ge (tgt := 21) hx hb xd_X_changed_9 (by decide) (fun c_9_2 => ?_) (fun c_9_2 => absurd (hx0.resolve_left q_n) c_9_2)
    obtain ⟨qz_, hZ_⟩ := hT.2.2.1
    exact wt_site hx hb hfl hown hts hT hemp hlocks (hl.1.trans hml.symm) hZ_ xd_X_changed_21 xd_X_changed_24 xd_X_changed_25 xd_X_changed_27 xd_X_changed_30 ⟨Nat.le_of_ble_eq_true rfl, Nat.le_of_ble_eq_true rfl, Nat.le_of_ble_eq_true rfl, Nat.le_of_ble_eq_true rfl⟩
set_option maxHeartbeats 4000000 in
set_option maxRecDepth 100000 in
theorem ct_X_kind (l : Launch) (G : va_G) (cA : Nat → ClassId) (x : Nat) (t : Nat) (ed : Nat) (hi : Nat) (re : Nat) (ua : Nat) (uc : Nat) (pl : Int32) (dl : Int32) (o : Nat) (a1 : Nat) (a2 : Nat) (a3 : Nat) (y : Nat) (ce : Nat → Int32) (n : Nat) (k : Nat) (hn : n < 40) (hk : k < 26) : Met l xy_X_kind (.code xy_X_kind xb_X_kind 3 (some .int) :: tw_W) ({ frames := 2, cells := 0, slots := 0, locals := 42 }) (pc_r G cA [(x, .inr (0, [.ref t, .ref o, .ref y, .ref ed, .ref hi, .ref re, .ref ua, .int (nI uc), .int pl, .int dl])), (o, .inr (2, [.ref a1, .ref a2, .ref a3])), (a3, .inl (cA 0, 1040, .inl ce))] [.ref x, .int (nI n), .int (nI k)]) (vp_Si (fun r : Int32 => r = en_K (ce (n * 26 + k)))) 0 0 (fun _ => False) := by
  refine Met.ofW (cc := xb_X_kind) (maxL := 3) (ret := (some .int)) (by decide) rfl ?_
  intro p e s m args below meth c s₁ B hml hv
  obtain ⟨rfl, hK, hP⟩ := hv
  have hx := B.exec
  have hb := B.bytes
  have hr := B.returns
  have hts0 := atoms_spec (ws := .code xy_X_kind xb_X_kind 3 (some .int) :: tw_W) B.pre
  have hts : ∀ w9 ∈ tw_W, w9.before [.ref x, .int (nI n), .int (nI k)].toArray s = true := fun w9 h9 => hts0 w9 (List.mem_cons_of_mem _ h9)
  have hown : s.vm.findClass xc_X = some m.cls := findClass_of_methodNamed B.named
  have hlocks := B.notSynchronized
  have hP : va_P G xk_cl [(x, .inr (0, [.ref t, .ref o, .ref y, .ref ed, .ref hi, .ref re, .ref ua, .int (nI uc), .int pl, .int dl])), (o, .inr (2, [.ref a1, .ref a2, .ref a3])), (a3, .inl (cA 0, 1040, .inl ce))] s.heap := hP
  have hl := lv_entry ([.ref x, .int (nI n), .int (nI k)]) (n := 3) (Nat.le_of_ble_eq_true rfl)
  rw [lg_entry_eq]
  generalize (lg_sl ([.ref x, .int (nI n), .int (nI k)]) ++ List.replicate (3 - (lg_sl ([.ref x, .int (nI n), .int (nI k)])).length) Slot.unset).toArray = ls at hl ⊢
  have hl : lv_has ls 3 [(0, .ref x), (1, .int (nI n)), (2, .int (nI k))] := hl
  refine lv_iload_n hx hb xd_X_kind_0 rfl (lv_at hl 1 rfl) ?_
  have hPc := hP.sub (ws' := []) [] rfl
  refine vp_callSv (va_Run.run (va_runS (As := [.int (nI n)]) (rest := []) ⟨hx, hb, hml, hown, hts⟩ (ct_X_requireObject l G cA (nI n) (so_F hn)) (cwS 1 hts (gi_s xm_572 xm_573 xm_1 xm_574) rfl rfl rfl ⟨rfl, xh_X_requireObject⟩ ⟨Nat.le_of_ble_eq_true rfl, Nat.le_of_ble_eq_true rfl⟩) (ps_r hK hPc) rfl rfl hl.1 rfl (lv_room (Nat.le_of_ble_eq_true rfl)) xd_X_kind_1 ⟨Nat.le_of_ble_eq_true rfl, Nat.le_of_ble_eq_true rfl⟩)) ?_
  refine lv_iload_n hx hb xd_X_kind_4 rfl (lv_at hl 2 rfl) ?_
  have hPc := hP.sub (ws' := []) [] rfl
  refine vp_callSv (va_Run.run (va_runS (As := [.int (nI k)]) (rest := []) ⟨hx, hb, hml, hown, hts⟩ (ct_X_requireKey l G cA (nI k) (sk_F9 hk)) (cwS 1 hts (gi_s xm_584 xm_585 xm_1 xm_586) rfl rfl rfl ⟨rfl, xh_X_requireKey⟩ ⟨Nat.le_of_ble_eq_true rfl, Nat.le_of_ble_eq_true rfl⟩) (ps_r hK hPc) rfl rfl hl.1 rfl (lv_room (Nat.le_of_ble_eq_true rfl)) xd_X_kind_5 ⟨Nat.le_of_ble_eq_true rfl, Nat.le_of_ble_eq_true rfl⟩)) ?_
  refine lv_aload_n hx hb xd_X_kind_8 rfl (lv_at hl 0 rfl) ?_
  refine va_get (D := G) (ci := 0) (v := .ref o) (C := xc_X) (T := xf_X) (N := 10) hx hb hts xw_X hown hK.1 hP 0 rfl rfl 1 (by decide) (hts _ xm_160) (fun _ h9 => h9) rfl xd_X_kind_9 ?_
  refine lv_iload_n hx hb xd_X_kind_12 rfl (lv_at hl 1 rfl) ?_
  refine lv_iload_n hx hb xd_X_kind_13 rfl (lv_at hl 2 rfl) ?_
  have hPc := hP.sub (ws' := [(o, .inr (2, [.ref a1, .ref a2, .ref a3])), (a3, .inl (cA 0, 1040, .inl ce))]) [1, 2] rfl
  refine vp_callSi (va_Run.run (va_runV (As := [.int (nI n), .int (nI k)]) (rest := []) ⟨hx, hb, hml, hown, hts⟩ (ct_St_cellAt l G cA o a1 a2 a3 ce n k (by omega) (by omega)) (cwV 2 hts (gi_v xm_589 xm_347 xm_348 xm_3 xm_349) rfl rfl rfl ⟨rfl, xh_St_cellAt⟩ ⟨Nat.le_of_ble_eq_true rfl, Nat.le_of_ble_eq_true rfl⟩) (pv_r hK hPc (ci := 2) (q0 := 0) rfl rfl) rfl rfl hl.1 rfl (lv_room (Nat.le_of_ble_eq_true rfl)) xd_X_kind_14 ⟨Nat.le_of_ble_eq_true rfl, Nat.le_of_ble_eq_true rfl⟩)) (fun r_5 q_6 => ?_)
  refine lx_top (z := ce (n * 26 + k)) (q_6) ?_
  have hPc := hP.sub (ws' := []) [] rfl
  refine vp_callSi (va_Run.run (va_runS (As := [.int (ce (n * 26 + k))]) (rest := []) ⟨hx, hb, hml, hown, hts⟩ (ct_X_kindOf l G cA (ce (n * 26 + k))) (cwS 1 hts (gi_s xm_590 xm_281 xm_1 xm_282) rfl rfl rfl ⟨rfl, xh_X_kindOf⟩ ⟨Nat.le_of_ble_eq_true rfl, Nat.le_of_ble_eq_true rfl⟩) (ps_r hK hPc) rfl rfl hl.1 rfl (lv_room (Nat.le_of_ble_eq_true rfl)) xd_X_kind_17 ⟨Nat.le_of_ble_eq_true rfl, Nat.le_of_ble_eq_true rfl⟩)) (fun r_7 q_8 => ?_)
  refine lx_top (z := en_K (ce (n * 26 + k))) (q_8) ?_
  exact W.iret (v := en_K (ce (n * 26 + k))) hx hb hr (fun T9 ht _ => ⟨_, rfl, rfl, ht⟩) (fun _ h => absurd h List.not_mem_nil) xd_X_kind_20
set_option maxHeartbeats 4000000 in
set_option maxRecDepth 100000 in
theorem ctT_X_kind (l : Launch) (G : va_G) (cA : Nat → ClassId) (hfl : l.flags = flags0) (x : Nat) (t : Nat) (ed : Nat) (hi : Nat) (re : Nat) (ua : Nat) (uc : Nat) (pl : Int32) (dl : Int32) (o : Nat) (a1 : Nat) (a2 : Nat) (a3 : Nat) (y : Nat) (x0 : Int32) (x1 : Int32) (hx0 : sp_ob x0 = 0 ∨ sp_ky x1 = 0) : MetT l xy_X_kind (.code xy_X_kind xb_X_kind 3 (some .int) :: tw_W) ({ frames := 7, cells := 1, slots := 6, locals := 102 }) (pc_t G cA [(x, .inr (0, [.ref t, .ref o, .ref y, .ref ed, .ref hi, .ref re, .ref ua, .int (nI uc), .int pl, .int dl]))] [.ref x, .int x0, .int x1]) th_X 1 6 := by
  refine MetT.ofW (cc := xb_X_kind) (maxL := 3) (ret := (some .int)) (by decide) rfl ?_
  intro p e s m args below meth c s₁ B hml hv
  obtain ⟨rfl, hK, hP, hT⟩ := hv
  have hx := B.exec
  have hb := B.bytes
  have hr := B.returns
  have hts0 := atoms_spec (ws := .code xy_X_kind xb_X_kind 3 (some .int) :: tw_W) B.pre
  have hts : ∀ w9 ∈ tw_W, w9.before [.ref x, .int x0, .int x1].toArray s = true := fun w9 h9 => hts0 w9 (List.mem_cons_of_mem _ h9)
  have hown : s.vm.findClass xc_X = some m.cls := findClass_of_methodNamed B.named
  have hlocks := B.notSynchronized
  have hemp := B.noHandlers (hts0 _ List.mem_cons_self)
  have hP : va_P G xk_cl [(x, .inr (0, [.ref t, .ref o, .ref y, .ref ed, .ref hi, .ref re, .ref ua, .int (nI uc), .int pl, .int dl]))] s.heap := hP
  have hl := lv_entry ([.ref x, .int x0, .int x1]) (n := 3) (Nat.le_of_ble_eq_true rfl)
  rw [lg_entry_eq]
  generalize (lg_sl ([.ref x, .int x0, .int x1]) ++ List.replicate (3 - (lg_sl ([.ref x, .int x0, .int x1])).length) Slot.unset).toArray = ls at hl ⊢
  have hl : lv_has ls 3 [(0, .ref x), (1, .int x0), (2, .int x1)] := hl
  refine lv_iload_n hx hb xd_X_kind_0 rfl (lv_at hl 1 rfl) ?_
  by_cases q_n : sp_ob x0 = 0
  · have hPc := hP.sub (ws' := []) [] rfl
    exact wt_callS (As := [.int x0]) (rest := []) ⟨hx, hb, hml, hown, hts⟩ (ctT_X_requireObject l G cA hfl x0 q_n) (cwS 1 hts (gi_s xm_572 xm_573 xm_1 xm_574) rfl rfl rfl ⟨rfl, xh_X_requireObject⟩ ⟨Nat.le_of_ble_eq_true rfl, Nat.le_of_ble_eq_true rfl⟩) (ps_t hK hPc hT) hemp hlocks rfl hl.1 (by decide) xd_X_kind_1 ⟨Nat.le_of_ble_eq_true rfl, Nat.le_of_ble_eq_true rfl⟩
  · have hPc := hP.sub (ws' := []) [] rfl
    refine vp_callSv (va_Run.run (va_runS (As := [.int x0]) (rest := []) ⟨hx, hb, hml, hown, hts⟩ (ct_X_requireObject l G cA x0 q_n) (cwS 1 hts (gi_s xm_572 xm_573 xm_1 xm_574) rfl rfl rfl ⟨rfl, xh_X_requireObject⟩ ⟨Nat.le_of_ble_eq_true rfl, Nat.le_of_ble_eq_true rfl⟩) (ps_r hK hPc) rfl rfl hl.1 rfl (lv_room (Nat.le_of_ble_eq_true rfl)) xd_X_kind_1 ⟨Nat.le_of_ble_eq_true rfl, Nat.le_of_ble_eq_true rfl⟩)) ?_
    refine lv_iload_n hx hb xd_X_kind_4 rfl (lv_at hl 2 rfl) ?_
    have hPc := hP.sub (ws' := []) [] rfl
    exact wt_callS (As := [.int x1]) (rest := []) ⟨hx, hb, hml, hown, hts⟩ (ctT_X_requireKey l G cA hfl x1 (hx0.resolve_left q_n)) (cwS 1 hts (gi_s xm_584 xm_585 xm_1 xm_586) rfl rfl rfl ⟨rfl, xh_X_requireKey⟩ ⟨Nat.le_of_ble_eq_true rfl, Nat.le_of_ble_eq_true rfl⟩) (ps_t hK hPc hT) hemp hlocks rfl hl.1 (by decide) xd_X_kind_5 ⟨Nat.le_of_ble_eq_true rfl, Nat.le_of_ble_eq_true rfl⟩
set_option maxHeartbeats 4000000 in
set_option maxRecDepth 100000 in
theorem ct_X_value (l : Launch) (G : va_G) (cA : Nat → ClassId) (x : Nat) (t : Nat) (ed : Nat) (hi : Nat) (re : Nat) (ua : Nat) (uc : Nat) (pl : Int32) (dl : Int32) (o : Nat) (a1 : Nat) (a2 : Nat) (a3 : Nat) (y : Nat) (ce : Nat → Int32) (n : Nat) (k : Nat) (hn : n < 40) (hk : k < 26) : Met l xy_X_value (.code xy_X_value xb_X_value 3 (some .int) :: tw_W) ({ frames := 2, cells := 0, slots := 0, locals := 42 }) (pc_r G cA [(x, .inr (0, [.ref t, .ref o, .ref y, .ref ed, .ref hi, .ref re, .ref ua, .int (nI uc), .int pl, .int dl])), (o, .inr (2, [.ref a1, .ref a2, .ref a3])), (a3, .inl (cA 0, 1040, .inl ce))] [.ref x, .int (nI n), .int (nI k)]) (vp_Si (fun r : Int32 => r = en_V (ce (n * 26 + k)))) 0 0 (fun _ => False) := by
  refine Met.ofW (cc := xb_X_value) (maxL := 3) (ret := (some .int)) (by decide) rfl ?_
  intro p e s m args below meth c s₁ B hml hv
  obtain ⟨rfl, hK, hP⟩ := hv
  have hx := B.exec
  have hb := B.bytes
  have hr := B.returns
  have hts0 := atoms_spec (ws := .code xy_X_value xb_X_value 3 (some .int) :: tw_W) B.pre
  have hts : ∀ w9 ∈ tw_W, w9.before [.ref x, .int (nI n), .int (nI k)].toArray s = true := fun w9 h9 => hts0 w9 (List.mem_cons_of_mem _ h9)
  have hown : s.vm.findClass xc_X = some m.cls := findClass_of_methodNamed B.named
  have hlocks := B.notSynchronized
  have hP : va_P G xk_cl [(x, .inr (0, [.ref t, .ref o, .ref y, .ref ed, .ref hi, .ref re, .ref ua, .int (nI uc), .int pl, .int dl])), (o, .inr (2, [.ref a1, .ref a2, .ref a3])), (a3, .inl (cA 0, 1040, .inl ce))] s.heap := hP
  have hl := lv_entry ([.ref x, .int (nI n), .int (nI k)]) (n := 3) (Nat.le_of_ble_eq_true rfl)
  rw [lg_entry_eq]
  generalize (lg_sl ([.ref x, .int (nI n), .int (nI k)]) ++ List.replicate (3 - (lg_sl ([.ref x, .int (nI n), .int (nI k)])).length) Slot.unset).toArray = ls at hl ⊢
  have hl : lv_has ls 3 [(0, .ref x), (1, .int (nI n)), (2, .int (nI k))] := hl
  refine lv_iload_n hx hb xd_X_value_0 rfl (lv_at hl 1 rfl) ?_
  have hPc := hP.sub (ws' := []) [] rfl
  refine vp_callSv (va_Run.run (va_runS (As := [.int (nI n)]) (rest := []) ⟨hx, hb, hml, hown, hts⟩ (ct_X_requireObject l G cA (nI n) (so_F hn)) (cwS 1 hts (gi_s xm_572 xm_573 xm_1 xm_574) rfl rfl rfl ⟨rfl, xh_X_requireObject⟩ ⟨Nat.le_of_ble_eq_true rfl, Nat.le_of_ble_eq_true rfl⟩) (ps_r hK hPc) rfl rfl hl.1 rfl (lv_room (Nat.le_of_ble_eq_true rfl)) xd_X_value_1 ⟨Nat.le_of_ble_eq_true rfl, Nat.le_of_ble_eq_true rfl⟩)) ?_
  refine lv_iload_n hx hb xd_X_value_4 rfl (lv_at hl 2 rfl) ?_
  have hPc := hP.sub (ws' := []) [] rfl
  refine vp_callSv (va_Run.run (va_runS (As := [.int (nI k)]) (rest := []) ⟨hx, hb, hml, hown, hts⟩ (ct_X_requireKey l G cA (nI k) (sk_F9 hk)) (cwS 1 hts (gi_s xm_584 xm_585 xm_1 xm_586) rfl rfl rfl ⟨rfl, xh_X_requireKey⟩ ⟨Nat.le_of_ble_eq_true rfl, Nat.le_of_ble_eq_true rfl⟩) (ps_r hK hPc) rfl rfl hl.1 rfl (lv_room (Nat.le_of_ble_eq_true rfl)) xd_X_value_5 ⟨Nat.le_of_ble_eq_true rfl, Nat.le_of_ble_eq_true rfl⟩)) ?_
  refine lv_aload_n hx hb xd_X_value_8 rfl (lv_at hl 0 rfl) ?_
  refine va_get (D := G) (ci := 0) (v := .ref o) (C := xc_X) (T := xf_X) (N := 10) hx hb hts xw_X hown hK.1 hP 0 rfl rfl 1 (by decide) (hts _ xm_160) (fun _ h9 => h9) rfl xd_X_value_9 ?_
  refine lv_iload_n hx hb xd_X_value_12 rfl (lv_at hl 1 rfl) ?_
  refine lv_iload_n hx hb xd_X_value_13 rfl (lv_at hl 2 rfl) ?_
  have hPc := hP.sub (ws' := [(o, .inr (2, [.ref a1, .ref a2, .ref a3])), (a3, .inl (cA 0, 1040, .inl ce))]) [1, 2] rfl
  refine vp_callSi (va_Run.run (va_runV (As := [.int (nI n), .int (nI k)]) (rest := []) ⟨hx, hb, hml, hown, hts⟩ (ct_St_cellAt l G cA o a1 a2 a3 ce n k (by omega) (by omega)) (cwV 2 hts (gi_v xm_589 xm_347 xm_348 xm_3 xm_349) rfl rfl rfl ⟨rfl, xh_St_cellAt⟩ ⟨Nat.le_of_ble_eq_true rfl, Nat.le_of_ble_eq_true rfl⟩) (pv_r hK hPc (ci := 2) (q0 := 0) rfl rfl) rfl rfl hl.1 rfl (lv_room (Nat.le_of_ble_eq_true rfl)) xd_X_value_14 ⟨Nat.le_of_ble_eq_true rfl, Nat.le_of_ble_eq_true rfl⟩)) (fun r_5 q_6 => ?_)
  refine lx_top (z := ce (n * 26 + k)) (q_6) ?_
  have hPc := hP.sub (ws' := []) [] rfl
  refine vp_callSi (va_Run.run (va_runS (As := [.int (ce (n * 26 + k))]) (rest := []) ⟨hx, hb, hml, hown, hts⟩ (ct_X_contentOf l G cA (ce (n * 26 + k))) (cwS 1 hts (gi_s xm_598 xm_284 xm_1 xm_285) rfl rfl rfl ⟨rfl, xh_X_contentOf⟩ ⟨Nat.le_of_ble_eq_true rfl, Nat.le_of_ble_eq_true rfl⟩) (ps_r hK hPc) rfl rfl hl.1 rfl (lv_room (Nat.le_of_ble_eq_true rfl)) xd_X_value_17 ⟨Nat.le_of_ble_eq_true rfl, Nat.le_of_ble_eq_true rfl⟩)) (fun r_7 q_8 => ?_)
  refine lx_top (z := en_V (ce (n * 26 + k))) (q_8) ?_
  exact W.iret (v := en_V (ce (n * 26 + k))) hx hb hr (fun T9 ht _ => ⟨_, rfl, rfl, ht⟩) (fun _ h => absurd h List.not_mem_nil) xd_X_value_20
set_option maxHeartbeats 4000000 in
set_option maxRecDepth 100000 in
theorem ctT_X_value (l : Launch) (G : va_G) (cA : Nat → ClassId) (hfl : l.flags = flags0) (x : Nat) (t : Nat) (ed : Nat) (hi : Nat) (re : Nat) (ua : Nat) (uc : Nat) (pl : Int32) (dl : Int32) (o : Nat) (a1 : Nat) (a2 : Nat) (a3 : Nat) (y : Nat) (x0 : Int32) (x1 : Int32) (hx0 : sp_ob x0 = 0 ∨ sp_ky x1 = 0) : MetT l xy_X_value (.code xy_X_value xb_X_value 3 (some .int) :: tw_W) ({ frames := 7, cells := 1, slots := 6, locals := 102 }) (pc_t G cA [(x, .inr (0, [.ref t, .ref o, .ref y, .ref ed, .ref hi, .ref re, .ref ua, .int (nI uc), .int pl, .int dl]))] [.ref x, .int x0, .int x1]) th_X 1 6 := by
  refine MetT.ofW (cc := xb_X_value) (maxL := 3) (ret := (some .int)) (by decide) rfl ?_
  intro p e s m args below meth c s₁ B hml hv
  obtain ⟨rfl, hK, hP, hT⟩ := hv
  have hx := B.exec
  have hb := B.bytes
  have hr := B.returns
  have hts0 := atoms_spec (ws := .code xy_X_value xb_X_value 3 (some .int) :: tw_W) B.pre
  have hts : ∀ w9 ∈ tw_W, w9.before [.ref x, .int x0, .int x1].toArray s = true := fun w9 h9 => hts0 w9 (List.mem_cons_of_mem _ h9)
  have hown : s.vm.findClass xc_X = some m.cls := findClass_of_methodNamed B.named
  have hlocks := B.notSynchronized
  have hemp := B.noHandlers (hts0 _ List.mem_cons_self)
  have hP : va_P G xk_cl [(x, .inr (0, [.ref t, .ref o, .ref y, .ref ed, .ref hi, .ref re, .ref ua, .int (nI uc), .int pl, .int dl]))] s.heap := hP
  have hl := lv_entry ([.ref x, .int x0, .int x1]) (n := 3) (Nat.le_of_ble_eq_true rfl)
  rw [lg_entry_eq]
  generalize (lg_sl ([.ref x, .int x0, .int x1]) ++ List.replicate (3 - (lg_sl ([.ref x, .int x0, .int x1])).length) Slot.unset).toArray = ls at hl ⊢
  have hl : lv_has ls 3 [(0, .ref x), (1, .int x0), (2, .int x1)] := hl
  refine lv_iload_n hx hb xd_X_value_0 rfl (lv_at hl 1 rfl) ?_
  by_cases q_n : sp_ob x0 = 0
  · have hPc := hP.sub (ws' := []) [] rfl
    exact wt_callS (As := [.int x0]) (rest := []) ⟨hx, hb, hml, hown, hts⟩ (ctT_X_requireObject l G cA hfl x0 q_n) (cwS 1 hts (gi_s xm_572 xm_573 xm_1 xm_574) rfl rfl rfl ⟨rfl, xh_X_requireObject⟩ ⟨Nat.le_of_ble_eq_true rfl, Nat.le_of_ble_eq_true rfl⟩) (ps_t hK hPc hT) hemp hlocks rfl hl.1 (by decide) xd_X_value_1 ⟨Nat.le_of_ble_eq_true rfl, Nat.le_of_ble_eq_true rfl⟩
  · have hPc := hP.sub (ws' := []) [] rfl
    refine vp_callSv (va_Run.run (va_runS (As := [.int x0]) (rest := []) ⟨hx, hb, hml, hown, hts⟩ (ct_X_requireObject l G cA x0 q_n) (cwS 1 hts (gi_s xm_572 xm_573 xm_1 xm_574) rfl rfl rfl ⟨rfl, xh_X_requireObject⟩ ⟨Nat.le_of_ble_eq_true rfl, Nat.le_of_ble_eq_true rfl⟩) (ps_r hK hPc) rfl rfl hl.1 rfl (lv_room (Nat.le_of_ble_eq_true rfl)) xd_X_value_1 ⟨Nat.le_of_ble_eq_true rfl, Nat.le_of_ble_eq_true rfl⟩)) ?_
    refine lv_iload_n hx hb xd_X_value_4 rfl (lv_at hl 2 rfl) ?_
    have hPc := hP.sub (ws' := []) [] rfl
    exact wt_callS (As := [.int x1]) (rest := []) ⟨hx, hb, hml, hown, hts⟩ (ctT_X_requireKey l G cA hfl x1 (hx0.resolve_left q_n)) (cwS 1 hts (gi_s xm_584 xm_585 xm_1 xm_586) rfl rfl rfl ⟨rfl, xh_X_requireKey⟩ ⟨Nat.le_of_ble_eq_true rfl, Nat.le_of_ble_eq_true rfl⟩) (ps_t hK hPc hT) hemp hlocks rfl hl.1 (by decide) xd_X_value_5 ⟨Nat.le_of_ble_eq_true rfl, Nat.le_of_ble_eq_true rfl⟩
set_option maxHeartbeats 4000000 in
set_option maxRecDepth 100000 in
theorem ct_X_reached (l : Launch) (G : va_G) (cA : Nat → ClassId) (sz : Nat) (x : Nat) (t : Nat) (ed : Nat) (hi : Nat) (re : Nat) (ua : Nat) (uc : Nat) (pl : Int32) (dl : Int32) (o : Nat) (a1 : Nat) (a2 : Nat) (a3 : Nat) (y : Nat) (rm : Nat) (rq : Nat) (mb : Nat → Bool) (qf : Nat → Nat) (qc : Nat) (st : Nat → Int32) (ce : Nat → Int32) (n : Nat) (hn : n < 40) (hv : wv_O ce) : Met l xy_X_reached (.code xy_X_reached xb_X_reached 2 (some .boolean) :: tw_W) ({ frames := 4, cells := 0, slots := 0, locals := 88 }) (pc_w G cA [(x, .inr (0, [.ref t, .ref o, .ref y, .ref ed, .ref hi, .ref re, .ref ua, .int (nI uc), .int pl, .int dl])), (re, .inr (7, [.ref rm, .ref rq, .int (nI qc)])), (rm, .inl (cA 2, 40, .inl (mk_A mb))), (rq, .inl (cA 0, 40, .inl (tx_A qf))), (o, .inr (2, [.ref a1, .ref a2, .ref a3])), (a1, .inl (cA 0, 40, .inl st)), (a3, .inl (cA 0, 1040, .inl ce))] sz [.ref x, .int (nI n)]) (va_Qi (fun (r : Int32) (u9 : (Nat → Nat) × Nat) => match u9 with | (qf2, qc2) => r = mk_A (rc_B st ce) n) (fun u9 T9 => match u9 with | (qf2, qc2) => at_w G (va_A [(x, .inr (0, [.ref t, .ref o, .ref y, .ref ed, .ref hi, .ref re, .ref ua, .int (nI uc), .int pl, .int dl])), (re, .inr (7, [.ref rm, .ref rq, .int (nI qc)])), (rm, .inl (cA 2, 40, .inl (mk_A mb))), (rq, .inl (cA 0, 40, .inl (tx_A qf))), (o, .inr (2, [.ref a1, .ref a2, .ref a3])), (a1, .inl (cA 0, 40, .inl st)), (a3, .inl (cA 0, 1040, .inl ce))] sz) [(x, .inr (0, [.ref t, .ref o, .ref y, .ref ed, .ref hi, .ref re, .ref ua, .int (nI uc), .int pl, .int dl])), (re, .inr (7, [.ref rm, .ref rq, .int (nI qc2)])), (rm, .inl (cA 2, 40, .inl (mk_A (rc_B st ce)))), (rq, .inl (cA 0, 40, .inl (tx_A qf2))), (o, .inr (2, [.ref a1, .ref a2, .ref a3])), (a1, .inl (cA 0, 40, .inl st)), (a3, .inl (cA 0, 1040, .inl ce))] T9) (va_A [(x, .inr (0, [.ref t, .ref o, .ref y, .ref ed, .ref hi, .ref re, .ref ua, .int (nI uc), .int pl, .int dl])), (re, .inr (7, [.ref rm, .ref rq, .int (nI qc)])), (rm, .inl (cA 2, 40, .inl (mk_A mb))), (rq, .inl (cA 0, 40, .inl (tx_A qf))), (o, .inr (2, [.ref a1, .ref a2, .ref a3])), (a1, .inl (cA 0, 40, .inl st)), (a3, .inl (cA 0, 1040, .inl ce))] sz)) 0 0 (va_A [(x, .inr (0, [.ref t, .ref o, .ref y, .ref ed, .ref hi, .ref re, .ref ua, .int (nI uc), .int pl, .int dl])), (re, .inr (7, [.ref rm, .ref rq, .int (nI qc)])), (rm, .inl (cA 2, 40, .inl (mk_A mb))), (rq, .inl (cA 0, 40, .inl (tx_A qf))), (o, .inr (2, [.ref a1, .ref a2, .ref a3])), (a1, .inl (cA 0, 40, .inl st)), (a3, .inl (cA 0, 1040, .inl ce))] sz) := by
  refine Met.ofW (cc := xb_X_reached) (maxL := 2) (ret := (some .boolean)) (by decide) rfl ?_
  intro p e s m args below meth c s₁ B hml hv
  obtain ⟨rfl, hsz, hK, hP, hD0⟩ := hv
  have hx := B.exec
  have hb := B.bytes
  have hr := B.returns
  have hts0 := atoms_spec (ws := .code xy_X_reached xb_X_reached 2 (some .boolean) :: tw_W) B.pre
  have hts : ∀ w9 ∈ tw_W, w9.before [.ref x, .int (nI n)].toArray s = true := fun w9 h9 => hts0 w9 (List.mem_cons_of_mem _ h9)
  have hown : s.vm.findClass xc_X = some m.cls := findClass_of_methodNamed B.named
  have hlocks := B.notSynchronized
  subst hsz
  have hD := hD0.self (sz := s.heap.size)
  generalize hAe : va_A [(x, .inr (0, [.ref t, .ref o, .ref y, .ref ed, .ref hi, .ref re, .ref ua, .int (nI uc), .int pl, .int dl])), (re, .inr (7, [.ref rm, .ref rq, .int (nI qc)])), (rm, .inl (cA 2, 40, .inl (mk_A mb))), (rq, .inl (cA 0, 40, .inl (tx_A qf))), (o, .inr (2, [.ref a1, .ref a2, .ref a3])), (a1, .inl (cA 0, 40, .inl st)), (a3, .inl (cA 0, 1040, .inl ce))] s.heap.size = A at hD ⊢
  have hA : ∀ q : Nat, s.heap.size ≤ q → A q := fun q h => by rw [← hAe]; exact Or.inr h
  have hS : va_S A s.heap s.heap [] := va_S.rf
  have hP : va_P G xk_cl [(x, .inr (0, [.ref t, .ref o, .ref y, .ref ed, .ref hi, .ref re, .ref ua, .int (nI uc), .int pl, .int dl])), (re, .inr (7, [.ref rm, .ref rq, .int (nI qc)])), (rm, .inl (cA 2, 40, .inl (mk_A mb))), (rq, .inl (cA 0, 40, .inl (tx_A qf))), (o, .inr (2, [.ref a1, .ref a2, .ref a3])), (a1, .inl (cA 0, 40, .inl st)), (a3, .inl (cA 0, 1040, .inl ce))] s.heap := hP
  have hl := lv_entry ([.ref x, .int (nI n)]) (n := 2) (Nat.le_of_ble_eq_true rfl)
  rw [lg_entry_eq]
  generalize (lg_sl ([.ref x, .int (nI n)]) ++ List.replicate (2 - (lg_sl ([.ref x, .int (nI n)])).length) Slot.unset).toArray = ls at hl ⊢
  have hl : lv_has ls 2 [(0, .ref x), (1, .int (nI n))] := hl
  refine lv_iload_n hx hb xd_X_reached_0 rfl (lv_at hl 1 rfl) ?_
  have hPc := hP.sub (ws' := []) [] rfl
  refine vp_callSv (va_Run.run (va_runS (As := [.int (nI n)]) (rest := []) ⟨hx, hb, hml, hown, hts⟩ (ct_X_requireObject l G cA (nI n) (so_F hn)) (cwS 1 hts (gi_s xm_572 xm_573 xm_1 xm_574) rfl rfl rfl ⟨rfl, xh_X_requireObject⟩ ⟨Nat.le_of_ble_eq_true rfl, Nat.le_of_ble_eq_true rfl⟩) (ps_r hK hPc) rfl rfl hl.1 rfl (lv_room (Nat.le_of_ble_eq_true rfl)) xd_X_reached_1 ⟨Nat.le_of_ble_eq_true rfl, Nat.le_of_ble_eq_true rfl⟩)) ?_
  refine lv_aload_n hx hb xd_X_reached_4 rfl (lv_at hl 0 rfl) ?_
  refine va_get (D := G) (ci := 0) (v := .ref re) (C := xc_X) (T := xf_X) (N := 10) hx hb hts xw_X hown hK.1 hP 0 rfl rfl 5 (by decide) (hts _ xm_164) (fun _ h9 => h9) rfl xd_X_reached_5 ?_
  refine lv_aload_n hx hb xd_X_reached_8 rfl (lv_at hl 0 rfl) ?_
  refine va_get (D := G) (ci := 0) (v := .ref o) (C := xc_X) (T := xf_X) (N := 10) hx hb hts xw_X hown hK.1 hP 0 rfl rfl 1 (by decide) (hts _ xm_160) (fun _ h9 => h9) rfl xd_X_reached_9 ?_
  have hPc := hP.sub (ws' := [(re, .inr (7, [.ref rm, .ref rq, .int (nI qc)])), (rm, .inl (cA 2, 40, .inl (mk_A mb))), (rq, .inl (cA 0, 40, .inl (tx_A qf))), (o, .inr (2, [.ref a1, .ref a2, .ref a3])), (a1, .inl (cA 0, 40, .inl st)), (a3, .inl (cA 0, 1040, .inl ce))]) [1, 2, 3, 4, 5, 6] rfl
  have hDc := hD.sub (ws' := [(re, .inr (7, [.ref rm, .ref rq, .int (nI qc)])), (rm, .inl (cA 2, 40, .inl (mk_A mb))), (rq, .inl (cA 0, 40, .inl (tx_A qf))), (o, .inr (2, [.ref a1, .ref a2, .ref a3])), (a1, .inl (cA 0, 40, .inl st)), (a3, .inl (cA 0, 1040, .inl ce))]) [1, 2, 3, 4, 5, 6] (by decide) rfl
  have hFc := va_free (wc := [(re, .inr (7, [.ref rm, .ref rq, .int (nI qc)])), (rm, .inl (cA 2, 40, .inl (mk_A mb))), (rq, .inl (cA 0, 40, .inl (tx_A qf))), (o, .inr (2, [.ref a1, .ref a2, .ref a3])), (a1, .inl (cA 0, 40, .inl st)), (a3, .inl (cA 0, 1040, .inl ce))]) hD hS hA [1, 2, 3, 4, 5, 6] rfl
  refine va_callv (va_runV (As := [.ref o]) (rest := []) ⟨hx, hb, hml, hown, hts⟩ (ct_Re_walk l G cA s.heap.size re rm rq mb qf qc o a1 a2 a3 st ce hv) (cwV 1 hts (gi_v xm_426 xm_427 xm_428 xm_8 xm_429) rfl rfl rfl ⟨rfl, xh_Re_walk⟩ ⟨Nat.le_of_ble_eq_true rfl, Nat.le_of_ble_eq_true rfl⟩) (pv_w hK hPc hDc (ci := 7) (q0 := 0) rfl rfl) rfl rfl hl.1 rfl (lv_room (Nat.le_of_ble_eq_true rfl)) xd_X_reached_12 ⟨Nat.le_of_ble_eq_true rfl, Nat.le_of_ble_eq_true rfl⟩) hS (fun q _ h => hFc q h) hFc (fun u9 t9 H1 locs ht hvm q_4 hB hz1 hk1 hS => ?_)
  obtain ⟨u_qf2_5, u_qc2_6⟩ := u9
  try dsimp only at q_4 hB
  obtain ⟨hP1, hD1⟩ := hB
  rw [ht] at hP1
  obtain ⟨hP, hD⟩ := va_join (wr := [(x, .inr (0, [.ref t, .ref o, .ref y, .ref ed, .ref hi, .ref re, .ref ua, .int (nI uc), .int pl, .int dl]))]) (w1 := [(re, .inr (7, [.ref rm, .ref rq, .int (nI u_qc2_6)])), (rm, .inl (cA 2, 40, .inl (mk_A (rc_B st ce)))), (rq, .inl (cA 0, 40, .inl (tx_A u_qf2_5))), (o, .inr (2, [.ref a1, .ref a2, .ref a3])), (a1, .inl (cA 0, 40, .inl st)), (a3, .inl (cA 0, 1040, .inl ce))]) hP hD [1, 2, 3, 4, 5, 6] [0] rfl rfl (by decide) (by decide) hk1 hFc hP1 hD1
  generalize H1 = H at hP hS ⊢
  have hP : va_P G xk_cl [(x, .inr (0, [.ref t, .ref o, .ref y, .ref ed, .ref hi, .ref re, .ref ua, .int (nI uc), .int pl, .int dl])), (re, .inr (7, [.ref rm, .ref rq, .int (nI u_qc2_6)])), (rm, .inl (cA 2, 40, .inl (mk_A (rc_B st ce)))), (rq, .inl (cA 0, 40, .inl (tx_A u_qf2_5))), (o, .inr (2, [.ref a1, .ref a2, .ref a3])), (a1, .inl (cA 0, 40, .inl st)), (a3, .inl (cA 0, 1040, .inl ce))] H := hP
  have hD : va_D A [(x, .inr (0, [.ref t, .ref o, .ref y, .ref ed, .ref hi, .ref re, .ref ua, .int (nI uc), .int pl, .int dl])), (re, .inr (7, [.ref rm, .ref rq, .int (nI u_qc2_6)])), (rm, .inl (cA 2, 40, .inl (mk_A (rc_B st ce)))), (rq, .inl (cA 0, 40, .inl (tx_A u_qf2_5))), (o, .inr (2, [.ref a1, .ref a2, .ref a3])), (a1, .inl (cA 0, 40, .inl st)), (a3, .inl (cA 0, 1040, .inl ce))] := hD
  refine lv_aload_n hx hb xd_X_reached_15 rfl (lv_at hl 0 rfl) ?_
  refine va_get (D := G) (ci := 0) (v := .ref re) (C := xc_X) (T := xf_X) (N := 10) hx hb hts xw_X hown hK.1 hP 0 rfl rfl 5 (by decide) (hts _ xm_164) (fun _ h9 => h9) rfl xd_X_reached_16 ?_
  refine lv_iload_n hx hb xd_X_reached_19 rfl (lv_at hl 1 rfl) ?_
  have hPc := hP.sub (ws' := [(re, .inr (7, [.ref rm, .ref rq, .int (nI u_qc2_6)])), (rm, .inl (cA 2, 40, .inl (mk_A (rc_B st ce))))]) [1, 2] rfl
  refine vp_callSi (va_Run.run (va_runV (As := [.int (nI n)]) (rest := []) ⟨hx, hb, hml, hown, hts⟩ (ct_Re_has l G cA re rm rq (rc_B st ce) (by omega) u_qc2_6 n (by omega)) (cwV 1 hts (gi_v xm_444 xm_445 xm_446 xm_8 xm_447) rfl rfl rfl ⟨rfl, xh_Re_has⟩ ⟨Nat.le_of_ble_eq_true rfl, Nat.le_of_ble_eq_true rfl⟩) (pv_r hK hPc (ci := 7) (q0 := 0) rfl rfl) rfl rfl hl.1 rfl (lv_room (Nat.le_of_ble_eq_true rfl)) xd_X_reached_20 ⟨Nat.le_of_ble_eq_true rfl, Nat.le_of_ble_eq_true rfl⟩)) (fun r_7 q_8 => ?_)
  refine lx_top (z := mk_A (rc_B st ce) n) (q_8) ?_
  have hP9 : va_P G xk_cl [(x, .inr (0, [.ref t, .ref o, .ref y, .ref ed, .ref hi, .ref re, .ref ua, .int (nI uc), .int pl, .int dl])), (re, .inr (7, [.ref rm, .ref rq, .int (nI u_qc2_6)])), (rm, .inl (cA 2, 40, .inl (mk_A (rc_B st ce)))), (rq, .inl (cA 0, 40, .inl (tx_A u_qf2_5))), (o, .inr (2, [.ref a1, .ref a2, .ref a3])), (a1, .inl (cA 0, 40, .inl st)), (a3, .inl (cA 0, 1040, .inl ce))] _ := hP.sub [0, 1, 2, 3, 4, 5, 6] rfl
  have hD9 : va_D A [(x, .inr (0, [.ref t, .ref o, .ref y, .ref ed, .ref hi, .ref re, .ref ua, .int (nI uc), .int pl, .int dl])), (re, .inr (7, [.ref rm, .ref rq, .int (nI u_qc2_6)])), (rm, .inl (cA 2, 40, .inl (mk_A (rc_B st ce)))), (rq, .inl (cA 0, 40, .inl (tx_A u_qf2_5))), (o, .inr (2, [.ref a1, .ref a2, .ref a3])), (a1, .inl (cA 0, 40, .inl st)), (a3, .inl (cA 0, 1040, .inl ce))] := hD.sub [0, 1, 2, 3, 4, 5, 6] (by decide) rfl
  exact W.zret (v := mk_A (rc_B st ce) n) (ty := .boolean) hx hb hr (by unfold mk_A; split <;> decide) (fun T9 ht hW => ⟨⟨_, (u_qf2_5, u_qc2_6), rfl, rfl, by rw [ht]; exact hP9, hD9⟩, hS.F ht⟩) hS.2.2 xd_X_reached_23
set_option maxHeartbeats 4000000 in
set_option maxRecDepth 100000 in
theorem ctT_X_reached (l : Launch) (G : va_G) (cA : Nat → ClassId) (hfl : l.flags = flags0) (x : Nat) (t : Nat) (ed : Nat) (hi : Nat) (re : Nat) (ua : Nat) (uc : Nat) (pl : Int32) (dl : Int32) (o : Nat) (a1 : Nat) (a2 : Nat) (a3 : Nat) (y : Nat) (x0 : Int32) (hx0 : sp_ob x0 = 0) : MetT l xy_X_reached (.code xy_X_reached xb_X_reached 2 (some .boolean) :: tw_W) ({ frames := 7, cells := 1, slots := 6, locals := 102 }) (pc_t G cA [(x, .inr (0, [.ref t, .ref o, .ref y, .ref ed, .ref hi, .ref re, .ref ua, .int (nI uc), .int pl, .int dl]))] [.ref x, .int x0]) th_X 1 6 := by
  refine MetT.ofW (cc := xb_X_reached) (maxL := 2) (ret := (some .boolean)) (by decide) rfl ?_
  intro p e s m args below meth c s₁ B hml hv
  obtain ⟨rfl, hK, hP, hT⟩ := hv
  have hx := B.exec
  have hb := B.bytes
  have hr := B.returns
  have hts0 := atoms_spec (ws := .code xy_X_reached xb_X_reached 2 (some .boolean) :: tw_W) B.pre
  have hts : ∀ w9 ∈ tw_W, w9.before [.ref x, .int x0].toArray s = true := fun w9 h9 => hts0 w9 (List.mem_cons_of_mem _ h9)
  have hown : s.vm.findClass xc_X = some m.cls := findClass_of_methodNamed B.named
  have hlocks := B.notSynchronized
  have hemp := B.noHandlers (hts0 _ List.mem_cons_self)
  have hP : va_P G xk_cl [(x, .inr (0, [.ref t, .ref o, .ref y, .ref ed, .ref hi, .ref re, .ref ua, .int (nI uc), .int pl, .int dl]))] s.heap := hP
  have hl := lv_entry ([.ref x, .int x0]) (n := 2) (Nat.le_of_ble_eq_true rfl)
  rw [lg_entry_eq]
  generalize (lg_sl ([.ref x, .int x0]) ++ List.replicate (2 - (lg_sl ([.ref x, .int x0])).length) Slot.unset).toArray = ls at hl ⊢
  have hl : lv_has ls 2 [(0, .ref x), (1, .int x0)] := hl
  refine lv_iload_n hx hb xd_X_reached_0 rfl (lv_at hl 1 rfl) ?_
  have hPc := hP.sub (ws' := []) [] rfl
  exact wt_callS (As := [.int x0]) (rest := []) ⟨hx, hb, hml, hown, hts⟩ (ctT_X_requireObject l G cA hfl x0 hx0) (cwS 1 hts (gi_s xm_572 xm_573 xm_1 xm_574) rfl rfl rfl ⟨rfl, xh_X_requireObject⟩ ⟨Nat.le_of_ble_eq_true rfl, Nat.le_of_ble_eq_true rfl⟩) (ps_t hK hPc hT) hemp hlocks rfl hl.1 (by decide) xd_X_reached_1 ⟨Nat.le_of_ble_eq_true rfl, Nat.le_of_ble_eq_true rfl⟩
