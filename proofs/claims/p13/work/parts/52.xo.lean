theorem vp_upd_at (f : Nat → Int64) (k : Nat) (x : Int64) : vp_updL f k x k = x := by simp [vp_updL]
theorem mk_L0 {mb : Nat → Bool} {n : Nat} (h : mk_A mb n = 0) : (0 : Int64) = (mk_A mb n).toInt64 := by rw [h]; decide
theorem mk_L1 {mb : Nat → Bool} {n : Nat} (h : ¬ mk_A mb n = 0) : (1 : Int64) = (mk_A mb n).toInt64 := by
  have e : mk_A mb n = nI 1 := by unfold mk_A at h ⊢; split at h; rename_i g; rw [if_pos g]; exact absurd rfl h
  rw [e]; decide
def ob_R (wh : Int32) (st ce : Nat → Int32) (n : Nat) : Int32 := if wh = nI 0 then sp_th (st n) else if wh = nI 1 then sp_sg (st n) else if wh = nI 2 then sp_kc ce n else nI (ct_N (fun j => ce j == en_C (nI 2) (nI n)) 1040)
theorem th_01 {x : Int32} (h : ¬ sp_th x = 0) : nI 1 = sp_th x := by unfold sp_th at h ⊢; split at h; exact absurd rfl h; rename_i g; rw [if_neg g]
theorem sg_01 {x : Int32} (h : ¬ sp_sg x = 0) : nI 1 = sp_sg x := by unfold sp_sg at h ⊢; split at h; rename_i g; rw [if_pos g]; exact absurd rfl h
set_option maxHeartbeats 4000000 in
set_option maxRecDepth 100000 in
theorem ct_X_object (l : Launch) (G : va_G) (cA : Nat → ClassId) (x : Nat) (t : Nat) (ed : Nat) (hi : Nat) (re : Nat) (ua : Nat) (uc : Nat) (pl : Int32) (dl : Int32) (o : Nat) (a1 : Nat) (a2 : Nat) (a3 : Nat) (y : Nat) (st : Nat → Int32) (ce : Nat → Int32) (n : Nat) (wh : Int32) (hn : n < 40) (hw4 : wh = nI 0 ∨ wh = nI 1 ∨ wh = nI 2 ∨ wh = nI 3) : Met l xy_X_object (.code xy_X_object xb_X_object 3 (some .int) :: tw_W) ({ frames := 2, cells := 0, slots := 0, locals := 45 }) (pc_r G cA [(x, .inr (0, [.ref t, .ref o, .ref y, .ref ed, .ref hi, .ref re, .ref ua, .int (nI uc), .int pl, .int dl])), (o, .inr (2, [.ref a1, .ref a2, .ref a3])), (a1, .inl (cA 0, 40, .inl st)), (a2, .inl (cA 0, 40, .inl (sp_kc ce))), (a3, .inl (cA 0, 1040, .inl ce))] [.ref x, .int (nI n), .int wh]) (vp_Si (fun r : Int32 => r = ob_R wh st ce n)) 0 0 (fun _ => False) := by
  refine Met.ofW (cc := xb_X_object) (maxL := 3) (ret := (some .int)) (by decide) rfl ?_
  intro p e s m args below meth c s₁ B hml hv
  obtain ⟨rfl, hK, hP⟩ := hv
  have hx := B.exec
  have hb := B.bytes
  have hr := B.returns
  have hts0 := atoms_spec (ws := .code xy_X_object xb_X_object 3 (some .int) :: tw_W) B.pre
  have hts : ∀ w9 ∈ tw_W, w9.before [.ref x, .int (nI n), .int wh].toArray s = true := fun w9 h9 => hts0 w9 (List.mem_cons_of_mem _ h9)
  have hown : s.vm.findClass xc_X = some m.cls := findClass_of_methodNamed B.named
  have hlocks := B.notSynchronized
  have hP : va_P G xk_cl [(x, .inr (0, [.ref t, .ref o, .ref y, .ref ed, .ref hi, .ref re, .ref ua, .int (nI uc), .int pl, .int dl])), (o, .inr (2, [.ref a1, .ref a2, .ref a3])), (a1, .inl (cA 0, 40, .inl st)), (a2, .inl (cA 0, 40, .inl (sp_kc ce))), (a3, .inl (cA 0, 1040, .inl ce))] s.heap := hP
  have hl := lv_entry ([.ref x, .int (nI n), .int wh]) (n := 3) (Nat.le_of_ble_eq_true rfl)
  rw [lg_entry_eq]
  generalize (lg_sl ([.ref x, .int (nI n), .int wh]) ++ List.replicate (3 - (lg_sl ([.ref x, .int (nI n), .int wh])).length) Slot.unset).toArray = ls at hl ⊢
  have hl : lv_has ls 3 [(0, .ref x), (1, .int (nI n)), (2, .int wh)] := hl
  refine lv_iload_n hx hb xd_X_object_0 rfl (lv_at hl 1 rfl) ?_
  have hPc := hP.sub (ws' := []) [] rfl
  refine vp_callSv (va_Run.run (va_runS (As := [.int (nI n)]) (rest := []) ⟨hx, hb, hml, hown, hts⟩ (ct_X_requireObject l G cA (nI n) (so_F hn)) (cwS 1 hts (gi_s xm_572 xm_573 xm_1 xm_574) rfl rfl rfl ⟨rfl, xh_X_requireObject⟩ ⟨Nat.le_of_ble_eq_true rfl, Nat.le_of_ble_eq_true rfl⟩) (ps_r hK hPc) rfl rfl hl.1 rfl (lv_room (Nat.le_of_ble_eq_true rfl)) xd_X_object_1 ⟨Nat.le_of_ble_eq_true rfl, Nat.le_of_ble_eq_true rfl⟩)) ?_
  refine lv_iload_n hx hb xd_X_object_4 rfl (lv_at hl 2 rfl) ?_
  by_cases q_0 : wh = nI 0
  · refine lx_top (z := nI 0) (q_0) ?_
    refine lv_tableIn (tgt := 36) (off := 31) hx hb xd_X_object_5 (by decide) (by decide) (by decide) (by decide) ?_
    refine lv_aload_n hx hb xd_X_object_36 rfl (lv_at hl 0 rfl) ?_
    refine va_get (D := G) (ci := 0) (v := .ref o) (C := xc_X) (T := xf_X) (N := 10) hx hb hts xw_X hown hK.1 hP 0 rfl rfl 1 (by decide) (hts _ xm_160) (fun _ h9 => h9) rfl xd_X_object_37 ?_
    refine lv_iload_n hx hb xd_X_object_40 rfl (lv_at hl 1 rfl) ?_
    have hPc := hP.sub (ws' := [(o, .inr (2, [.ref a1, .ref a2, .ref a3])), (a1, .inl (cA 0, 40, .inl st))]) [1, 2] rfl
    refine vp_callSi (va_Run.run (va_runV (As := [.int (nI n)]) (rest := []) ⟨hx, hb, hml, hown, hts⟩ (ct_St_isThere l G cA o a1 a2 a3 st n (by omega)) (cwV 1 hts (gi_v xm_443 xm_291 xm_292 xm_3 xm_293) rfl rfl rfl ⟨rfl, xh_St_isThere⟩ ⟨Nat.le_of_ble_eq_true rfl, Nat.le_of_ble_eq_true rfl⟩) (pv_r hK hPc (ci := 2) (q0 := 0) rfl rfl) rfl rfl hl.1 rfl (lv_room (Nat.le_of_ble_eq_true rfl)) xd_X_object_41 ⟨Nat.le_of_ble_eq_true rfl, Nat.le_of_ble_eq_true rfl⟩)) (fun r_3 q_4 => ?_)
    refine lx_top (z := sp_th (st n)) (q_4) ?_
    refine lv_if_eq (tgt := 51) hx hb xd_X_object_44 (by decide) (fun c_44_4 => ?_) (fun c_44_4 => ?_)
    · refine lv_iconst (v := nI 0) hx hb xd_X_object_51 (by decide) ?_
      exact W.iret (v := nI 0) hx hb hr (fun T9 ht _ => ⟨_, rfl, by rw [ob_R, if_pos q_0]; exact (c_44_4).symm, ht⟩) (fun _ h => absurd h List.not_mem_nil) xd_X_object_52
    · refine lv_iconst (v := nI 1) hx hb xd_X_object_47 (by decide) ?_
      refine lv_goto (tgt := 52) hx hb xd_X_object_48 (by decide) ?_
      exact W.iret (v := nI 1) hx hb hr (fun T9 ht _ => ⟨_, rfl, by rw [ob_R, if_pos q_0]; exact th_01 c_44_4, ht⟩) (fun _ h => absurd h List.not_mem_nil) xd_X_object_52
  · by_cases q_1 : wh = nI 1
    · refine lx_top (z := nI 1) (q_1) ?_
      refine lv_tableIn (tgt := 53) (off := 48) hx hb xd_X_object_5 (by decide) (by decide) (by decide) (by decide) ?_
      refine lv_aload_n hx hb xd_X_object_53 rfl (lv_at hl 0 rfl) ?_
      refine va_get (D := G) (ci := 0) (v := .ref o) (C := xc_X) (T := xf_X) (N := 10) hx hb hts xw_X hown hK.1 hP 0 rfl rfl 1 (by decide) (hts _ xm_160) (fun _ h9 => h9) rfl xd_X_object_54 ?_
      refine lv_iload_n hx hb xd_X_object_57 rfl (lv_at hl 1 rfl) ?_
      have hPc := hP.sub (ws' := [(o, .inr (2, [.ref a1, .ref a2, .ref a3])), (a1, .inl (cA 0, 40, .inl st))]) [1, 2] rfl
      refine vp_callSi (va_Run.run (va_runV (As := [.int (nI n)]) (rest := []) ⟨hx, hb, hml, hown, hts⟩ (ct_St_isSigned l G cA o a1 a2 a3 st n (by omega)) (cwV 1 hts (gi_v xm_606 xm_308 xm_309 xm_3 xm_310) rfl rfl rfl ⟨rfl, xh_St_isSigned⟩ ⟨Nat.le_of_ble_eq_true rfl, Nat.le_of_ble_eq_true rfl⟩) (pv_r hK hPc (ci := 2) (q0 := 0) rfl rfl) rfl rfl hl.1 rfl (lv_room (Nat.le_of_ble_eq_true rfl)) xd_X_object_58 ⟨Nat.le_of_ble_eq_true rfl, Nat.le_of_ble_eq_true rfl⟩)) (fun r_6 q_7 => ?_)
      refine lx_top (z := sp_sg (st n)) (q_7) ?_
      refine lv_if_eq (tgt := 68) hx hb xd_X_object_61 (by decide) (fun c_61_7 => ?_) (fun c_61_7 => ?_)
      · refine lv_iconst (v := nI 0) hx hb xd_X_object_68 (by decide) ?_
        exact W.iret (v := nI 0) hx hb hr (fun T9 ht _ => ⟨_, rfl, by rw [ob_R, if_neg q_0, if_pos q_1]; exact (c_61_7).symm, ht⟩) (fun _ h => absurd h List.not_mem_nil) xd_X_object_69
      · refine lv_iconst (v := nI 1) hx hb xd_X_object_64 (by decide) ?_
        refine lv_goto (tgt := 69) hx hb xd_X_object_65 (by decide) ?_
        exact W.iret (v := nI 1) hx hb hr (fun T9 ht _ => ⟨_, rfl, by rw [ob_R, if_neg q_0, if_pos q_1]; exact sg_01 c_61_7, ht⟩) (fun _ h => absurd h List.not_mem_nil) xd_X_object_69
    · by_cases q_2 : wh = nI 2
      · refine lx_top (z := nI 2) (q_2) ?_
        refine lv_tableIn (tgt := 70) (off := 65) hx hb xd_X_object_5 (by decide) (by decide) (by decide) (by decide) ?_
        refine lv_aload_n hx hb xd_X_object_70 rfl (lv_at hl 0 rfl) ?_
        refine va_get (D := G) (ci := 0) (v := .ref o) (C := xc_X) (T := xf_X) (N := 10) hx hb hts xw_X hown hK.1 hP 0 rfl rfl 1 (by decide) (hts _ xm_160) (fun _ h9 => h9) rfl xd_X_object_71 ?_
        refine lv_iload_n hx hb xd_X_object_74 rfl (lv_at hl 1 rfl) ?_
        have hPc := hP.sub (ws' := [(o, .inr (2, [.ref a1, .ref a2, .ref a3])), (a2, .inl (cA 0, 40, .inl (sp_kc ce)))]) [1, 3] rfl
        refine vp_callSi (va_Run.run (va_runV (As := [.int (nI n)]) (rest := []) ⟨hx, hb, hml, hown, hts⟩ (ct_St_keyCount l G cA o a1 a2 a3 (sp_kc ce) n (by omega)) (cwV 1 hts (gi_v xm_607 xm_402 xm_403 xm_3 xm_404) rfl rfl rfl ⟨rfl, xh_St_keyCount⟩ ⟨Nat.le_of_ble_eq_true rfl, Nat.le_of_ble_eq_true rfl⟩) (pv_r hK hPc (ci := 2) (q0 := 0) rfl rfl) rfl rfl hl.1 rfl (lv_room (Nat.le_of_ble_eq_true rfl)) xd_X_object_75 ⟨Nat.le_of_ble_eq_true rfl, Nat.le_of_ble_eq_true rfl⟩)) (fun r_9 q_10 => ?_)
        refine lx_top (z := (sp_kc ce) n) (q_10) ?_
        exact W.iret (v := (sp_kc ce) n) hx hb hr (fun T9 ht _ => ⟨_, rfl, by rw [ob_R, if_neg q_0, if_neg q_1, if_pos q_2], ht⟩) (fun _ h => absurd h List.not_mem_nil) xd_X_object_78
      · have q_3 : wh = nI 3 := ((hw4.resolve_left q_0).resolve_left q_1).resolve_left q_2
        refine lx_top (z := nI 3) (q_3) ?_
        refine lv_tableIn (tgt := 79) (off := 74) hx hb xd_X_object_5 (by decide) (by decide) (by decide) (by decide) ?_
        refine lv_aload_n hx hb xd_X_object_79 rfl (lv_at hl 0 rfl) ?_
        refine va_get (D := G) (ci := 0) (v := .ref o) (C := xc_X) (T := xf_X) (N := 10) hx hb hts xw_X hown hK.1 hP 0 rfl rfl 1 (by decide) (hts _ xm_160) (fun _ h9 => h9) rfl xd_X_object_80 ?_
        refine lv_iload_n hx hb xd_X_object_83 rfl (lv_at hl 1 rfl) ?_
        have hPc := hP.sub (ws' := [(o, .inr (2, [.ref a1, .ref a2, .ref a3])), (a3, .inl (cA 0, 1040, .inl ce))]) [1, 4] rfl
        refine vp_callSi (va_Run.run (va_runV (As := [.int (nI n)]) (rest := []) ⟨hx, hb, hml, hown, hts⟩ (ct_St_referencesTo l G cA o a1 a2 a3 ce n) (cwV 1 hts (gi_v xm_608 xm_609 xm_610 xm_3 xm_611) rfl rfl rfl ⟨rfl, xh_St_referencesTo⟩ ⟨Nat.le_of_ble_eq_true rfl, Nat.le_of_ble_eq_true rfl⟩) (pv_r hK hPc (ci := 2) (q0 := 0) rfl rfl) rfl rfl hl.1 rfl (lv_room (Nat.le_of_ble_eq_true rfl)) xd_X_object_84 ⟨Nat.le_of_ble_eq_true rfl, Nat.le_of_ble_eq_true rfl⟩)) (fun r_11 q_12 => ?_)
        refine lx_top (z := nI (ct_N (fun j => ce j == en_C (nI 2) (nI n)) 1040)) (q_12) ?_
        exact W.iret (v := nI (ct_N (fun j => ce j == en_C (nI 2) (nI n)) 1040)) hx hb hr (fun T9 ht _ => ⟨_, rfl, by rw [ob_R, if_neg q_0, if_neg q_1, if_neg q_2], ht⟩) (fun _ h => absurd h List.not_mem_nil) xd_X_object_87
set_option maxHeartbeats 4000000 in
set_option maxRecDepth 100000 in
theorem ctT_X_object (l : Launch) (G : va_G) (cA : Nat → ClassId) (hfl : l.flags = flags0) (x : Nat) (t : Nat) (ed : Nat) (hi : Nat) (re : Nat) (ua : Nat) (uc : Nat) (pl : Int32) (dl : Int32) (o : Nat) (a1 : Nat) (a2 : Nat) (a3 : Nat) (y : Nat) (x0 : Int32) (wh : Int32) (hx0 : sp_ob x0 = 0 ∨ (¬ wh = nI 0 ∧ ¬ wh = nI 1 ∧ ¬ wh = nI 2 ∧ ¬ wh = nI 3)) : MetT l xy_X_object (.code xy_X_object xb_X_object 3 (some .int) :: tw_W) ({ frames := 7, cells := 1, slots := 6, locals := 102 }) (pc_t G cA [(x, .inr (0, [.ref t, .ref o, .ref y, .ref ed, .ref hi, .ref re, .ref ua, .int (nI uc), .int pl, .int dl]))] [.ref x, .int x0, .int wh]) th_X 1 6 := by
  refine MetT.ofW (cc := xb_X_object) (maxL := 3) (ret := (some .int)) (by decide) rfl ?_
  intro p e s m args below meth c s₁ B hml hv
  obtain ⟨rfl, hK, hP, hT⟩ := hv
  have hx := B.exec
  have hb := B.bytes
  have hr := B.returns
  have hts0 := atoms_spec (ws := .code xy_X_object xb_X_object 3 (some .int) :: tw_W) B.pre
  have hts : ∀ w9 ∈ tw_W, w9.before [.ref x, .int x0, .int wh].toArray s = true := fun w9 h9 => hts0 w9 (List.mem_cons_of_mem _ h9)
  have hown : s.vm.findClass xc_X = some m.cls := findClass_of_methodNamed B.named
  have hlocks := B.notSynchronized
  have hemp := B.noHandlers (hts0 _ List.mem_cons_self)
  have hP : va_P G xk_cl [(x, .inr (0, [.ref t, .ref o, .ref y, .ref ed, .ref hi, .ref re, .ref ua, .int (nI uc), .int pl, .int dl]))] s.heap := hP
  have hl := lv_entry ([.ref x, .int x0, .int wh]) (n := 3) (Nat.le_of_ble_eq_true rfl)
  rw [lg_entry_eq]
  generalize (lg_sl ([.ref x, .int x0, .int wh]) ++ List.replicate (3 - (lg_sl ([.ref x, .int x0, .int wh])).length) Slot.unset).toArray = ls at hl ⊢
  have hl : lv_has ls 3 [(0, .ref x), (1, .int x0), (2, .int wh)] := hl
  refine lv_iload_n hx hb xd_X_object_0 rfl (lv_at hl 1 rfl) ?_
  by_cases q_n : sp_ob x0 = 0
  · have hPc := hP.sub (ws' := []) [] rfl
    exact wt_callS (As := [.int x0]) (rest := []) ⟨hx, hb, hml, hown, hts⟩ (ctT_X_requireObject l G cA hfl x0 q_n) (cwS 1 hts (gi_s xm_572 xm_573 xm_1 xm_574) rfl rfl rfl ⟨rfl, xh_X_requireObject⟩ ⟨Nat.le_of_ble_eq_true rfl, Nat.le_of_ble_eq_true rfl⟩) (ps_t hK hPc hT) hemp hlocks rfl hl.1 (by decide) xd_X_object_1 ⟨Nat.le_of_ble_eq_true rfl, Nat.le_of_ble_eq_true rfl⟩
  · have hPc := hP.sub (ws' := []) [] rfl
    refine vp_callSv (va_Run.run (va_runS (As := [.int x0]) (rest := []) ⟨hx, hb, hml, hown, hts⟩ (ct_X_requireObject l G cA x0 q_n) (cwS 1 hts (gi_s xm_572 xm_573 xm_1 xm_574) rfl rfl rfl ⟨rfl, xh_X_requireObject⟩ ⟨Nat.le_of_ble_eq_true rfl, Nat.le_of_ble_eq_true rfl⟩) (ps_r hK hPc) rfl rfl hl.1 rfl (lv_room (Nat.le_of_ble_eq_true rfl)) xd_X_object_1 ⟨Nat.le_of_ble_eq_true rfl, Nat.le_of_ble_eq_true rfl⟩)) ?_
    refine lv_iload_n hx hb xd_X_object_4 rfl (lv_at hl 2 rfl) ?_
    have q_0 : ¬ wh = nI 0 := (hx0.resolve_left q_n).1
    have q_1 : ¬ wh = nI 1 := (hx0.resolve_left q_n).2.1
    have q_2 : ¬ wh = nI 2 := (hx0.resolve_left q_n).2.2.1
    have q_3 : ¬ wh = nI 3 := (hx0.resolve_left q_n).2.2.2
    refine lv_tableOut (tgt := 88) hx hb xd_X_object_5 (by have h0 := lv_neT (a := 0) q_0 (by decide); have h1 := lv_neT (a := 1) q_1 (by decide); have h2 := lv_neT (a := 2) q_2 (by decide); have h3 := lv_neT (a := 3) q_3 (by decide); omega) (by decide) ?_
    obtain ⟨qz_, hZ_⟩ := hT.2.2.2.2.2
    exact wt_site hx hb hfl hown hts hT hemp hlocks (hl.1.trans hml.symm) hZ_ xd_X_object_88 xd_X_object_91 xd_X_object_92 xd_X_object_94 xd_X_object_97 ⟨Nat.le_of_ble_eq_true rfl, Nat.le_of_ble_eq_true rfl, Nat.le_of_ble_eq_true rfl, Nat.le_of_ble_eq_true rfl⟩
set_option maxHeartbeats 4000000 in
set_option maxRecDepth 100000 in
theorem ct_La_changed (l : Launch) (G : va_G) (cA : Nat → ClassId) (sz : Nat) (x : Nat) (t : Nat) (ed : Nat) (hi : Nat) (re : Nat) (ua : Nat) (uc : Nat) (pl : Int32) (dl : Int32) (o : Nat) (y : Nat) (uf : Nat → Nat) (i : Nat) (hi_ : i < uc) (hu : uc ≤ 40) (ou : Nat) (of : Nat → Int64) : Met l xy_La_changed (.codeWith xy_La_changed xb_La_changed 4 (some .int) [((0 : Nat), (9 : Nat), (12 : Nat), (13 : Nat))] :: tw_W) ({ frames := 1, cells := 0, slots := 0, locals := 21 }) (pc_w G cA [(x, .inr (0, [.ref t, .ref o, .ref y, .ref ed, .ref hi, .ref re, .ref ua, .int (nI uc), .int pl, .int dl])), (ua, .inl (cA 0, 40, .inl (tx_A uf))), (ou, .inl (cA 4, 1, .inr (.inl of)))] sz [.ref x, .int (nI i), .ref ou]) (va_Qi (fun (r : Int32) (_ : Unit) => r = nI 0) (fun _ T9 => at_w G (va_A [(x, .inr (0, [.ref t, .ref o, .ref y, .ref ed, .ref hi, .ref re, .ref ua, .int (nI uc), .int pl, .int dl])), (ua, .inl (cA 0, 40, .inl (tx_A uf))), (ou, .inl (cA 4, 1, .inr (.inl of)))] sz) [(x, .inr (0, [.ref t, .ref o, .ref y, .ref ed, .ref hi, .ref re, .ref ua, .int (nI uc), .int pl, .int dl])), (ua, .inl (cA 0, 40, .inl (tx_A uf))), (ou, .inl (cA 4, 1, .inr (.inl (vp_updL of 0 ((nI (uf i)).toInt64)))))] T9) (va_A [(x, .inr (0, [.ref t, .ref o, .ref y, .ref ed, .ref hi, .ref re, .ref ua, .int (nI uc), .int pl, .int dl])), (ua, .inl (cA 0, 40, .inl (tx_A uf))), (ou, .inl (cA 4, 1, .inr (.inl of)))] sz)) 0 0 (va_A [(x, .inr (0, [.ref t, .ref o, .ref y, .ref ed, .ref hi, .ref re, .ref ua, .int (nI uc), .int pl, .int dl])), (ua, .inl (cA 0, 40, .inl (tx_A uf))), (ou, .inl (cA 4, 1, .inr (.inl of)))] sz) := by
  refine va_MetW (cc := xb_La_changed) (maxL := 4) (ret := (some .int)) (hh := [((0 : Nat), (9 : Nat), (12 : Nat), (13 : Nat))]) (by decide) rfl ?_
  intro p e s m args below meth c s₁ B hml hv
  obtain ⟨rfl, hsz, hK, hP, hD0⟩ := hv
  have hx := B.exec
  have hb := B.bytes
  have hr := B.returns
  have hts0 := atoms_spec (ws := .codeWith xy_La_changed xb_La_changed 4 (some .int) [((0 : Nat), (9 : Nat), (12 : Nat), (13 : Nat))] :: tw_W) B.pre
  have hts : ∀ w9 ∈ tw_W, w9.before [.ref x, .int (nI i), .ref ou].toArray s = true := fun w9 h9 => hts0 w9 (List.mem_cons_of_mem _ h9)
  have hown : s.vm.findClass xc_La = some m.cls := findClass_of_methodNamed B.named
  have hlocks := B.notSynchronized
  have htab_ := cw_tab B (hts0 _ List.mem_cons_self)
  subst hsz
  have hD := hD0.self (sz := s.heap.size)
  generalize hAe : va_A [(x, .inr (0, [.ref t, .ref o, .ref y, .ref ed, .ref hi, .ref re, .ref ua, .int (nI uc), .int pl, .int dl])), (ua, .inl (cA 0, 40, .inl (tx_A uf))), (ou, .inl (cA 4, 1, .inr (.inl of)))] s.heap.size = A at hD ⊢
  have hA : ∀ q : Nat, s.heap.size ≤ q → A q := fun q h => by rw [← hAe]; exact Or.inr h
  have hS : va_S A s.heap s.heap [] := va_S.rf
  have hP : va_P G xk_cl [(x, .inr (0, [.ref t, .ref o, .ref y, .ref ed, .ref hi, .ref re, .ref ua, .int (nI uc), .int pl, .int dl])), (ua, .inl (cA 0, 40, .inl (tx_A uf))), (ou, .inl (cA 4, 1, .inr (.inl of)))] s.heap := hP
  have hl := lv_entry ([.ref x, .int (nI i), .ref ou]) (n := 4) (Nat.le_of_ble_eq_true rfl)
  rw [lg_entry_eq]
  generalize (lg_sl ([.ref x, .int (nI i), .ref ou]) ++ List.replicate (4 - (lg_sl ([.ref x, .int (nI i), .ref ou])).length) Slot.unset).toArray = ls at hl ⊢
  have hl : lv_has ls 4 [(0, .ref x), (1, .int (nI i)), (2, .ref ou)] := hl
  refine lv_aload_n hx hb xd_La_changed_0 rfl (lv_at hl 2 rfl) ?_
  refine lv_iconst (v := nI 0) hx hb xd_La_changed_1 (by decide) ?_
  refine lv_aload_n hx hb xd_La_changed_2 rfl (lv_at hl 0 rfl) ?_
  refine lv_iload_n hx hb xd_La_changed_3 rfl (lv_at hl 1 rfl) ?_
  have hPc := hP.sub (ws' := [(x, .inr (0, [.ref t, .ref o, .ref y, .ref ed, .ref hi, .ref re, .ref ua, .int (nI uc), .int pl, .int dl])), (ua, .inl (cA 0, 40, .inl (tx_A uf)))]) [0, 1] rfl
  refine vp_callSi (va_Run.run (va_runV (As := [.int (nI i)]) (rest := [.int (nI 0), .ref ou]) ⟨hx, hb, hml, hown, hts⟩ (ct_X_changed l G cA x t ed hi re ua uc pl dl o y uf i (by omega) (by omega)) (cwV 1 hts (gi_v xm_495 xm_496 xm_497 xm_1 xm_498) rfl rfl rfl ⟨rfl, xh_X_changed⟩ ⟨Nat.le_of_ble_eq_true rfl, Nat.le_of_ble_eq_true rfl⟩) (pv_r hK hPc (ci := 0) (q0 := 0) rfl rfl) rfl rfl hl.1 rfl (lv_room (Nat.le_of_ble_eq_true rfl)) xd_La_changed_4 ⟨Nat.le_of_ble_eq_true rfl, Nat.le_of_ble_eq_true rfl⟩)) (fun r_1 q_2 => ?_)
  refine lx_top (z := nI (uf i)) (q_2) ?_
  refine lv_i2l (v := (nI (uf i)).toInt64) hx hb xd_La_changed_7 rfl ?_
  refine va_last hx hb hK.1 hP hD hS 2 4 rfl rfl (vi_nI (by decide) (by decide)) xd_La_changed_8 (fun H locs hP hD hS => ?_)
  rw [nI_clamp (by omega)] at hP hD
  have hP : va_P G xk_cl [(x, .inr (0, [.ref t, .ref o, .ref y, .ref ed, .ref hi, .ref re, .ref ua, .int (nI uc), .int pl, .int dl])), (ua, .inl (cA 0, 40, .inl (tx_A uf))), (ou, .inl (cA 4, 1, .inr (.inl (vp_updL of 0 ((nI (uf i)).toInt64)))))] H := hP
  have hD : va_D A [(x, .inr (0, [.ref t, .ref o, .ref y, .ref ed, .ref hi, .ref re, .ref ua, .int (nI uc), .int pl, .int dl])), (ua, .inl (cA 0, 40, .inl (tx_A uf))), (ou, .inl (cA 4, 1, .inr (.inl (vp_updL of 0 ((nI (uf i)).toInt64)))))] := hD
  refine lv_goto (tgt := 15) hx hb xd_La_changed_9 (by decide) ?_
  refine lv_iconst (v := nI 0) hx hb xd_La_changed_15 (by decide) ?_
  have hP9 : va_P G xk_cl [(x, .inr (0, [.ref t, .ref o, .ref y, .ref ed, .ref hi, .ref re, .ref ua, .int (nI uc), .int pl, .int dl])), (ua, .inl (cA 0, 40, .inl (tx_A uf))), (ou, .inl (cA 4, 1, .inr (.inl (vp_updL of 0 ((nI (uf i)).toInt64)))))] _ := hP.sub [0, 1, 2] rfl
  have hD9 : va_D A [(x, .inr (0, [.ref t, .ref o, .ref y, .ref ed, .ref hi, .ref re, .ref ua, .int (nI uc), .int pl, .int dl])), (ua, .inl (cA 0, 40, .inl (tx_A uf))), (ou, .inl (cA 4, 1, .inr (.inl (vp_updL of 0 ((nI (uf i)).toInt64)))))] := hD.sub [0, 1, 2] (by decide) rfl
  exact W.iret (v := nI 0) hx hb hr (fun T9 ht hW => ⟨⟨_, (), rfl, rfl, by rw [ht]; exact hP9, hD9⟩, hS.F ht⟩) hS.2.2 xd_La_changed_16
set_option maxHeartbeats 4000000 in
set_option maxRecDepth 100000 in
theorem ctE_La_changed (l : Launch) (G : va_G) (cA : Nat → ClassId) (hfl : l.flags = flags0) (sz : Nat) (x : Nat) (t : Nat) (ed : Nat) (hi : Nat) (re : Nat) (ua : Nat) (uc : Nat) (pl : Int32) (dl : Int32) (o : Nat) (y : Nat) (uf : Nat → Nat) (x0 : Int32) (hx0 : x0 < 0 ∨ nI uc ≤ x0) (ou : Nat) (of : Nat → Int64) : Met l xy_La_changed (.codeWith xy_La_changed xb_La_changed 4 (some .int) [((0 : Nat), (9 : Nat), (12 : Nat), (13 : Nat))] :: tw_W) ({ frames := 7, cells := 1, slots := 6, locals := 103 }) (pc_u G cA [(x, .inr (0, [.ref t, .ref o, .ref y, .ref ed, .ref hi, .ref re, .ref ua, .int (nI uc), .int pl, .int dl])), (ua, .inl (cA 0, 40, .inl (tx_A uf))), (ou, .inl (cA 4, 1, .inr (.inl of)))] sz [.ref x, .int x0, .ref ou]) (va_Qi (fun (r : Int32) (_ : Unit) => r = nI 1) (fun _ T9 => at_w G (va_A [(x, .inr (0, [.ref t, .ref o, .ref y, .ref ed, .ref hi, .ref re, .ref ua, .int (nI uc), .int pl, .int dl])), (ua, .inl (cA 0, 40, .inl (tx_A uf))), (ou, .inl (cA 4, 1, .inr (.inl of)))] sz) [(x, .inr (0, [.ref t, .ref o, .ref y, .ref ed, .ref hi, .ref re, .ref ua, .int (nI uc), .int pl, .int dl])), (ua, .inl (cA 0, 40, .inl (tx_A uf))), (ou, .inl (cA 4, 1, .inr (.inl of)))] T9) (va_A [(x, .inr (0, [.ref t, .ref o, .ref y, .ref ed, .ref hi, .ref re, .ref ua, .int (nI uc), .int pl, .int dl])), (ua, .inl (cA 0, 40, .inl (tx_A uf))), (ou, .inl (cA 4, 1, .inr (.inl of)))] sz)) 1 6 (va_A [(x, .inr (0, [.ref t, .ref o, .ref y, .ref ed, .ref hi, .ref re, .ref ua, .int (nI uc), .int pl, .int dl])), (ua, .inl (cA 0, 40, .inl (tx_A uf))), (ou, .inl (cA 4, 1, .inr (.inl of)))] sz) := by
  refine va_MetW (cc := xb_La_changed) (maxL := 4) (ret := (some .int)) (hh := [((0 : Nat), (9 : Nat), (12 : Nat), (13 : Nat))]) (by decide) rfl ?_
  intro p e s m args below meth c s₁ B hml hv
  obtain ⟨rfl, hsz, hK, hP, hD0, hT⟩ := hv
  have hx := B.exec
  have hb := B.bytes
  have hr := B.returns
  have hts0 := atoms_spec (ws := .codeWith xy_La_changed xb_La_changed 4 (some .int) [((0 : Nat), (9 : Nat), (12 : Nat), (13 : Nat))] :: tw_W) B.pre
  have hts : ∀ w9 ∈ tw_W, w9.before [.ref x, .int x0, .ref ou].toArray s = true := fun w9 h9 => hts0 w9 (List.mem_cons_of_mem _ h9)
  have hown : s.vm.findClass xc_La = some m.cls := findClass_of_methodNamed B.named
  have hlocks := B.notSynchronized
  have htab_ := cw_tab B (hts0 _ List.mem_cons_self)
  subst hsz
  have hD := hD0.self (sz := s.heap.size)
  generalize hAe : va_A [(x, .inr (0, [.ref t, .ref o, .ref y, .ref ed, .ref hi, .ref re, .ref ua, .int (nI uc), .int pl, .int dl])), (ua, .inl (cA 0, 40, .inl (tx_A uf))), (ou, .inl (cA 4, 1, .inr (.inl of)))] s.heap.size = A at hD ⊢
  have hA : ∀ q : Nat, s.heap.size ≤ q → A q := fun q h => by rw [← hAe]; exact Or.inr h
  have hS : va_S A s.heap s.heap [] := va_S.rf
  have hP : va_P G xk_cl [(x, .inr (0, [.ref t, .ref o, .ref y, .ref ed, .ref hi, .ref re, .ref ua, .int (nI uc), .int pl, .int dl])), (ua, .inl (cA 0, 40, .inl (tx_A uf))), (ou, .inl (cA 4, 1, .inr (.inl of)))] s.heap := hP
  have hl := lv_entry ([.ref x, .int x0, .ref ou]) (n := 4) (Nat.le_of_ble_eq_true rfl)
  rw [lg_entry_eq]
  generalize (lg_sl ([.ref x, .int x0, .ref ou]) ++ List.replicate (4 - (lg_sl ([.ref x, .int x0, .ref ou])).length) Slot.unset).toArray = ls at hl ⊢
  have hl : lv_has ls 4 [(0, .ref x), (1, .int x0), (2, .ref ou)] := hl
  refine lv_aload_n hx hb xd_La_changed_0 rfl (lv_at hl 2 rfl) ?_
  refine lv_iconst (v := nI 0) hx hb xd_La_changed_1 (by decide) ?_
  refine lv_aload_n hx hb xd_La_changed_2 rfl (lv_at hl 0 rfl) ?_
  refine lv_iload_n hx hb xd_La_changed_3 rfl (lv_at hl 1 rfl) ?_
  have hPc := hP.sub (ws' := [(x, .inr (0, [.ref t, .ref o, .ref y, .ref ed, .ref hi, .ref re, .ref ua, .int (nI uc), .int pl, .int dl])), (ua, .inl (cA 0, 40, .inl (tx_A uf)))]) [0, 1] rfl
  refine wt_callVC (As := [.int x0]) (rest := [.int (nI 0), .ref ou]) ⟨hx, hb, hml, hown, hts⟩ (ctT_X_changed l G cA hfl x t ed hi re ua uc pl dl o y uf x0 hx0) (cwV 1 hts (gi_v xm_495 xm_496 xm_497 xm_1 xm_498) rfl rfl rfl ⟨rfl, xh_X_changed⟩ ⟨Nat.le_of_ble_eq_true rfl, Nat.le_of_ble_eq_true rfl⟩) (pv_t hK hPc hT (ci := 0) (q0 := 0) rfl rfl) htab_ (by decide) (by decide) (hts _ xm_494) rfl hl.1 (Nat.le_of_ble_eq_true rfl) xd_La_changed_4 ⟨Nat.le_of_ble_eq_true rfl, Nat.le_of_ble_eq_true rfl⟩ hS (fun x_9 H1 hz1 hk1 hS => ?_)
  have hP := pg_P hP hk1
  refine W.eq (g2 := F0 m 12 ls [.ref x_9]) rfl ?_
  generalize H1 = H at hP hS ⊢
  refine W.widen (k := 1) (n := 6) (by decide) (by decide) ?_
  refine lv_astore_n (lv' := [(3, .ref x_9), (0, .ref x), (1, .int x0), (2, .ref ou)]) hx hb xd_La_changed_12 rfl hl (by decide) rfl (fun ls hl => ?_)
  refine lv_iconst (v := nI 1) hx hb xd_La_changed_13 (by decide) ?_
  have hP9 : va_P G xk_cl [(x, .inr (0, [.ref t, .ref o, .ref y, .ref ed, .ref hi, .ref re, .ref ua, .int (nI uc), .int pl, .int dl])), (ua, .inl (cA 0, 40, .inl (tx_A uf))), (ou, .inl (cA 4, 1, .inr (.inl of)))] _ := hP.sub [0, 1, 2] rfl
  have hD9 : va_D A [(x, .inr (0, [.ref t, .ref o, .ref y, .ref ed, .ref hi, .ref re, .ref ua, .int (nI uc), .int pl, .int dl])), (ua, .inl (cA 0, 40, .inl (tx_A uf))), (ou, .inl (cA 4, 1, .inr (.inl of)))] := hD.sub [0, 1, 2] (by decide) rfl
  exact W.iret (v := nI 1) hx hb hr (fun T9 ht hW => ⟨⟨_, (), rfl, rfl, by rw [ht]; exact hP9, hD9⟩, hS.F ht⟩) hS.2.2 xd_La_changed_14
set_option maxHeartbeats 4000000 in
set_option maxRecDepth 100000 in
theorem ct_La_kind (l : Launch) (G : va_G) (cA : Nat → ClassId) (sz : Nat) (x : Nat) (t : Nat) (ed : Nat) (hi : Nat) (re : Nat) (ua : Nat) (uc : Nat) (pl : Int32) (dl : Int32) (o : Nat) (a1 : Nat) (a2 : Nat) (a3 : Nat) (y : Nat) (ce : Nat → Int32) (n : Nat) (k : Nat) (hn : n < 40) (hk : k < 26) (ou : Nat) (of : Nat → Int64) : Met l xy_La_kind (.codeWith xy_La_kind xb_La_kind 5 (some .int) [((0 : Nat), (10 : Nat), (13 : Nat), (13 : Nat))] :: tw_W) ({ frames := 3, cells := 0, slots := 0, locals := 64 }) (pc_w G cA [(x, .inr (0, [.ref t, .ref o, .ref y, .ref ed, .ref hi, .ref re, .ref ua, .int (nI uc), .int pl, .int dl])), (o, .inr (2, [.ref a1, .ref a2, .ref a3])), (a3, .inl (cA 0, 1040, .inl ce)), (ou, .inl (cA 4, 1, .inr (.inl of)))] sz [.ref x, .int (nI n), .int (nI k), .ref ou]) (va_Qi (fun (r : Int32) (_ : Unit) => r = nI 0) (fun _ T9 => at_w G (va_A [(x, .inr (0, [.ref t, .ref o, .ref y, .ref ed, .ref hi, .ref re, .ref ua, .int (nI uc), .int pl, .int dl])), (o, .inr (2, [.ref a1, .ref a2, .ref a3])), (a3, .inl (cA 0, 1040, .inl ce)), (ou, .inl (cA 4, 1, .inr (.inl of)))] sz) [(x, .inr (0, [.ref t, .ref o, .ref y, .ref ed, .ref hi, .ref re, .ref ua, .int (nI uc), .int pl, .int dl])), (o, .inr (2, [.ref a1, .ref a2, .ref a3])), (a3, .inl (cA 0, 1040, .inl ce)), (ou, .inl (cA 4, 1, .inr (.inl (vp_updL of 0 ((en_K (ce (n * 26 + k))).toInt64)))))] T9) (va_A [(x, .inr (0, [.ref t, .ref o, .ref y, .ref ed, .ref hi, .ref re, .ref ua, .int (nI uc), .int pl, .int dl])), (o, .inr (2, [.ref a1, .ref a2, .ref a3])), (a3, .inl (cA 0, 1040, .inl ce)), (ou, .inl (cA 4, 1, .inr (.inl of)))] sz)) 0 0 (va_A [(x, .inr (0, [.ref t, .ref o, .ref y, .ref ed, .ref hi, .ref re, .ref ua, .int (nI uc), .int pl, .int dl])), (o, .inr (2, [.ref a1, .ref a2, .ref a3])), (a3, .inl (cA 0, 1040, .inl ce)), (ou, .inl (cA 4, 1, .inr (.inl of)))] sz) := by
  refine va_MetW (cc := xb_La_kind) (maxL := 5) (ret := (some .int)) (hh := [((0 : Nat), (10 : Nat), (13 : Nat), (13 : Nat))]) (by decide) rfl ?_
  intro p e s m args below meth c s₁ B hml hv
  obtain ⟨rfl, hsz, hK, hP, hD0⟩ := hv
  have hx := B.exec
  have hb := B.bytes
  have hr := B.returns
  have hts0 := atoms_spec (ws := .codeWith xy_La_kind xb_La_kind 5 (some .int) [((0 : Nat), (10 : Nat), (13 : Nat), (13 : Nat))] :: tw_W) B.pre
  have hts : ∀ w9 ∈ tw_W, w9.before [.ref x, .int (nI n), .int (nI k), .ref ou].toArray s = true := fun w9 h9 => hts0 w9 (List.mem_cons_of_mem _ h9)
  have hown : s.vm.findClass xc_La = some m.cls := findClass_of_methodNamed B.named
  have hlocks := B.notSynchronized
  have htab_ := cw_tab B (hts0 _ List.mem_cons_self)
  subst hsz
  have hD := hD0.self (sz := s.heap.size)
  generalize hAe : va_A [(x, .inr (0, [.ref t, .ref o, .ref y, .ref ed, .ref hi, .ref re, .ref ua, .int (nI uc), .int pl, .int dl])), (o, .inr (2, [.ref a1, .ref a2, .ref a3])), (a3, .inl (cA 0, 1040, .inl ce)), (ou, .inl (cA 4, 1, .inr (.inl of)))] s.heap.size = A at hD ⊢
  have hA : ∀ q : Nat, s.heap.size ≤ q → A q := fun q h => by rw [← hAe]; exact Or.inr h
  have hS : va_S A s.heap s.heap [] := va_S.rf
  have hP : va_P G xk_cl [(x, .inr (0, [.ref t, .ref o, .ref y, .ref ed, .ref hi, .ref re, .ref ua, .int (nI uc), .int pl, .int dl])), (o, .inr (2, [.ref a1, .ref a2, .ref a3])), (a3, .inl (cA 0, 1040, .inl ce)), (ou, .inl (cA 4, 1, .inr (.inl of)))] s.heap := hP
  have hl := lv_entry ([.ref x, .int (nI n), .int (nI k), .ref ou]) (n := 5) (Nat.le_of_ble_eq_true rfl)
  rw [lg_entry_eq]
  generalize (lg_sl ([.ref x, .int (nI n), .int (nI k), .ref ou]) ++ List.replicate (5 - (lg_sl ([.ref x, .int (nI n), .int (nI k), .ref ou])).length) Slot.unset).toArray = ls at hl ⊢
  have hl : lv_has ls 5 [(0, .ref x), (1, .int (nI n)), (2, .int (nI k)), (3, .ref ou)] := hl
  refine lv_aload_n hx hb xd_La_kind_0 rfl (lv_at hl 3 rfl) ?_
  refine lv_iconst (v := nI 0) hx hb xd_La_kind_1 (by decide) ?_
  refine lv_aload_n hx hb xd_La_kind_2 rfl (lv_at hl 0 rfl) ?_
  refine lv_iload_n hx hb xd_La_kind_3 rfl (lv_at hl 1 rfl) ?_
  refine lv_iload_n hx hb xd_La_kind_4 rfl (lv_at hl 2 rfl) ?_
  have hPc := hP.sub (ws' := [(x, .inr (0, [.ref t, .ref o, .ref y, .ref ed, .ref hi, .ref re, .ref ua, .int (nI uc), .int pl, .int dl])), (o, .inr (2, [.ref a1, .ref a2, .ref a3])), (a3, .inl (cA 0, 1040, .inl ce))]) [0, 1, 2] rfl
  refine vp_callSi (va_Run.run (va_runV (As := [.int (nI n), .int (nI k)]) (rest := [.int (nI 0), .ref ou]) ⟨hx, hb, hml, hown, hts⟩ (ct_X_kind l G cA x t ed hi re ua uc pl dl o a1 a2 a3 y ce n k (by omega) (by omega)) (cwV 2 hts (gi_v xm_580 xm_581 xm_582 xm_1 xm_583) rfl rfl rfl ⟨rfl, xh_X_kind⟩ ⟨Nat.le_of_ble_eq_true rfl, Nat.le_of_ble_eq_true rfl⟩) (pv_r hK hPc (ci := 0) (q0 := 0) rfl rfl) rfl rfl hl.1 rfl (lv_room (Nat.le_of_ble_eq_true rfl)) xd_La_kind_5 ⟨Nat.le_of_ble_eq_true rfl, Nat.le_of_ble_eq_true rfl⟩)) (fun r_1 q_2 => ?_)
  refine lx_top (z := en_K (ce (n * 26 + k))) (q_2) ?_
  refine lv_i2l (v := (en_K (ce (n * 26 + k))).toInt64) hx hb xd_La_kind_8 rfl ?_
  refine va_last hx hb hK.1 hP hD hS 3 4 rfl rfl (vi_nI (by decide) (by decide)) xd_La_kind_9 (fun H locs hP hD hS => ?_)
  rw [nI_clamp (by omega)] at hP hD
  have hP : va_P G xk_cl [(x, .inr (0, [.ref t, .ref o, .ref y, .ref ed, .ref hi, .ref re, .ref ua, .int (nI uc), .int pl, .int dl])), (o, .inr (2, [.ref a1, .ref a2, .ref a3])), (a3, .inl (cA 0, 1040, .inl ce)), (ou, .inl (cA 4, 1, .inr (.inl (vp_updL of 0 ((en_K (ce (n * 26 + k))).toInt64)))))] H := hP
  have hD : va_D A [(x, .inr (0, [.ref t, .ref o, .ref y, .ref ed, .ref hi, .ref re, .ref ua, .int (nI uc), .int pl, .int dl])), (o, .inr (2, [.ref a1, .ref a2, .ref a3])), (a3, .inl (cA 0, 1040, .inl ce)), (ou, .inl (cA 4, 1, .inr (.inl (vp_updL of 0 ((en_K (ce (n * 26 + k))).toInt64)))))] := hD
  refine lv_goto (tgt := 17) hx hb xd_La_kind_10 (by decide) ?_
  refine lv_iconst (v := nI 0) hx hb xd_La_kind_17 (by decide) ?_
  have hP9 : va_P G xk_cl [(x, .inr (0, [.ref t, .ref o, .ref y, .ref ed, .ref hi, .ref re, .ref ua, .int (nI uc), .int pl, .int dl])), (o, .inr (2, [.ref a1, .ref a2, .ref a3])), (a3, .inl (cA 0, 1040, .inl ce)), (ou, .inl (cA 4, 1, .inr (.inl (vp_updL of 0 ((en_K (ce (n * 26 + k))).toInt64)))))] _ := hP.sub [0, 1, 2, 3] rfl
  have hD9 : va_D A [(x, .inr (0, [.ref t, .ref o, .ref y, .ref ed, .ref hi, .ref re, .ref ua, .int (nI uc), .int pl, .int dl])), (o, .inr (2, [.ref a1, .ref a2, .ref a3])), (a3, .inl (cA 0, 1040, .inl ce)), (ou, .inl (cA 4, 1, .inr (.inl (vp_updL of 0 ((en_K (ce (n * 26 + k))).toInt64)))))] := hD.sub [0, 1, 2, 3] (by decide) rfl
  exact W.iret (v := nI 0) hx hb hr (fun T9 ht hW => ⟨⟨_, (), rfl, rfl, by rw [ht]; exact hP9, hD9⟩, hS.F ht⟩) hS.2.2 xd_La_kind_18
set_option maxHeartbeats 4000000 in
set_option maxRecDepth 100000 in
theorem ctE_La_kind (l : Launch) (G : va_G) (cA : Nat → ClassId) (hfl : l.flags = flags0) (sz : Nat) (x : Nat) (t : Nat) (ed : Nat) (hi : Nat) (re : Nat) (ua : Nat) (uc : Nat) (pl : Int32) (dl : Int32) (o : Nat) (a1 : Nat) (a2 : Nat) (a3 : Nat) (y : Nat) (x0 : Int32) (x1 : Int32) (hx0 : sp_ob x0 = 0 ∨ sp_ky x1 = 0) (ou : Nat) (of : Nat → Int64) : Met l xy_La_kind (.codeWith xy_La_kind xb_La_kind 5 (some .int) [((0 : Nat), (10 : Nat), (13 : Nat), (13 : Nat))] :: tw_W) ({ frames := 8, cells := 1, slots := 6, locals := 124 }) (pc_u G cA [(x, .inr (0, [.ref t, .ref o, .ref y, .ref ed, .ref hi, .ref re, .ref ua, .int (nI uc), .int pl, .int dl])), (ou, .inl (cA 4, 1, .inr (.inl of)))] sz [.ref x, .int x0, .int x1, .ref ou]) (va_Qi (fun (r : Int32) (_ : Unit) => r = nI 1) (fun _ T9 => at_w G (va_A [(x, .inr (0, [.ref t, .ref o, .ref y, .ref ed, .ref hi, .ref re, .ref ua, .int (nI uc), .int pl, .int dl])), (ou, .inl (cA 4, 1, .inr (.inl of)))] sz) [(x, .inr (0, [.ref t, .ref o, .ref y, .ref ed, .ref hi, .ref re, .ref ua, .int (nI uc), .int pl, .int dl])), (ou, .inl (cA 4, 1, .inr (.inl of)))] T9) (va_A [(x, .inr (0, [.ref t, .ref o, .ref y, .ref ed, .ref hi, .ref re, .ref ua, .int (nI uc), .int pl, .int dl])), (ou, .inl (cA 4, 1, .inr (.inl of)))] sz)) 1 6 (va_A [(x, .inr (0, [.ref t, .ref o, .ref y, .ref ed, .ref hi, .ref re, .ref ua, .int (nI uc), .int pl, .int dl])), (ou, .inl (cA 4, 1, .inr (.inl of)))] sz) := by
  refine va_MetW (cc := xb_La_kind) (maxL := 5) (ret := (some .int)) (hh := [((0 : Nat), (10 : Nat), (13 : Nat), (13 : Nat))]) (by decide) rfl ?_
  intro p e s m args below meth c s₁ B hml hv
  obtain ⟨rfl, hsz, hK, hP, hD0, hT⟩ := hv
  have hx := B.exec
  have hb := B.bytes
  have hr := B.returns
  have hts0 := atoms_spec (ws := .codeWith xy_La_kind xb_La_kind 5 (some .int) [((0 : Nat), (10 : Nat), (13 : Nat), (13 : Nat))] :: tw_W) B.pre
  have hts : ∀ w9 ∈ tw_W, w9.before [.ref x, .int x0, .int x1, .ref ou].toArray s = true := fun w9 h9 => hts0 w9 (List.mem_cons_of_mem _ h9)
  have hown : s.vm.findClass xc_La = some m.cls := findClass_of_methodNamed B.named
  have hlocks := B.notSynchronized
  have htab_ := cw_tab B (hts0 _ List.mem_cons_self)
  subst hsz
  have hD := hD0.self (sz := s.heap.size)
  generalize hAe : va_A [(x, .inr (0, [.ref t, .ref o, .ref y, .ref ed, .ref hi, .ref re, .ref ua, .int (nI uc), .int pl, .int dl])), (ou, .inl (cA 4, 1, .inr (.inl of)))] s.heap.size = A at hD ⊢
  have hA : ∀ q : Nat, s.heap.size ≤ q → A q := fun q h => by rw [← hAe]; exact Or.inr h
  have hS : va_S A s.heap s.heap [] := va_S.rf
  have hP : va_P G xk_cl [(x, .inr (0, [.ref t, .ref o, .ref y, .ref ed, .ref hi, .ref re, .ref ua, .int (nI uc), .int pl, .int dl])), (ou, .inl (cA 4, 1, .inr (.inl of)))] s.heap := hP
  have hl := lv_entry ([.ref x, .int x0, .int x1, .ref ou]) (n := 5) (Nat.le_of_ble_eq_true rfl)
  rw [lg_entry_eq]
  generalize (lg_sl ([.ref x, .int x0, .int x1, .ref ou]) ++ List.replicate (5 - (lg_sl ([.ref x, .int x0, .int x1, .ref ou])).length) Slot.unset).toArray = ls at hl ⊢
  have hl : lv_has ls 5 [(0, .ref x), (1, .int x0), (2, .int x1), (3, .ref ou)] := hl
  refine lv_aload_n hx hb xd_La_kind_0 rfl (lv_at hl 3 rfl) ?_
  refine lv_iconst (v := nI 0) hx hb xd_La_kind_1 (by decide) ?_
  refine lv_aload_n hx hb xd_La_kind_2 rfl (lv_at hl 0 rfl) ?_
  refine lv_iload_n hx hb xd_La_kind_3 rfl (lv_at hl 1 rfl) ?_
  refine lv_iload_n hx hb xd_La_kind_4 rfl (lv_at hl 2 rfl) ?_
  have hPc := hP.sub (ws' := [(x, .inr (0, [.ref t, .ref o, .ref y, .ref ed, .ref hi, .ref re, .ref ua, .int (nI uc), .int pl, .int dl]))]) [0] rfl
  refine wt_callVC (As := [.int x0, .int x1]) (rest := [.int (nI 0), .ref ou]) ⟨hx, hb, hml, hown, hts⟩ (ctT_X_kind l G cA hfl x t ed hi re ua uc pl dl o (by omega) (by omega) (by omega) y x0 x1 hx0) (cwV 2 hts (gi_v xm_580 xm_581 xm_582 xm_1 xm_583) rfl rfl rfl ⟨rfl, xh_X_kind⟩ ⟨Nat.le_of_ble_eq_true rfl, Nat.le_of_ble_eq_true rfl⟩) (pv_t hK hPc hT (ci := 0) (q0 := 0) rfl rfl) htab_ (by decide) (by decide) (hts _ xm_494) rfl hl.1 (Nat.le_of_ble_eq_true rfl) xd_La_kind_5 ⟨Nat.le_of_ble_eq_true rfl, Nat.le_of_ble_eq_true rfl⟩ hS (fun x_9 H1 hz1 hk1 hS => ?_)
  have hP := pg_P hP hk1
  refine W.eq (g2 := F0 m 13 ls [.ref x_9]) rfl ?_
  generalize H1 = H at hP hS ⊢
  refine W.widen (k := 1) (n := 6) (by decide) (by decide) ?_
  refine lv_astore (lv' := [(4, .ref x_9), (0, .ref x), (1, .int x0), (2, .int x1), (3, .ref ou)]) hx hb xd_La_kind_13 hl (by decide) rfl (fun ls hl => ?_)
  refine lv_iconst (v := nI 1) hx hb xd_La_kind_15 (by decide) ?_
  have hP9 : va_P G xk_cl [(x, .inr (0, [.ref t, .ref o, .ref y, .ref ed, .ref hi, .ref re, .ref ua, .int (nI uc), .int pl, .int dl])), (ou, .inl (cA 4, 1, .inr (.inl of)))] _ := hP.sub [0, 1] rfl
  have hD9 : va_D A [(x, .inr (0, [.ref t, .ref o, .ref y, .ref ed, .ref hi, .ref re, .ref ua, .int (nI uc), .int pl, .int dl])), (ou, .inl (cA 4, 1, .inr (.inl of)))] := hD.sub [0, 1] (by decide) rfl
  exact W.iret (v := nI 1) hx hb hr (fun T9 ht hW => ⟨⟨_, (), rfl, rfl, by rw [ht]; exact hP9, hD9⟩, hS.F ht⟩) hS.2.2 xd_La_kind_16
set_option maxHeartbeats 4000000 in
set_option maxRecDepth 100000 in
theorem ct_La_value (l : Launch) (G : va_G) (cA : Nat → ClassId) (sz : Nat) (x : Nat) (t : Nat) (ed : Nat) (hi : Nat) (re : Nat) (ua : Nat) (uc : Nat) (pl : Int32) (dl : Int32) (o : Nat) (a1 : Nat) (a2 : Nat) (a3 : Nat) (y : Nat) (ce : Nat → Int32) (n : Nat) (k : Nat) (hn : n < 40) (hk : k < 26) (ou : Nat) (of : Nat → Int64) : Met l xy_La_value (.codeWith xy_La_value xb_La_value 5 (some .int) [((0 : Nat), (10 : Nat), (13 : Nat), (13 : Nat))] :: tw_W) ({ frames := 3, cells := 0, slots := 0, locals := 64 }) (pc_w G cA [(x, .inr (0, [.ref t, .ref o, .ref y, .ref ed, .ref hi, .ref re, .ref ua, .int (nI uc), .int pl, .int dl])), (o, .inr (2, [.ref a1, .ref a2, .ref a3])), (a3, .inl (cA 0, 1040, .inl ce)), (ou, .inl (cA 4, 1, .inr (.inl of)))] sz [.ref x, .int (nI n), .int (nI k), .ref ou]) (va_Qi (fun (r : Int32) (_ : Unit) => r = nI 0) (fun _ T9 => at_w G (va_A [(x, .inr (0, [.ref t, .ref o, .ref y, .ref ed, .ref hi, .ref re, .ref ua, .int (nI uc), .int pl, .int dl])), (o, .inr (2, [.ref a1, .ref a2, .ref a3])), (a3, .inl (cA 0, 1040, .inl ce)), (ou, .inl (cA 4, 1, .inr (.inl of)))] sz) [(x, .inr (0, [.ref t, .ref o, .ref y, .ref ed, .ref hi, .ref re, .ref ua, .int (nI uc), .int pl, .int dl])), (o, .inr (2, [.ref a1, .ref a2, .ref a3])), (a3, .inl (cA 0, 1040, .inl ce)), (ou, .inl (cA 4, 1, .inr (.inl (vp_updL of 0 ((en_V (ce (n * 26 + k))).toInt64)))))] T9) (va_A [(x, .inr (0, [.ref t, .ref o, .ref y, .ref ed, .ref hi, .ref re, .ref ua, .int (nI uc), .int pl, .int dl])), (o, .inr (2, [.ref a1, .ref a2, .ref a3])), (a3, .inl (cA 0, 1040, .inl ce)), (ou, .inl (cA 4, 1, .inr (.inl of)))] sz)) 0 0 (va_A [(x, .inr (0, [.ref t, .ref o, .ref y, .ref ed, .ref hi, .ref re, .ref ua, .int (nI uc), .int pl, .int dl])), (o, .inr (2, [.ref a1, .ref a2, .ref a3])), (a3, .inl (cA 0, 1040, .inl ce)), (ou, .inl (cA 4, 1, .inr (.inl of)))] sz) := by
  refine va_MetW (cc := xb_La_value) (maxL := 5) (ret := (some .int)) (hh := [((0 : Nat), (10 : Nat), (13 : Nat), (13 : Nat))]) (by decide) rfl ?_
  intro p e s m args below meth c s₁ B hml hv
  obtain ⟨rfl, hsz, hK, hP, hD0⟩ := hv
  have hx := B.exec
  have hb := B.bytes
  have hr := B.returns
  have hts0 := atoms_spec (ws := .codeWith xy_La_value xb_La_value 5 (some .int) [((0 : Nat), (10 : Nat), (13 : Nat), (13 : Nat))] :: tw_W) B.pre
  have hts : ∀ w9 ∈ tw_W, w9.before [.ref x, .int (nI n), .int (nI k), .ref ou].toArray s = true := fun w9 h9 => hts0 w9 (List.mem_cons_of_mem _ h9)
  have hown : s.vm.findClass xc_La = some m.cls := findClass_of_methodNamed B.named
  have hlocks := B.notSynchronized
  have htab_ := cw_tab B (hts0 _ List.mem_cons_self)
  subst hsz
  have hD := hD0.self (sz := s.heap.size)
  generalize hAe : va_A [(x, .inr (0, [.ref t, .ref o, .ref y, .ref ed, .ref hi, .ref re, .ref ua, .int (nI uc), .int pl, .int dl])), (o, .inr (2, [.ref a1, .ref a2, .ref a3])), (a3, .inl (cA 0, 1040, .inl ce)), (ou, .inl (cA 4, 1, .inr (.inl of)))] s.heap.size = A at hD ⊢
  have hA : ∀ q : Nat, s.heap.size ≤ q → A q := fun q h => by rw [← hAe]; exact Or.inr h
  have hS : va_S A s.heap s.heap [] := va_S.rf
  have hP : va_P G xk_cl [(x, .inr (0, [.ref t, .ref o, .ref y, .ref ed, .ref hi, .ref re, .ref ua, .int (nI uc), .int pl, .int dl])), (o, .inr (2, [.ref a1, .ref a2, .ref a3])), (a3, .inl (cA 0, 1040, .inl ce)), (ou, .inl (cA 4, 1, .inr (.inl of)))] s.heap := hP
  have hl := lv_entry ([.ref x, .int (nI n), .int (nI k), .ref ou]) (n := 5) (Nat.le_of_ble_eq_true rfl)
  rw [lg_entry_eq]
  generalize (lg_sl ([.ref x, .int (nI n), .int (nI k), .ref ou]) ++ List.replicate (5 - (lg_sl ([.ref x, .int (nI n), .int (nI k), .ref ou])).length) Slot.unset).toArray = ls at hl ⊢
  have hl : lv_has ls 5 [(0, .ref x), (1, .int (nI n)), (2, .int (nI k)), (3, .ref ou)] := hl
  refine lv_aload_n hx hb xd_La_value_0 rfl (lv_at hl 3 rfl) ?_
  refine lv_iconst (v := nI 0) hx hb xd_La_value_1 (by decide) ?_
  refine lv_aload_n hx hb xd_La_value_2 rfl (lv_at hl 0 rfl) ?_
  refine lv_iload_n hx hb xd_La_value_3 rfl (lv_at hl 1 rfl) ?_
  refine lv_iload_n hx hb xd_La_value_4 rfl (lv_at hl 2 rfl) ?_
  have hPc := hP.sub (ws' := [(x, .inr (0, [.ref t, .ref o, .ref y, .ref ed, .ref hi, .ref re, .ref ua, .int (nI uc), .int pl, .int dl])), (o, .inr (2, [.ref a1, .ref a2, .ref a3])), (a3, .inl (cA 0, 1040, .inl ce))]) [0, 1, 2] rfl
  refine vp_callSi (va_Run.run (va_runV (As := [.int (nI n), .int (nI k)]) (rest := [.int (nI 0), .ref ou]) ⟨hx, hb, hml, hown, hts⟩ (ct_X_value l G cA x t ed hi re ua uc pl dl o a1 a2 a3 y ce n k (by omega) (by omega)) (cwV 2 hts (gi_v xm_594 xm_595 xm_596 xm_1 xm_597) rfl rfl rfl ⟨rfl, xh_X_value⟩ ⟨Nat.le_of_ble_eq_true rfl, Nat.le_of_ble_eq_true rfl⟩) (pv_r hK hPc (ci := 0) (q0 := 0) rfl rfl) rfl rfl hl.1 rfl (lv_room (Nat.le_of_ble_eq_true rfl)) xd_La_value_5 ⟨Nat.le_of_ble_eq_true rfl, Nat.le_of_ble_eq_true rfl⟩)) (fun r_1 q_2 => ?_)
  refine lx_top (z := en_V (ce (n * 26 + k))) (q_2) ?_
  refine lv_i2l (v := (en_V (ce (n * 26 + k))).toInt64) hx hb xd_La_value_8 rfl ?_
  refine va_last hx hb hK.1 hP hD hS 3 4 rfl rfl (vi_nI (by decide) (by decide)) xd_La_value_9 (fun H locs hP hD hS => ?_)
  rw [nI_clamp (by omega)] at hP hD
  have hP : va_P G xk_cl [(x, .inr (0, [.ref t, .ref o, .ref y, .ref ed, .ref hi, .ref re, .ref ua, .int (nI uc), .int pl, .int dl])), (o, .inr (2, [.ref a1, .ref a2, .ref a3])), (a3, .inl (cA 0, 1040, .inl ce)), (ou, .inl (cA 4, 1, .inr (.inl (vp_updL of 0 ((en_V (ce (n * 26 + k))).toInt64)))))] H := hP
  have hD : va_D A [(x, .inr (0, [.ref t, .ref o, .ref y, .ref ed, .ref hi, .ref re, .ref ua, .int (nI uc), .int pl, .int dl])), (o, .inr (2, [.ref a1, .ref a2, .ref a3])), (a3, .inl (cA 0, 1040, .inl ce)), (ou, .inl (cA 4, 1, .inr (.inl (vp_updL of 0 ((en_V (ce (n * 26 + k))).toInt64)))))] := hD
  refine lv_goto (tgt := 17) hx hb xd_La_value_10 (by decide) ?_
  refine lv_iconst (v := nI 0) hx hb xd_La_value_17 (by decide) ?_
  have hP9 : va_P G xk_cl [(x, .inr (0, [.ref t, .ref o, .ref y, .ref ed, .ref hi, .ref re, .ref ua, .int (nI uc), .int pl, .int dl])), (o, .inr (2, [.ref a1, .ref a2, .ref a3])), (a3, .inl (cA 0, 1040, .inl ce)), (ou, .inl (cA 4, 1, .inr (.inl (vp_updL of 0 ((en_V (ce (n * 26 + k))).toInt64)))))] _ := hP.sub [0, 1, 2, 3] rfl
  have hD9 : va_D A [(x, .inr (0, [.ref t, .ref o, .ref y, .ref ed, .ref hi, .ref re, .ref ua, .int (nI uc), .int pl, .int dl])), (o, .inr (2, [.ref a1, .ref a2, .ref a3])), (a3, .inl (cA 0, 1040, .inl ce)), (ou, .inl (cA 4, 1, .inr (.inl (vp_updL of 0 ((en_V (ce (n * 26 + k))).toInt64)))))] := hD.sub [0, 1, 2, 3] (by decide) rfl
  exact W.iret (v := nI 0) hx hb hr (fun T9 ht hW => ⟨⟨_, (), rfl, rfl, by rw [ht]; exact hP9, hD9⟩, hS.F ht⟩) hS.2.2 xd_La_value_18
set_option maxHeartbeats 4000000 in
set_option maxRecDepth 100000 in
theorem ctE_La_value (l : Launch) (G : va_G) (cA : Nat → ClassId) (hfl : l.flags = flags0) (sz : Nat) (x : Nat) (t : Nat) (ed : Nat) (hi : Nat) (re : Nat) (ua : Nat) (uc : Nat) (pl : Int32) (dl : Int32) (o : Nat) (a1 : Nat) (a2 : Nat) (a3 : Nat) (y : Nat) (x0 : Int32) (x1 : Int32) (hx0 : sp_ob x0 = 0 ∨ sp_ky x1 = 0) (ou : Nat) (of : Nat → Int64) : Met l xy_La_value (.codeWith xy_La_value xb_La_value 5 (some .int) [((0 : Nat), (10 : Nat), (13 : Nat), (13 : Nat))] :: tw_W) ({ frames := 8, cells := 1, slots := 6, locals := 124 }) (pc_u G cA [(x, .inr (0, [.ref t, .ref o, .ref y, .ref ed, .ref hi, .ref re, .ref ua, .int (nI uc), .int pl, .int dl])), (ou, .inl (cA 4, 1, .inr (.inl of)))] sz [.ref x, .int x0, .int x1, .ref ou]) (va_Qi (fun (r : Int32) (_ : Unit) => r = nI 1) (fun _ T9 => at_w G (va_A [(x, .inr (0, [.ref t, .ref o, .ref y, .ref ed, .ref hi, .ref re, .ref ua, .int (nI uc), .int pl, .int dl])), (ou, .inl (cA 4, 1, .inr (.inl of)))] sz) [(x, .inr (0, [.ref t, .ref o, .ref y, .ref ed, .ref hi, .ref re, .ref ua, .int (nI uc), .int pl, .int dl])), (ou, .inl (cA 4, 1, .inr (.inl of)))] T9) (va_A [(x, .inr (0, [.ref t, .ref o, .ref y, .ref ed, .ref hi, .ref re, .ref ua, .int (nI uc), .int pl, .int dl])), (ou, .inl (cA 4, 1, .inr (.inl of)))] sz)) 1 6 (va_A [(x, .inr (0, [.ref t, .ref o, .ref y, .ref ed, .ref hi, .ref re, .ref ua, .int (nI uc), .int pl, .int dl])), (ou, .inl (cA 4, 1, .inr (.inl of)))] sz) := by
  refine va_MetW (cc := xb_La_value) (maxL := 5) (ret := (some .int)) (hh := [((0 : Nat), (10 : Nat), (13 : Nat), (13 : Nat))]) (by decide) rfl ?_
  intro p e s m args below meth c s₁ B hml hv
  obtain ⟨rfl, hsz, hK, hP, hD0, hT⟩ := hv
  have hx := B.exec
  have hb := B.bytes
  have hr := B.returns
  have hts0 := atoms_spec (ws := .codeWith xy_La_value xb_La_value 5 (some .int) [((0 : Nat), (10 : Nat), (13 : Nat), (13 : Nat))] :: tw_W) B.pre
  have hts : ∀ w9 ∈ tw_W, w9.before [.ref x, .int x0, .int x1, .ref ou].toArray s = true := fun w9 h9 => hts0 w9 (List.mem_cons_of_mem _ h9)
  have hown : s.vm.findClass xc_La = some m.cls := findClass_of_methodNamed B.named
  have hlocks := B.notSynchronized
  have htab_ := cw_tab B (hts0 _ List.mem_cons_self)
  subst hsz
  have hD := hD0.self (sz := s.heap.size)
  generalize hAe : va_A [(x, .inr (0, [.ref t, .ref o, .ref y, .ref ed, .ref hi, .ref re, .ref ua, .int (nI uc), .int pl, .int dl])), (ou, .inl (cA 4, 1, .inr (.inl of)))] s.heap.size = A at hD ⊢
  have hA : ∀ q : Nat, s.heap.size ≤ q → A q := fun q h => by rw [← hAe]; exact Or.inr h
  have hS : va_S A s.heap s.heap [] := va_S.rf
  have hP : va_P G xk_cl [(x, .inr (0, [.ref t, .ref o, .ref y, .ref ed, .ref hi, .ref re, .ref ua, .int (nI uc), .int pl, .int dl])), (ou, .inl (cA 4, 1, .inr (.inl of)))] s.heap := hP
  have hl := lv_entry ([.ref x, .int x0, .int x1, .ref ou]) (n := 5) (Nat.le_of_ble_eq_true rfl)
  rw [lg_entry_eq]
  generalize (lg_sl ([.ref x, .int x0, .int x1, .ref ou]) ++ List.replicate (5 - (lg_sl ([.ref x, .int x0, .int x1, .ref ou])).length) Slot.unset).toArray = ls at hl ⊢
  have hl : lv_has ls 5 [(0, .ref x), (1, .int x0), (2, .int x1), (3, .ref ou)] := hl
  refine lv_aload_n hx hb xd_La_value_0 rfl (lv_at hl 3 rfl) ?_
  refine lv_iconst (v := nI 0) hx hb xd_La_value_1 (by decide) ?_
  refine lv_aload_n hx hb xd_La_value_2 rfl (lv_at hl 0 rfl) ?_
  refine lv_iload_n hx hb xd_La_value_3 rfl (lv_at hl 1 rfl) ?_
  refine lv_iload_n hx hb xd_La_value_4 rfl (lv_at hl 2 rfl) ?_
  have hPc := hP.sub (ws' := [(x, .inr (0, [.ref t, .ref o, .ref y, .ref ed, .ref hi, .ref re, .ref ua, .int (nI uc), .int pl, .int dl]))]) [0] rfl
  refine wt_callVC (As := [.int x0, .int x1]) (rest := [.int (nI 0), .ref ou]) ⟨hx, hb, hml, hown, hts⟩ (ctT_X_value l G cA hfl x t ed hi re ua uc pl dl o (by omega) (by omega) (by omega) y x0 x1 hx0) (cwV 2 hts (gi_v xm_594 xm_595 xm_596 xm_1 xm_597) rfl rfl rfl ⟨rfl, xh_X_value⟩ ⟨Nat.le_of_ble_eq_true rfl, Nat.le_of_ble_eq_true rfl⟩) (pv_t hK hPc hT (ci := 0) (q0 := 0) rfl rfl) htab_ (by decide) (by decide) (hts _ xm_494) rfl hl.1 (Nat.le_of_ble_eq_true rfl) xd_La_value_5 ⟨Nat.le_of_ble_eq_true rfl, Nat.le_of_ble_eq_true rfl⟩ hS (fun x_9 H1 hz1 hk1 hS => ?_)
  have hP := pg_P hP hk1
  refine W.eq (g2 := F0 m 13 ls [.ref x_9]) rfl ?_
  generalize H1 = H at hP hS ⊢
  refine W.widen (k := 1) (n := 6) (by decide) (by decide) ?_
  refine lv_astore (lv' := [(4, .ref x_9), (0, .ref x), (1, .int x0), (2, .int x1), (3, .ref ou)]) hx hb xd_La_value_13 hl (by decide) rfl (fun ls hl => ?_)
  refine lv_iconst (v := nI 1) hx hb xd_La_value_15 (by decide) ?_
  have hP9 : va_P G xk_cl [(x, .inr (0, [.ref t, .ref o, .ref y, .ref ed, .ref hi, .ref re, .ref ua, .int (nI uc), .int pl, .int dl])), (ou, .inl (cA 4, 1, .inr (.inl of)))] _ := hP.sub [0, 1] rfl
  have hD9 : va_D A [(x, .inr (0, [.ref t, .ref o, .ref y, .ref ed, .ref hi, .ref re, .ref ua, .int (nI uc), .int pl, .int dl])), (ou, .inl (cA 4, 1, .inr (.inl of)))] := hD.sub [0, 1] (by decide) rfl
  exact W.iret (v := nI 1) hx hb hr (fun T9 ht hW => ⟨⟨_, (), rfl, rfl, by rw [ht]; exact hP9, hD9⟩, hS.F ht⟩) hS.2.2 xd_La_value_16
set_option maxHeartbeats 4000000 in
set_option maxRecDepth 100000 in
theorem ct_La_object (l : Launch) (G : va_G) (cA : Nat → ClassId) (sz : Nat) (x : Nat) (t : Nat) (ed : Nat) (hi : Nat) (re : Nat) (ua : Nat) (uc : Nat) (pl : Int32) (dl : Int32) (o : Nat) (a1 : Nat) (a2 : Nat) (a3 : Nat) (y : Nat) (st : Nat → Int32) (ce : Nat → Int32) (n : Nat) (wh : Int32) (hn : n < 40) (hw4 : wh = nI 0 ∨ wh = nI 1 ∨ wh = nI 2 ∨ wh = nI 3) (ou : Nat) (of : Nat → Int64) : Met l xy_La_object (.codeWith xy_La_object xb_La_object 5 (some .int) [((0 : Nat), (10 : Nat), (13 : Nat), (13 : Nat))] :: tw_W) ({ frames := 3, cells := 0, slots := 0, locals := 67 }) (pc_w G cA [(x, .inr (0, [.ref t, .ref o, .ref y, .ref ed, .ref hi, .ref re, .ref ua, .int (nI uc), .int pl, .int dl])), (o, .inr (2, [.ref a1, .ref a2, .ref a3])), (a1, .inl (cA 0, 40, .inl st)), (a2, .inl (cA 0, 40, .inl (sp_kc ce))), (a3, .inl (cA 0, 1040, .inl ce)), (ou, .inl (cA 4, 1, .inr (.inl of)))] sz [.ref x, .int (nI n), .int wh, .ref ou]) (va_Qi (fun (r : Int32) (_ : Unit) => r = nI 0) (fun _ T9 => at_w G (va_A [(x, .inr (0, [.ref t, .ref o, .ref y, .ref ed, .ref hi, .ref re, .ref ua, .int (nI uc), .int pl, .int dl])), (o, .inr (2, [.ref a1, .ref a2, .ref a3])), (a1, .inl (cA 0, 40, .inl st)), (a2, .inl (cA 0, 40, .inl (sp_kc ce))), (a3, .inl (cA 0, 1040, .inl ce)), (ou, .inl (cA 4, 1, .inr (.inl of)))] sz) [(x, .inr (0, [.ref t, .ref o, .ref y, .ref ed, .ref hi, .ref re, .ref ua, .int (nI uc), .int pl, .int dl])), (o, .inr (2, [.ref a1, .ref a2, .ref a3])), (a1, .inl (cA 0, 40, .inl st)), (a2, .inl (cA 0, 40, .inl (sp_kc ce))), (a3, .inl (cA 0, 1040, .inl ce)), (ou, .inl (cA 4, 1, .inr (.inl (vp_updL of 0 ((ob_R wh st ce n).toInt64)))))] T9) (va_A [(x, .inr (0, [.ref t, .ref o, .ref y, .ref ed, .ref hi, .ref re, .ref ua, .int (nI uc), .int pl, .int dl])), (o, .inr (2, [.ref a1, .ref a2, .ref a3])), (a1, .inl (cA 0, 40, .inl st)), (a2, .inl (cA 0, 40, .inl (sp_kc ce))), (a3, .inl (cA 0, 1040, .inl ce)), (ou, .inl (cA 4, 1, .inr (.inl of)))] sz)) 0 0 (va_A [(x, .inr (0, [.ref t, .ref o, .ref y, .ref ed, .ref hi, .ref re, .ref ua, .int (nI uc), .int pl, .int dl])), (o, .inr (2, [.ref a1, .ref a2, .ref a3])), (a1, .inl (cA 0, 40, .inl st)), (a2, .inl (cA 0, 40, .inl (sp_kc ce))), (a3, .inl (cA 0, 1040, .inl ce)), (ou, .inl (cA 4, 1, .inr (.inl of)))] sz) := by
  refine va_MetW (cc := xb_La_object) (maxL := 5) (ret := (some .int)) (hh := [((0 : Nat), (10 : Nat), (13 : Nat), (13 : Nat))]) (by decide) rfl ?_
  intro p e s m args below meth c s₁ B hml hv
  obtain ⟨rfl, hsz, hK, hP, hD0⟩ := hv
  have hx := B.exec
  have hb := B.bytes
  have hr := B.returns
  have hts0 := atoms_spec (ws := .codeWith xy_La_object xb_La_object 5 (some .int) [((0 : Nat), (10 : Nat), (13 : Nat), (13 : Nat))] :: tw_W) B.pre
  have hts : ∀ w9 ∈ tw_W, w9.before [.ref x, .int (nI n), .int wh, .ref ou].toArray s = true := fun w9 h9 => hts0 w9 (List.mem_cons_of_mem _ h9)
  have hown : s.vm.findClass xc_La = some m.cls := findClass_of_methodNamed B.named
  have hlocks := B.notSynchronized
  have htab_ := cw_tab B (hts0 _ List.mem_cons_self)
  subst hsz
  have hD := hD0.self (sz := s.heap.size)
  generalize hAe : va_A [(x, .inr (0, [.ref t, .ref o, .ref y, .ref ed, .ref hi, .ref re, .ref ua, .int (nI uc), .int pl, .int dl])), (o, .inr (2, [.ref a1, .ref a2, .ref a3])), (a1, .inl (cA 0, 40, .inl st)), (a2, .inl (cA 0, 40, .inl (sp_kc ce))), (a3, .inl (cA 0, 1040, .inl ce)), (ou, .inl (cA 4, 1, .inr (.inl of)))] s.heap.size = A at hD ⊢
  have hA : ∀ q : Nat, s.heap.size ≤ q → A q := fun q h => by rw [← hAe]; exact Or.inr h
  have hS : va_S A s.heap s.heap [] := va_S.rf
  have hP : va_P G xk_cl [(x, .inr (0, [.ref t, .ref o, .ref y, .ref ed, .ref hi, .ref re, .ref ua, .int (nI uc), .int pl, .int dl])), (o, .inr (2, [.ref a1, .ref a2, .ref a3])), (a1, .inl (cA 0, 40, .inl st)), (a2, .inl (cA 0, 40, .inl (sp_kc ce))), (a3, .inl (cA 0, 1040, .inl ce)), (ou, .inl (cA 4, 1, .inr (.inl of)))] s.heap := hP
  have hl := lv_entry ([.ref x, .int (nI n), .int wh, .ref ou]) (n := 5) (Nat.le_of_ble_eq_true rfl)
  rw [lg_entry_eq]
  generalize (lg_sl ([.ref x, .int (nI n), .int wh, .ref ou]) ++ List.replicate (5 - (lg_sl ([.ref x, .int (nI n), .int wh, .ref ou])).length) Slot.unset).toArray = ls at hl ⊢
  have hl : lv_has ls 5 [(0, .ref x), (1, .int (nI n)), (2, .int wh), (3, .ref ou)] := hl
  refine lv_aload_n hx hb xd_La_object_0 rfl (lv_at hl 3 rfl) ?_
  refine lv_iconst (v := nI 0) hx hb xd_La_object_1 (by decide) ?_
  refine lv_aload_n hx hb xd_La_object_2 rfl (lv_at hl 0 rfl) ?_
  refine lv_iload_n hx hb xd_La_object_3 rfl (lv_at hl 1 rfl) ?_
  refine lv_iload_n hx hb xd_La_object_4 rfl (lv_at hl 2 rfl) ?_
  have hPc := hP.sub (ws' := [(x, .inr (0, [.ref t, .ref o, .ref y, .ref ed, .ref hi, .ref re, .ref ua, .int (nI uc), .int pl, .int dl])), (o, .inr (2, [.ref a1, .ref a2, .ref a3])), (a1, .inl (cA 0, 40, .inl st)), (a2, .inl (cA 0, 40, .inl (sp_kc ce))), (a3, .inl (cA 0, 1040, .inl ce))]) [0, 1, 2, 3, 4] rfl
  refine vp_callSi (va_Run.run (va_runV (As := [.int (nI n), .int wh]) (rest := [.int (nI 0), .ref ou]) ⟨hx, hb, hml, hown, hts⟩ (ct_X_object l G cA x t ed hi re ua uc pl dl o a1 a2 a3 y st ce n wh (by omega) hw4) (cwV 2 hts (gi_v xm_602 xm_603 xm_604 xm_1 xm_605) rfl rfl rfl ⟨rfl, xh_X_object⟩ ⟨Nat.le_of_ble_eq_true rfl, Nat.le_of_ble_eq_true rfl⟩) (pv_r hK hPc (ci := 0) (q0 := 0) rfl rfl) rfl rfl hl.1 rfl (lv_room (Nat.le_of_ble_eq_true rfl)) xd_La_object_5 ⟨Nat.le_of_ble_eq_true rfl, Nat.le_of_ble_eq_true rfl⟩)) (fun r_1 q_2 => ?_)
  refine lx_top (z := ob_R wh st ce n) (q_2) ?_
  refine lv_i2l (v := (ob_R wh st ce n).toInt64) hx hb xd_La_object_8 rfl ?_
  refine va_last hx hb hK.1 hP hD hS 5 4 rfl rfl (vi_nI (by decide) (by decide)) xd_La_object_9 (fun H locs hP hD hS => ?_)
  rw [nI_clamp (by omega)] at hP hD
  have hP : va_P G xk_cl [(x, .inr (0, [.ref t, .ref o, .ref y, .ref ed, .ref hi, .ref re, .ref ua, .int (nI uc), .int pl, .int dl])), (o, .inr (2, [.ref a1, .ref a2, .ref a3])), (a1, .inl (cA 0, 40, .inl st)), (a2, .inl (cA 0, 40, .inl (sp_kc ce))), (a3, .inl (cA 0, 1040, .inl ce)), (ou, .inl (cA 4, 1, .inr (.inl (vp_updL of 0 ((ob_R wh st ce n).toInt64)))))] H := hP
  have hD : va_D A [(x, .inr (0, [.ref t, .ref o, .ref y, .ref ed, .ref hi, .ref re, .ref ua, .int (nI uc), .int pl, .int dl])), (o, .inr (2, [.ref a1, .ref a2, .ref a3])), (a1, .inl (cA 0, 40, .inl st)), (a2, .inl (cA 0, 40, .inl (sp_kc ce))), (a3, .inl (cA 0, 1040, .inl ce)), (ou, .inl (cA 4, 1, .inr (.inl (vp_updL of 0 ((ob_R wh st ce n).toInt64)))))] := hD
  refine lv_goto (tgt := 17) hx hb xd_La_object_10 (by decide) ?_
  refine lv_iconst (v := nI 0) hx hb xd_La_object_17 (by decide) ?_
  have hP9 : va_P G xk_cl [(x, .inr (0, [.ref t, .ref o, .ref y, .ref ed, .ref hi, .ref re, .ref ua, .int (nI uc), .int pl, .int dl])), (o, .inr (2, [.ref a1, .ref a2, .ref a3])), (a1, .inl (cA 0, 40, .inl st)), (a2, .inl (cA 0, 40, .inl (sp_kc ce))), (a3, .inl (cA 0, 1040, .inl ce)), (ou, .inl (cA 4, 1, .inr (.inl (vp_updL of 0 ((ob_R wh st ce n).toInt64)))))] _ := hP.sub [0, 1, 2, 3, 4, 5] rfl
  have hD9 : va_D A [(x, .inr (0, [.ref t, .ref o, .ref y, .ref ed, .ref hi, .ref re, .ref ua, .int (nI uc), .int pl, .int dl])), (o, .inr (2, [.ref a1, .ref a2, .ref a3])), (a1, .inl (cA 0, 40, .inl st)), (a2, .inl (cA 0, 40, .inl (sp_kc ce))), (a3, .inl (cA 0, 1040, .inl ce)), (ou, .inl (cA 4, 1, .inr (.inl (vp_updL of 0 ((ob_R wh st ce n).toInt64)))))] := hD.sub [0, 1, 2, 3, 4, 5] (by decide) rfl
  exact W.iret (v := nI 0) hx hb hr (fun T9 ht hW => ⟨⟨_, (), rfl, rfl, by rw [ht]; exact hP9, hD9⟩, hS.F ht⟩) hS.2.2 xd_La_object_18
set_option maxHeartbeats 4000000 in
set_option maxRecDepth 100000 in
theorem ctE_La_object (l : Launch) (G : va_G) (cA : Nat → ClassId) (hfl : l.flags = flags0) (sz : Nat) (x : Nat) (t : Nat) (ed : Nat) (hi : Nat) (re : Nat) (ua : Nat) (uc : Nat) (pl : Int32) (dl : Int32) (o : Nat) (a1 : Nat) (a2 : Nat) (a3 : Nat) (y : Nat) (x0 : Int32) (wh : Int32) (hx0 : sp_ob x0 = 0 ∨ (¬ wh = nI 0 ∧ ¬ wh = nI 1 ∧ ¬ wh = nI 2 ∧ ¬ wh = nI 3)) (ou : Nat) (of : Nat → Int64) : Met l xy_La_object (.codeWith xy_La_object xb_La_object 5 (some .int) [((0 : Nat), (10 : Nat), (13 : Nat), (13 : Nat))] :: tw_W) ({ frames := 8, cells := 1, slots := 6, locals := 124 }) (pc_u G cA [(x, .inr (0, [.ref t, .ref o, .ref y, .ref ed, .ref hi, .ref re, .ref ua, .int (nI uc), .int pl, .int dl])), (ou, .inl (cA 4, 1, .inr (.inl of)))] sz [.ref x, .int x0, .int wh, .ref ou]) (va_Qi (fun (r : Int32) (_ : Unit) => r = nI 1) (fun _ T9 => at_w G (va_A [(x, .inr (0, [.ref t, .ref o, .ref y, .ref ed, .ref hi, .ref re, .ref ua, .int (nI uc), .int pl, .int dl])), (ou, .inl (cA 4, 1, .inr (.inl of)))] sz) [(x, .inr (0, [.ref t, .ref o, .ref y, .ref ed, .ref hi, .ref re, .ref ua, .int (nI uc), .int pl, .int dl])), (ou, .inl (cA 4, 1, .inr (.inl of)))] T9) (va_A [(x, .inr (0, [.ref t, .ref o, .ref y, .ref ed, .ref hi, .ref re, .ref ua, .int (nI uc), .int pl, .int dl])), (ou, .inl (cA 4, 1, .inr (.inl of)))] sz)) 1 6 (va_A [(x, .inr (0, [.ref t, .ref o, .ref y, .ref ed, .ref hi, .ref re, .ref ua, .int (nI uc), .int pl, .int dl])), (ou, .inl (cA 4, 1, .inr (.inl of)))] sz) := by
  refine va_MetW (cc := xb_La_object) (maxL := 5) (ret := (some .int)) (hh := [((0 : Nat), (10 : Nat), (13 : Nat), (13 : Nat))]) (by decide) rfl ?_
  intro p e s m args below meth c s₁ B hml hv
  obtain ⟨rfl, hsz, hK, hP, hD0, hT⟩ := hv
  have hx := B.exec
  have hb := B.bytes
  have hr := B.returns
  have hts0 := atoms_spec (ws := .codeWith xy_La_object xb_La_object 5 (some .int) [((0 : Nat), (10 : Nat), (13 : Nat), (13 : Nat))] :: tw_W) B.pre
  have hts : ∀ w9 ∈ tw_W, w9.before [.ref x, .int x0, .int wh, .ref ou].toArray s = true := fun w9 h9 => hts0 w9 (List.mem_cons_of_mem _ h9)
  have hown : s.vm.findClass xc_La = some m.cls := findClass_of_methodNamed B.named
  have hlocks := B.notSynchronized
  have htab_ := cw_tab B (hts0 _ List.mem_cons_self)
  subst hsz
  have hD := hD0.self (sz := s.heap.size)
  generalize hAe : va_A [(x, .inr (0, [.ref t, .ref o, .ref y, .ref ed, .ref hi, .ref re, .ref ua, .int (nI uc), .int pl, .int dl])), (ou, .inl (cA 4, 1, .inr (.inl of)))] s.heap.size = A at hD ⊢
  have hA : ∀ q : Nat, s.heap.size ≤ q → A q := fun q h => by rw [← hAe]; exact Or.inr h
  have hS : va_S A s.heap s.heap [] := va_S.rf
  have hP : va_P G xk_cl [(x, .inr (0, [.ref t, .ref o, .ref y, .ref ed, .ref hi, .ref re, .ref ua, .int (nI uc), .int pl, .int dl])), (ou, .inl (cA 4, 1, .inr (.inl of)))] s.heap := hP
  have hl := lv_entry ([.ref x, .int x0, .int wh, .ref ou]) (n := 5) (Nat.le_of_ble_eq_true rfl)
  rw [lg_entry_eq]
  generalize (lg_sl ([.ref x, .int x0, .int wh, .ref ou]) ++ List.replicate (5 - (lg_sl ([.ref x, .int x0, .int wh, .ref ou])).length) Slot.unset).toArray = ls at hl ⊢
  have hl : lv_has ls 5 [(0, .ref x), (1, .int x0), (2, .int wh), (3, .ref ou)] := hl
  refine lv_aload_n hx hb xd_La_object_0 rfl (lv_at hl 3 rfl) ?_
  refine lv_iconst (v := nI 0) hx hb xd_La_object_1 (by decide) ?_
  refine lv_aload_n hx hb xd_La_object_2 rfl (lv_at hl 0 rfl) ?_
  refine lv_iload_n hx hb xd_La_object_3 rfl (lv_at hl 1 rfl) ?_
  refine lv_iload_n hx hb xd_La_object_4 rfl (lv_at hl 2 rfl) ?_
  have hPc := hP.sub (ws' := [(x, .inr (0, [.ref t, .ref o, .ref y, .ref ed, .ref hi, .ref re, .ref ua, .int (nI uc), .int pl, .int dl]))]) [0] rfl
  refine wt_callVC (As := [.int x0, .int wh]) (rest := [.int (nI 0), .ref ou]) ⟨hx, hb, hml, hown, hts⟩ (ctT_X_object l G cA hfl x t ed hi re ua uc pl dl o (by omega) (by omega) (by omega) y x0 wh hx0) (cwV 2 hts (gi_v xm_602 xm_603 xm_604 xm_1 xm_605) rfl rfl rfl ⟨rfl, xh_X_object⟩ ⟨Nat.le_of_ble_eq_true rfl, Nat.le_of_ble_eq_true rfl⟩) (pv_t hK hPc hT (ci := 0) (q0 := 0) rfl rfl) htab_ (by decide) (by decide) (hts _ xm_494) rfl hl.1 (Nat.le_of_ble_eq_true rfl) xd_La_object_5 ⟨Nat.le_of_ble_eq_true rfl, Nat.le_of_ble_eq_true rfl⟩ hS (fun x_9 H1 hz1 hk1 hS => ?_)
  have hP := pg_P hP hk1
  refine W.eq (g2 := F0 m 13 ls [.ref x_9]) rfl ?_
  generalize H1 = H at hP hS ⊢
  refine W.widen (k := 1) (n := 6) (by decide) (by decide) ?_
  refine lv_astore (lv' := [(4, .ref x_9), (0, .ref x), (1, .int x0), (2, .int wh), (3, .ref ou)]) hx hb xd_La_object_13 hl (by decide) rfl (fun ls hl => ?_)
  refine lv_iconst (v := nI 1) hx hb xd_La_object_15 (by decide) ?_
  have hP9 : va_P G xk_cl [(x, .inr (0, [.ref t, .ref o, .ref y, .ref ed, .ref hi, .ref re, .ref ua, .int (nI uc), .int pl, .int dl])), (ou, .inl (cA 4, 1, .inr (.inl of)))] _ := hP.sub [0, 1] rfl
  have hD9 : va_D A [(x, .inr (0, [.ref t, .ref o, .ref y, .ref ed, .ref hi, .ref re, .ref ua, .int (nI uc), .int pl, .int dl])), (ou, .inl (cA 4, 1, .inr (.inl of)))] := hD.sub [0, 1] (by decide) rfl
  exact W.iret (v := nI 1) hx hb hr (fun T9 ht hW => ⟨⟨_, (), rfl, rfl, by rw [ht]; exact hP9, hD9⟩, hS.F ht⟩) hS.2.2 xd_La_object_16
set_option maxHeartbeats 4000000 in
set_option maxRecDepth 100000 in
theorem ct_La_reached (l : Launch) (G : va_G) (cA : Nat → ClassId) (sz : Nat) (x : Nat) (t : Nat) (ed : Nat) (hi : Nat) (re : Nat) (ua : Nat) (uc : Nat) (pl : Int32) (dl : Int32) (o : Nat) (a1 : Nat) (a2 : Nat) (a3 : Nat) (y : Nat) (rm : Nat) (rq : Nat) (mb : Nat → Bool) (qf : Nat → Nat) (qc : Nat) (st : Nat → Int32) (ce : Nat → Int32) (n : Nat) (hn : n < 40) (hv : wv_O ce) (ou : Nat) (of : Nat → Int64) : Met l xy_La_reached (.codeWith xy_La_reached xb_La_reached 4 (some .int) [((0 : Nat), (16 : Nat), (19 : Nat), (13 : Nat))] :: tw_W) ({ frames := 5, cells := 0, slots := 0, locals := 109 }) (pc_w G cA [(x, .inr (0, [.ref t, .ref o, .ref y, .ref ed, .ref hi, .ref re, .ref ua, .int (nI uc), .int pl, .int dl])), (re, .inr (7, [.ref rm, .ref rq, .int (nI qc)])), (rm, .inl (cA 2, 40, .inl (mk_A mb))), (rq, .inl (cA 0, 40, .inl (tx_A qf))), (o, .inr (2, [.ref a1, .ref a2, .ref a3])), (a1, .inl (cA 0, 40, .inl st)), (a3, .inl (cA 0, 1040, .inl ce)), (ou, .inl (cA 4, 1, .inr (.inl of)))] sz [.ref x, .int (nI n), .ref ou]) (va_Qi (fun (r : Int32) (u9 : (Nat → Nat) × Nat × (Nat → Int64)) => match u9 with | (qf2, qc2, of2) => r = nI 0 ∧ of2 0 = (mk_A (rc_B st ce) n).toInt64) (fun u9 T9 => match u9 with | (qf2, qc2, of2) => at_w G (va_A [(x, .inr (0, [.ref t, .ref o, .ref y, .ref ed, .ref hi, .ref re, .ref ua, .int (nI uc), .int pl, .int dl])), (re, .inr (7, [.ref rm, .ref rq, .int (nI qc)])), (rm, .inl (cA 2, 40, .inl (mk_A mb))), (rq, .inl (cA 0, 40, .inl (tx_A qf))), (o, .inr (2, [.ref a1, .ref a2, .ref a3])), (a1, .inl (cA 0, 40, .inl st)), (a3, .inl (cA 0, 1040, .inl ce)), (ou, .inl (cA 4, 1, .inr (.inl of)))] sz) [(x, .inr (0, [.ref t, .ref o, .ref y, .ref ed, .ref hi, .ref re, .ref ua, .int (nI uc), .int pl, .int dl])), (re, .inr (7, [.ref rm, .ref rq, .int (nI qc2)])), (rm, .inl (cA 2, 40, .inl (mk_A (rc_B st ce)))), (rq, .inl (cA 0, 40, .inl (tx_A qf2))), (o, .inr (2, [.ref a1, .ref a2, .ref a3])), (a1, .inl (cA 0, 40, .inl st)), (a3, .inl (cA 0, 1040, .inl ce)), (ou, .inl (cA 4, 1, .inr (.inl of2)))] T9) (va_A [(x, .inr (0, [.ref t, .ref o, .ref y, .ref ed, .ref hi, .ref re, .ref ua, .int (nI uc), .int pl, .int dl])), (re, .inr (7, [.ref rm, .ref rq, .int (nI qc)])), (rm, .inl (cA 2, 40, .inl (mk_A mb))), (rq, .inl (cA 0, 40, .inl (tx_A qf))), (o, .inr (2, [.ref a1, .ref a2, .ref a3])), (a1, .inl (cA 0, 40, .inl st)), (a3, .inl (cA 0, 1040, .inl ce)), (ou, .inl (cA 4, 1, .inr (.inl of)))] sz)) 0 0 (va_A [(x, .inr (0, [.ref t, .ref o, .ref y, .ref ed, .ref hi, .ref re, .ref ua, .int (nI uc), .int pl, .int dl])), (re, .inr (7, [.ref rm, .ref rq, .int (nI qc)])), (rm, .inl (cA 2, 40, .inl (mk_A mb))), (rq, .inl (cA 0, 40, .inl (tx_A qf))), (o, .inr (2, [.ref a1, .ref a2, .ref a3])), (a1, .inl (cA 0, 40, .inl st)), (a3, .inl (cA 0, 1040, .inl ce)), (ou, .inl (cA 4, 1, .inr (.inl of)))] sz) := by
  refine va_MetW (cc := xb_La_reached) (maxL := 4) (ret := (some .int)) (hh := [((0 : Nat), (16 : Nat), (19 : Nat), (13 : Nat))]) (by decide) rfl ?_
  intro p e s m args below meth c s₁ B hml hv
  obtain ⟨rfl, hsz, hK, hP, hD0⟩ := hv
  have hx := B.exec
  have hb := B.bytes
  have hr := B.returns
  have hts0 := atoms_spec (ws := .codeWith xy_La_reached xb_La_reached 4 (some .int) [((0 : Nat), (16 : Nat), (19 : Nat), (13 : Nat))] :: tw_W) B.pre
  have hts : ∀ w9 ∈ tw_W, w9.before [.ref x, .int (nI n), .ref ou].toArray s = true := fun w9 h9 => hts0 w9 (List.mem_cons_of_mem _ h9)
  have hown : s.vm.findClass xc_La = some m.cls := findClass_of_methodNamed B.named
  have hlocks := B.notSynchronized
  have htab_ := cw_tab B (hts0 _ List.mem_cons_self)
  subst hsz
  have hD := hD0.self (sz := s.heap.size)
  generalize hAe : va_A [(x, .inr (0, [.ref t, .ref o, .ref y, .ref ed, .ref hi, .ref re, .ref ua, .int (nI uc), .int pl, .int dl])), (re, .inr (7, [.ref rm, .ref rq, .int (nI qc)])), (rm, .inl (cA 2, 40, .inl (mk_A mb))), (rq, .inl (cA 0, 40, .inl (tx_A qf))), (o, .inr (2, [.ref a1, .ref a2, .ref a3])), (a1, .inl (cA 0, 40, .inl st)), (a3, .inl (cA 0, 1040, .inl ce)), (ou, .inl (cA 4, 1, .inr (.inl of)))] s.heap.size = A at hD ⊢
  have hA : ∀ q : Nat, s.heap.size ≤ q → A q := fun q h => by rw [← hAe]; exact Or.inr h
  have hS : va_S A s.heap s.heap [] := va_S.rf
  have hP : va_P G xk_cl [(x, .inr (0, [.ref t, .ref o, .ref y, .ref ed, .ref hi, .ref re, .ref ua, .int (nI uc), .int pl, .int dl])), (re, .inr (7, [.ref rm, .ref rq, .int (nI qc)])), (rm, .inl (cA 2, 40, .inl (mk_A mb))), (rq, .inl (cA 0, 40, .inl (tx_A qf))), (o, .inr (2, [.ref a1, .ref a2, .ref a3])), (a1, .inl (cA 0, 40, .inl st)), (a3, .inl (cA 0, 1040, .inl ce)), (ou, .inl (cA 4, 1, .inr (.inl of)))] s.heap := hP
  have hl := lv_entry ([.ref x, .int (nI n), .ref ou]) (n := 4) (Nat.le_of_ble_eq_true rfl)
  rw [lg_entry_eq]
  generalize (lg_sl ([.ref x, .int (nI n), .ref ou]) ++ List.replicate (4 - (lg_sl ([.ref x, .int (nI n), .ref ou])).length) Slot.unset).toArray = ls at hl ⊢
  have hl : lv_has ls 4 [(0, .ref x), (1, .int (nI n)), (2, .ref ou)] := hl
  refine lv_aload_n hx hb xd_La_reached_0 rfl (lv_at hl 2 rfl) ?_
  refine lv_iconst (v := nI 0) hx hb xd_La_reached_1 (by decide) ?_
  refine lv_aload_n hx hb xd_La_reached_2 rfl (lv_at hl 0 rfl) ?_
  refine lv_iload_n hx hb xd_La_reached_3 rfl (lv_at hl 1 rfl) ?_
  have hPc := hP.sub (ws' := [(x, .inr (0, [.ref t, .ref o, .ref y, .ref ed, .ref hi, .ref re, .ref ua, .int (nI uc), .int pl, .int dl])), (re, .inr (7, [.ref rm, .ref rq, .int (nI qc)])), (rm, .inl (cA 2, 40, .inl (mk_A mb))), (rq, .inl (cA 0, 40, .inl (tx_A qf))), (o, .inr (2, [.ref a1, .ref a2, .ref a3])), (a1, .inl (cA 0, 40, .inl st)), (a3, .inl (cA 0, 1040, .inl ce))]) [0, 1, 2, 3, 4, 5, 6] rfl
  have hDc := hD.sub (ws' := [(x, .inr (0, [.ref t, .ref o, .ref y, .ref ed, .ref hi, .ref re, .ref ua, .int (nI uc), .int pl, .int dl])), (re, .inr (7, [.ref rm, .ref rq, .int (nI qc)])), (rm, .inl (cA 2, 40, .inl (mk_A mb))), (rq, .inl (cA 0, 40, .inl (tx_A qf))), (o, .inr (2, [.ref a1, .ref a2, .ref a3])), (a1, .inl (cA 0, 40, .inl st)), (a3, .inl (cA 0, 1040, .inl ce))]) [0, 1, 2, 3, 4, 5, 6] (by decide) rfl
  have hFc := va_free (wc := [(x, .inr (0, [.ref t, .ref o, .ref y, .ref ed, .ref hi, .ref re, .ref ua, .int (nI uc), .int pl, .int dl])), (re, .inr (7, [.ref rm, .ref rq, .int (nI qc)])), (rm, .inl (cA 2, 40, .inl (mk_A mb))), (rq, .inl (cA 0, 40, .inl (tx_A qf))), (o, .inr (2, [.ref a1, .ref a2, .ref a3])), (a1, .inl (cA 0, 40, .inl st)), (a3, .inl (cA 0, 1040, .inl ce))]) hD hS hA [0, 1, 2, 3, 4, 5, 6] rfl
  refine va_calli (va_runV (As := [.int (nI n)]) (rest := [.int (nI 0), .ref ou]) ⟨hx, hb, hml, hown, hts⟩ (ct_X_reached l G cA s.heap.size x t ed hi re ua uc pl dl o a1 a2 a3 y rm rq mb qf qc st ce n (by omega) hv) (cwV 1 hts (gi_v xm_568 xm_569 xm_570 xm_1 xm_571) rfl rfl rfl ⟨rfl, xh_X_reached⟩ ⟨Nat.le_of_ble_eq_true rfl, Nat.le_of_ble_eq_true rfl⟩) (pv_w hK hPc hDc (ci := 0) (q0 := 0) rfl rfl) rfl rfl hl.1 rfl (lv_room (Nat.le_of_ble_eq_true rfl)) xd_La_reached_4 ⟨Nat.le_of_ble_eq_true rfl, Nat.le_of_ble_eq_true rfl⟩) hS (fun q _ h => hFc q h) hFc (fun r_1 u9 t9 H1 locs ht hvm q_2 hB hz1 hk1 hS => ?_)
  obtain ⟨u_qf2_3, u_qc2_4⟩ := u9
  try dsimp only at q_2 hB
  obtain ⟨hP1, hD1⟩ := hB
  rw [ht] at hP1
  obtain ⟨hP, hD⟩ := va_join (wr := [(ou, .inl (cA 4, 1, .inr (.inl of)))]) (w1 := [(x, .inr (0, [.ref t, .ref o, .ref y, .ref ed, .ref hi, .ref re, .ref ua, .int (nI uc), .int pl, .int dl])), (re, .inr (7, [.ref rm, .ref rq, .int (nI u_qc2_4)])), (rm, .inl (cA 2, 40, .inl (mk_A (rc_B st ce)))), (rq, .inl (cA 0, 40, .inl (tx_A u_qf2_3))), (o, .inr (2, [.ref a1, .ref a2, .ref a3])), (a1, .inl (cA 0, 40, .inl st)), (a3, .inl (cA 0, 1040, .inl ce))]) hP hD [0, 1, 2, 3, 4, 5, 6] [7] rfl rfl (by decide) (by decide) hk1 hFc hP1 hD1
  generalize H1 = H at hP hS ⊢
  have hP : va_P G xk_cl [(ou, .inl (cA 4, 1, .inr (.inl of))), (x, .inr (0, [.ref t, .ref o, .ref y, .ref ed, .ref hi, .ref re, .ref ua, .int (nI uc), .int pl, .int dl])), (re, .inr (7, [.ref rm, .ref rq, .int (nI u_qc2_4)])), (rm, .inl (cA 2, 40, .inl (mk_A (rc_B st ce)))), (rq, .inl (cA 0, 40, .inl (tx_A u_qf2_3))), (o, .inr (2, [.ref a1, .ref a2, .ref a3])), (a1, .inl (cA 0, 40, .inl st)), (a3, .inl (cA 0, 1040, .inl ce))] H := hP
  have hD : va_D A [(ou, .inl (cA 4, 1, .inr (.inl of))), (x, .inr (0, [.ref t, .ref o, .ref y, .ref ed, .ref hi, .ref re, .ref ua, .int (nI uc), .int pl, .int dl])), (re, .inr (7, [.ref rm, .ref rq, .int (nI u_qc2_4)])), (rm, .inl (cA 2, 40, .inl (mk_A (rc_B st ce)))), (rq, .inl (cA 0, 40, .inl (tx_A u_qf2_3))), (o, .inr (2, [.ref a1, .ref a2, .ref a3])), (a1, .inl (cA 0, 40, .inl st)), (a3, .inl (cA 0, 1040, .inl ce))] := hD
  refine lx_top (z := mk_A (rc_B st ce) n) (q_2) ?_
  refine lv_if_eq (tgt := 14) hx hb xd_La_reached_7 (by decide) (fun c_7_4 => ?_) (fun c_7_4 => ?_)
  · refine lv_lconst (v := 0) hx hb xd_La_reached_14 (by decide) ?_
    refine va_last hx hb hK.1 hP hD hS 0 4 rfl rfl (vi_nI (by decide) (by decide)) xd_La_reached_15 (fun H locs hP hD hS => ?_)
    rw [nI_clamp (by omega)] at hP hD
    have hP : va_P G xk_cl [(ou, .inl (cA 4, 1, .inr (.inl (vp_updL of 0 0)))), (x, .inr (0, [.ref t, .ref o, .ref y, .ref ed, .ref hi, .ref re, .ref ua, .int (nI uc), .int pl, .int dl])), (re, .inr (7, [.ref rm, .ref rq, .int (nI u_qc2_4)])), (rm, .inl (cA 2, 40, .inl (mk_A (rc_B st ce)))), (rq, .inl (cA 0, 40, .inl (tx_A u_qf2_3))), (o, .inr (2, [.ref a1, .ref a2, .ref a3])), (a1, .inl (cA 0, 40, .inl st)), (a3, .inl (cA 0, 1040, .inl ce))] H := hP
    have hD : va_D A [(ou, .inl (cA 4, 1, .inr (.inl (vp_updL of 0 0)))), (x, .inr (0, [.ref t, .ref o, .ref y, .ref ed, .ref hi, .ref re, .ref ua, .int (nI uc), .int pl, .int dl])), (re, .inr (7, [.ref rm, .ref rq, .int (nI u_qc2_4)])), (rm, .inl (cA 2, 40, .inl (mk_A (rc_B st ce)))), (rq, .inl (cA 0, 40, .inl (tx_A u_qf2_3))), (o, .inr (2, [.ref a1, .ref a2, .ref a3])), (a1, .inl (cA 0, 40, .inl st)), (a3, .inl (cA 0, 1040, .inl ce))] := hD
    refine lv_goto (tgt := 22) hx hb xd_La_reached_16 (by decide) ?_
    refine lv_iconst (v := nI 0) hx hb xd_La_reached_22 (by decide) ?_
    have hP9 : va_P G xk_cl [(x, .inr (0, [.ref t, .ref o, .ref y, .ref ed, .ref hi, .ref re, .ref ua, .int (nI uc), .int pl, .int dl])), (re, .inr (7, [.ref rm, .ref rq, .int (nI u_qc2_4)])), (rm, .inl (cA 2, 40, .inl (mk_A (rc_B st ce)))), (rq, .inl (cA 0, 40, .inl (tx_A u_qf2_3))), (o, .inr (2, [.ref a1, .ref a2, .ref a3])), (a1, .inl (cA 0, 40, .inl st)), (a3, .inl (cA 0, 1040, .inl ce)), (ou, .inl (cA 4, 1, .inr (.inl (vp_updL of 0 0))))] _ := hP.sub [1, 2, 3, 4, 5, 6, 7, 0] rfl
    have hD9 : va_D A [(x, .inr (0, [.ref t, .ref o, .ref y, .ref ed, .ref hi, .ref re, .ref ua, .int (nI uc), .int pl, .int dl])), (re, .inr (7, [.ref rm, .ref rq, .int (nI u_qc2_4)])), (rm, .inl (cA 2, 40, .inl (mk_A (rc_B st ce)))), (rq, .inl (cA 0, 40, .inl (tx_A u_qf2_3))), (o, .inr (2, [.ref a1, .ref a2, .ref a3])), (a1, .inl (cA 0, 40, .inl st)), (a3, .inl (cA 0, 1040, .inl ce)), (ou, .inl (cA 4, 1, .inr (.inl (vp_updL of 0 0))))] := hD.sub [1, 2, 3, 4, 5, 6, 7, 0] (by decide) rfl
    exact W.iret (v := nI 0) hx hb hr (fun T9 ht hW => ⟨⟨_, (u_qf2_3, u_qc2_4, vp_updL of 0 0), rfl, ⟨rfl, by rw [vp_upd_at]; exact mk_L0 c_7_4⟩, by rw [ht]; exact hP9, hD9⟩, hS.F ht⟩) hS.2.2 xd_La_reached_23
  · refine lv_lconst (v := 1) hx hb xd_La_reached_10 (by decide) ?_
    refine lv_goto (tgt := 15) hx hb xd_La_reached_11 (by decide) ?_
    refine va_last hx hb hK.1 hP hD hS 0 4 rfl rfl (vi_nI (by decide) (by decide)) xd_La_reached_15 (fun H locs hP hD hS => ?_)
    rw [nI_clamp (by omega)] at hP hD
    have hP : va_P G xk_cl [(ou, .inl (cA 4, 1, .inr (.inl (vp_updL of 0 1)))), (x, .inr (0, [.ref t, .ref o, .ref y, .ref ed, .ref hi, .ref re, .ref ua, .int (nI uc), .int pl, .int dl])), (re, .inr (7, [.ref rm, .ref rq, .int (nI u_qc2_4)])), (rm, .inl (cA 2, 40, .inl (mk_A (rc_B st ce)))), (rq, .inl (cA 0, 40, .inl (tx_A u_qf2_3))), (o, .inr (2, [.ref a1, .ref a2, .ref a3])), (a1, .inl (cA 0, 40, .inl st)), (a3, .inl (cA 0, 1040, .inl ce))] H := hP
    have hD : va_D A [(ou, .inl (cA 4, 1, .inr (.inl (vp_updL of 0 1)))), (x, .inr (0, [.ref t, .ref o, .ref y, .ref ed, .ref hi, .ref re, .ref ua, .int (nI uc), .int pl, .int dl])), (re, .inr (7, [.ref rm, .ref rq, .int (nI u_qc2_4)])), (rm, .inl (cA 2, 40, .inl (mk_A (rc_B st ce)))), (rq, .inl (cA 0, 40, .inl (tx_A u_qf2_3))), (o, .inr (2, [.ref a1, .ref a2, .ref a3])), (a1, .inl (cA 0, 40, .inl st)), (a3, .inl (cA 0, 1040, .inl ce))] := hD
    refine lv_goto (tgt := 22) hx hb xd_La_reached_16 (by decide) ?_
    refine lv_iconst (v := nI 0) hx hb xd_La_reached_22 (by decide) ?_
    have hP9 : va_P G xk_cl [(x, .inr (0, [.ref t, .ref o, .ref y, .ref ed, .ref hi, .ref re, .ref ua, .int (nI uc), .int pl, .int dl])), (re, .inr (7, [.ref rm, .ref rq, .int (nI u_qc2_4)])), (rm, .inl (cA 2, 40, .inl (mk_A (rc_B st ce)))), (rq, .inl (cA 0, 40, .inl (tx_A u_qf2_3))), (o, .inr (2, [.ref a1, .ref a2, .ref a3])), (a1, .inl (cA 0, 40, .inl st)), (a3, .inl (cA 0, 1040, .inl ce)), (ou, .inl (cA 4, 1, .inr (.inl (vp_updL of 0 1))))] _ := hP.sub [1, 2, 3, 4, 5, 6, 7, 0] rfl
    have hD9 : va_D A [(x, .inr (0, [.ref t, .ref o, .ref y, .ref ed, .ref hi, .ref re, .ref ua, .int (nI uc), .int pl, .int dl])), (re, .inr (7, [.ref rm, .ref rq, .int (nI u_qc2_4)])), (rm, .inl (cA 2, 40, .inl (mk_A (rc_B st ce)))), (rq, .inl (cA 0, 40, .inl (tx_A u_qf2_3))), (o, .inr (2, [.ref a1, .ref a2, .ref a3])), (a1, .inl (cA 0, 40, .inl st)), (a3, .inl (cA 0, 1040, .inl ce)), (ou, .inl (cA 4, 1, .inr (.inl (vp_updL of 0 1))))] := hD.sub [1, 2, 3, 4, 5, 6, 7, 0] (by decide) rfl
    exact W.iret (v := nI 0) hx hb hr (fun T9 ht hW => ⟨⟨_, (u_qf2_3, u_qc2_4, vp_updL of 0 1), rfl, ⟨rfl, by rw [vp_upd_at]; exact mk_L1 c_7_4⟩, by rw [ht]; exact hP9, hD9⟩, hS.F ht⟩) hS.2.2 xd_La_reached_23
set_option maxHeartbeats 4000000 in
set_option maxRecDepth 100000 in
theorem ctE_La_reached (l : Launch) (G : va_G) (cA : Nat → ClassId) (hfl : l.flags = flags0) (sz : Nat) (x : Nat) (t : Nat) (ed : Nat) (hi : Nat) (re : Nat) (ua : Nat) (uc : Nat) (pl : Int32) (dl : Int32) (o : Nat) (a1 : Nat) (a2 : Nat) (a3 : Nat) (y : Nat) (x0 : Int32) (hx0 : sp_ob x0 = 0) (ou : Nat) (of : Nat → Int64) : Met l xy_La_reached (.codeWith xy_La_reached xb_La_reached 4 (some .int) [((0 : Nat), (16 : Nat), (19 : Nat), (13 : Nat))] :: tw_W) ({ frames := 8, cells := 1, slots := 6, locals := 123 }) (pc_u G cA [(x, .inr (0, [.ref t, .ref o, .ref y, .ref ed, .ref hi, .ref re, .ref ua, .int (nI uc), .int pl, .int dl])), (ou, .inl (cA 4, 1, .inr (.inl of)))] sz [.ref x, .int x0, .ref ou]) (va_Qi (fun (r : Int32) (_ : Unit) => r = nI 1) (fun _ T9 => at_w G (va_A [(x, .inr (0, [.ref t, .ref o, .ref y, .ref ed, .ref hi, .ref re, .ref ua, .int (nI uc), .int pl, .int dl])), (ou, .inl (cA 4, 1, .inr (.inl of)))] sz) [(x, .inr (0, [.ref t, .ref o, .ref y, .ref ed, .ref hi, .ref re, .ref ua, .int (nI uc), .int pl, .int dl])), (ou, .inl (cA 4, 1, .inr (.inl of)))] T9) (va_A [(x, .inr (0, [.ref t, .ref o, .ref y, .ref ed, .ref hi, .ref re, .ref ua, .int (nI uc), .int pl, .int dl])), (ou, .inl (cA 4, 1, .inr (.inl of)))] sz)) 1 6 (va_A [(x, .inr (0, [.ref t, .ref o, .ref y, .ref ed, .ref hi, .ref re, .ref ua, .int (nI uc), .int pl, .int dl])), (ou, .inl (cA 4, 1, .inr (.inl of)))] sz) := by
  refine va_MetW (cc := xb_La_reached) (maxL := 4) (ret := (some .int)) (hh := [((0 : Nat), (16 : Nat), (19 : Nat), (13 : Nat))]) (by decide) rfl ?_
  intro p e s m args below meth c s₁ B hml hv
  obtain ⟨rfl, hsz, hK, hP, hD0, hT⟩ := hv
  have hx := B.exec
  have hb := B.bytes
  have hr := B.returns
  have hts0 := atoms_spec (ws := .codeWith xy_La_reached xb_La_reached 4 (some .int) [((0 : Nat), (16 : Nat), (19 : Nat), (13 : Nat))] :: tw_W) B.pre
  have hts : ∀ w9 ∈ tw_W, w9.before [.ref x, .int x0, .ref ou].toArray s = true := fun w9 h9 => hts0 w9 (List.mem_cons_of_mem _ h9)
  have hown : s.vm.findClass xc_La = some m.cls := findClass_of_methodNamed B.named
  have hlocks := B.notSynchronized
  have htab_ := cw_tab B (hts0 _ List.mem_cons_self)
  subst hsz
  have hD := hD0.self (sz := s.heap.size)
  generalize hAe : va_A [(x, .inr (0, [.ref t, .ref o, .ref y, .ref ed, .ref hi, .ref re, .ref ua, .int (nI uc), .int pl, .int dl])), (ou, .inl (cA 4, 1, .inr (.inl of)))] s.heap.size = A at hD ⊢
  have hA : ∀ q : Nat, s.heap.size ≤ q → A q := fun q h => by rw [← hAe]; exact Or.inr h
  have hS : va_S A s.heap s.heap [] := va_S.rf
  have hP : va_P G xk_cl [(x, .inr (0, [.ref t, .ref o, .ref y, .ref ed, .ref hi, .ref re, .ref ua, .int (nI uc), .int pl, .int dl])), (ou, .inl (cA 4, 1, .inr (.inl of)))] s.heap := hP
  have hl := lv_entry ([.ref x, .int x0, .ref ou]) (n := 4) (Nat.le_of_ble_eq_true rfl)
  rw [lg_entry_eq]
  generalize (lg_sl ([.ref x, .int x0, .ref ou]) ++ List.replicate (4 - (lg_sl ([.ref x, .int x0, .ref ou])).length) Slot.unset).toArray = ls at hl ⊢
  have hl : lv_has ls 4 [(0, .ref x), (1, .int x0), (2, .ref ou)] := hl
  refine lv_aload_n hx hb xd_La_reached_0 rfl (lv_at hl 2 rfl) ?_
  refine lv_iconst (v := nI 0) hx hb xd_La_reached_1 (by decide) ?_
  refine lv_aload_n hx hb xd_La_reached_2 rfl (lv_at hl 0 rfl) ?_
  refine lv_iload_n hx hb xd_La_reached_3 rfl (lv_at hl 1 rfl) ?_
  have hPc := hP.sub (ws' := [(x, .inr (0, [.ref t, .ref o, .ref y, .ref ed, .ref hi, .ref re, .ref ua, .int (nI uc), .int pl, .int dl]))]) [0] rfl
  refine wt_callVC (As := [.int x0]) (rest := [.int (nI 0), .ref ou]) ⟨hx, hb, hml, hown, hts⟩ (ctT_X_reached l G cA hfl x t ed hi re ua uc pl dl o (by omega) (by omega) (by omega) y x0 hx0) (cwV 1 hts (gi_v xm_568 xm_569 xm_570 xm_1 xm_571) rfl rfl rfl ⟨rfl, xh_X_reached⟩ ⟨Nat.le_of_ble_eq_true rfl, Nat.le_of_ble_eq_true rfl⟩) (pv_t hK hPc hT (ci := 0) (q0 := 0) rfl rfl) htab_ (by decide) (by decide) (hts _ xm_494) rfl hl.1 (Nat.le_of_ble_eq_true rfl) xd_La_reached_4 ⟨Nat.le_of_ble_eq_true rfl, Nat.le_of_ble_eq_true rfl⟩ hS (fun x_9 H1 hz1 hk1 hS => ?_)
  have hP := pg_P hP hk1
  refine W.eq (g2 := F0 m 19 ls [.ref x_9]) rfl ?_
  generalize H1 = H at hP hS ⊢
  refine W.widen (k := 1) (n := 6) (by decide) (by decide) ?_
  refine lv_astore_n (lv' := [(3, .ref x_9), (0, .ref x), (1, .int x0), (2, .ref ou)]) hx hb xd_La_reached_19 rfl hl (by decide) rfl (fun ls hl => ?_)
  refine lv_iconst (v := nI 1) hx hb xd_La_reached_20 (by decide) ?_
  have hP9 : va_P G xk_cl [(x, .inr (0, [.ref t, .ref o, .ref y, .ref ed, .ref hi, .ref re, .ref ua, .int (nI uc), .int pl, .int dl])), (ou, .inl (cA 4, 1, .inr (.inl of)))] _ := hP.sub [0, 1] rfl
  have hD9 : va_D A [(x, .inr (0, [.ref t, .ref o, .ref y, .ref ed, .ref hi, .ref re, .ref ua, .int (nI uc), .int pl, .int dl])), (ou, .inl (cA 4, 1, .inr (.inl of)))] := hD.sub [0, 1] (by decide) rfl
  exact W.iret (v := nI 1) hx hb hr (fun T9 ht hW => ⟨⟨_, (), rfl, rfl, by rw [ht]; exact hP9, hD9⟩, hS.F ht⟩) hS.2.2 xd_La_reached_21
