def rn_R (x : Int32) : Int32 := if en_K x = nI 2 ∧ sp_ob (en_V x) = 0 then nI 1 else nI 0
theorem sp_ob_01 (n : Int32) : sp_ob n = nI 0 ∨ sp_ob n = nI 1 := by
  unfold sp_ob
  split
  · exact Or.inl rfl
  · split
    · exact Or.inl rfl
    · exact Or.inr rfl
def wn_R (vb nb wt gv : Int32) : Int32 := if sp_ob nb = 0 ∨ (vb = nI 82 ∧ nb = 0) ∨ ¬ rn_R wt = 0 ∨ ¬ rn_R gv = 0 then nI 1 else nI 0
set_option maxHeartbeats 4000000 in
set_option maxRecDepth 100000 in
theorem ct_Li_refersToNoObject (l : Launch) (G : va_G) (cA : Nat → ClassId) (x : Int32) : Met l xy_Li_refersToNoObject (.code xy_Li_refersToNoObject xb_Li_refersToNoObject 1 (some .boolean) :: tw_W) ({ frames := 1, cells := 0, slots := 0, locals := 20 }) (pc_r G cA [] [.int x]) (vp_Si (fun r : Int32 => r = rn_R x)) 0 0 (fun _ => False) := by
  refine Met.ofW (cc := xb_Li_refersToNoObject) (maxL := 1) (ret := (some .boolean)) (by decide) rfl ?_
  intro p e s m args below meth c s₁ B hml hv
  obtain ⟨rfl, hK, hP⟩ := hv
  have hx := B.exec
  have hb := B.bytes
  have hr := B.returns
  have hts0 := atoms_spec (ws := .code xy_Li_refersToNoObject xb_Li_refersToNoObject 1 (some .boolean) :: tw_W) B.pre
  have hts : ∀ w9 ∈ tw_W, w9.before [.int x].toArray s = true := fun w9 h9 => hts0 w9 (List.mem_cons_of_mem _ h9)
  have hown : s.vm.findClass xc_Li = some m.cls := findClass_of_methodNamed B.named
  have hlocks := B.notSynchronized
  have hP : va_P G xk_cl [] s.heap := hP
  have hl := lv_entry ([.int x]) (n := 1) (Nat.le_of_ble_eq_true rfl)
  rw [lg_entry_eq]
  generalize (lg_sl ([.int x]) ++ List.replicate (1 - (lg_sl ([.int x])).length) Slot.unset).toArray = ls at hl ⊢
  have hl : lv_has ls 1 [(0, .int x)] := hl
  refine lv_iload_n hx hb xd_Li_refersToNoObject_0 rfl (lv_at hl 0 rfl) ?_
  have hPc := hP
  refine vp_callSi (va_Run.run (va_runSN (As := [.int x]) (rest := []) ⟨hx, hb, hml, hown, hts⟩ (ct_X_kindOf l G cA x) ⟨va_cnB 1 hts (tw_g xm_282) rfl rfl rfl (nw_m hK.2 7 rfl) (hts _ xm_1) xh_X_kindOf ⟨Nat.le_of_ble_eq_true rfl, Nat.le_of_ble_eq_true rfl⟩, hts _ xm_281, trivial⟩ (ps_r hK hPc) rfl rfl hl.1 rfl (lv_room (Nat.le_of_ble_eq_true rfl)) xd_Li_refersToNoObject_1 ⟨Nat.le_of_ble_eq_true rfl, Nat.le_of_ble_eq_true rfl⟩)) (fun r_1 q_2 => ?_)
  refine lx_top (z := en_K x) (q_2) ?_
  refine lv_iconst (v := nI 2) hx hb xd_Li_refersToNoObject_4 (by decide) ?_
  refine lv_icmp_ne (tgt := 22) hx hb xd_Li_refersToNoObject_5 (by decide) (fun c_5_2 => ?_) (fun c_5_2 => ?_)
  · refine lv_iconst (v := nI 0) hx hb xd_Li_refersToNoObject_22 (by decide) ?_
    exact W.zret (v := nI 0) (ty := .boolean) hx hb hr (by decide) (fun T9 ht _ => ⟨_, rfl, by simp [rn_R, c_5_2], ht⟩) (fun _ h => absurd h List.not_mem_nil) xd_Li_refersToNoObject_23
  · refine lv_iload_n hx hb xd_Li_refersToNoObject_8 rfl (lv_at hl 0 rfl) ?_
    have hPc := hP
    refine vp_callSi (va_Run.run (va_runSN (As := [.int x]) (rest := []) ⟨hx, hb, hml, hown, hts⟩ (ct_X_contentOf l G cA x) ⟨va_cnB 1 hts (tw_g xm_285) rfl rfl rfl (nw_m hK.2 8 rfl) (hts _ xm_1) xh_X_contentOf ⟨Nat.le_of_ble_eq_true rfl, Nat.le_of_ble_eq_true rfl⟩, hts _ xm_284, trivial⟩ (ps_r hK hPc) rfl rfl hl.1 rfl (lv_room (Nat.le_of_ble_eq_true rfl)) xd_Li_refersToNoObject_9 ⟨Nat.le_of_ble_eq_true rfl, Nat.le_of_ble_eq_true rfl⟩)) (fun r_4 q_5 => ?_)
    refine lx_top (z := en_V x) (q_5) ?_
    have hPc := hP
    refine vp_callSi (va_Run.run (va_runSN (As := [.int (en_V x)]) (rest := []) ⟨hx, hb, hml, hown, hts⟩ (ct_X_isObject l G cA (en_V x)) ⟨va_cnB 1 hts (tw_g xm_276) rfl rfl rfl (nw_m hK.2 6 rfl) (hts _ xm_1) xh_X_isObject ⟨Nat.le_of_ble_eq_true rfl, Nat.le_of_ble_eq_true rfl⟩, hts _ xm_275, trivial⟩ (ps_r hK hPc) rfl rfl hl.1 rfl (lv_room (Nat.le_of_ble_eq_true rfl)) xd_Li_refersToNoObject_12 ⟨Nat.le_of_ble_eq_true rfl, Nat.le_of_ble_eq_true rfl⟩)) (fun r_6 q_7 => ?_)
    refine lx_top (z := sp_ob (en_V x)) (q_7) ?_
    refine lv_if_ne (tgt := 22) hx hb xd_Li_refersToNoObject_15 (by decide) (fun c_15_7 => ?_) (fun c_15_7 => ?_)
    · refine lv_iconst (v := nI 0) hx hb xd_Li_refersToNoObject_22 (by decide) ?_
      exact W.zret (v := nI 0) (ty := .boolean) hx hb hr (by decide) (fun T9 ht _ => ⟨_, rfl, by simp [rn_R, c_5_2, c_15_7], ht⟩) (fun _ h => absurd h List.not_mem_nil) xd_Li_refersToNoObject_23
    · refine lv_iconst (v := nI 1) hx hb xd_Li_refersToNoObject_18 (by decide) ?_
      refine lv_goto (tgt := 23) hx hb xd_Li_refersToNoObject_19 (by decide) ?_
      exact W.zret (v := nI 1) (ty := .boolean) hx hb hr (by decide) (fun T9 ht _ => ⟨_, rfl, by simp [rn_R, c_5_2, c_15_7], ht⟩) (fun _ h => absurd h List.not_mem_nil) xd_Li_refersToNoObject_23
set_option maxHeartbeats 4000000 in
set_option maxRecDepth 100000 in
theorem ct_Li_hasWrongNumber (l : Launch) (G : va_G) (cA : Nat → ClassId) (li : Nat) (pf : Nat) (pg : Nat) (vb : Int32) (nb : Int32) (wt : Int32) (gv : Int32) : Met l xy_Li_hasWrongNumber (.code xy_Li_hasWrongNumber xb_Li_hasWrongNumber 1 (some .boolean) :: tw_W) ({ frames := 2, cells := 0, slots := 0, locals := 40 }) (pc_r G cA [(li, .inr (4, [.int vb, .int nb, .ref pf, .ref pg, .int wt, .int gv]))] [.ref li]) (vp_Si (fun r : Int32 => r = wn_R vb nb wt gv)) 0 0 (fun _ => False) := by
  refine Met.ofW (cc := xb_Li_hasWrongNumber) (maxL := 1) (ret := (some .boolean)) (by decide) rfl ?_
  intro p e s m args below meth c s₁ B hml hv
  obtain ⟨rfl, hK, hP⟩ := hv
  have hx := B.exec
  have hb := B.bytes
  have hr := B.returns
  have hts0 := atoms_spec (ws := .code xy_Li_hasWrongNumber xb_Li_hasWrongNumber 1 (some .boolean) :: tw_W) B.pre
  have hts : ∀ w9 ∈ tw_W, w9.before [.ref li].toArray s = true := fun w9 h9 => hts0 w9 (List.mem_cons_of_mem _ h9)
  have hown : s.vm.findClass xc_Li = some m.cls := findClass_of_methodNamed B.named
  have hlocks := B.notSynchronized
  have hP : va_P G xk_cl [(li, .inr (4, [.int vb, .int nb, .ref pf, .ref pg, .int wt, .int gv]))] s.heap := hP
  have hl := lv_entry ([.ref li]) (n := 1) (Nat.le_of_ble_eq_true rfl)
  rw [lg_entry_eq]
  generalize (lg_sl ([.ref li]) ++ List.replicate (1 - (lg_sl ([.ref li])).length) Slot.unset).toArray = ls at hl ⊢
  have hl : lv_has ls 1 [(0, .ref li)] := hl
  refine lv_aload_n hx hb xd_Li_hasWrongNumber_0 rfl (lv_at hl 0 rfl) ?_
  refine va_get (D := G) (ci := 4) (v := .int nb) (C := xc_Li) (T := xf_Li) (N := 6) hx hb hts xw_Li hown hK.1 hP 0 rfl rfl 1 (by decide) (hts _ xm_85) (fun _ h9 => h9) rfl xd_Li_hasWrongNumber_1 ?_
  have hPc := hP.sub (ws' := []) [] rfl
  refine vp_callSi (va_Run.run (va_runSN (As := [.int nb]) (rest := []) ⟨hx, hb, hml, hown, hts⟩ (ct_X_isObject l G cA nb) ⟨va_cnB 1 hts (tw_g xm_276) rfl rfl rfl (nw_m hK.2 6 rfl) (hts _ xm_1) xh_X_isObject ⟨Nat.le_of_ble_eq_true rfl, Nat.le_of_ble_eq_true rfl⟩, hts _ xm_275, trivial⟩ (ps_r hK hPc) rfl rfl hl.1 rfl (lv_room (Nat.le_of_ble_eq_true rfl)) xd_Li_hasWrongNumber_4 ⟨Nat.le_of_ble_eq_true rfl, Nat.le_of_ble_eq_true rfl⟩)) (fun r_1 q_2 => ?_)
  refine lx_top (z := sp_ob nb) (q_2) ?_
  refine lv_if_eq (tgt := 46) hx hb xd_Li_hasWrongNumber_7 (by decide) (fun c_7_2 => ?_) (fun c_7_2 => ?_)
  · refine lv_iconst (v := nI 1) hx hb xd_Li_hasWrongNumber_46 (by decide) ?_
    refine lv_goto (tgt := 51) hx hb xd_Li_hasWrongNumber_47 (by decide) ?_
    exact W.zret (v := nI 1) (ty := .boolean) hx hb hr (by decide) (fun T9 ht _ => ⟨_, rfl, by simp [wn_R, c_7_2], ht⟩) (fun _ h => absurd h List.not_mem_nil) xd_Li_hasWrongNumber_51
  · refine lv_aload_n hx hb xd_Li_hasWrongNumber_10 rfl (lv_at hl 0 rfl) ?_
    refine va_get (D := G) (ci := 4) (v := .int vb) (C := xc_Li) (T := xf_Li) (N := 6) hx hb hts xw_Li hown hK.1 hP 0 rfl rfl 0 (by decide) (hts _ xm_83) (fun _ h9 => h9) rfl xd_Li_hasWrongNumber_11 ?_
    refine lv_bipush (v := nI 82) hx hb xd_Li_hasWrongNumber_14 (by decide) ?_
    refine lv_icmp_ne (tgt := 26) hx hb xd_Li_hasWrongNumber_16 (by decide) (fun c_16_3 => ?_) (fun c_16_3 => ?_)
    · refine lv_aload_n hx hb xd_Li_hasWrongNumber_26 rfl (lv_at hl 0 rfl) ?_
      refine va_get (D := G) (ci := 4) (v := .int wt) (C := xc_Li) (T := xf_Li) (N := 6) hx hb hts xw_Li hown hK.1 hP 0 rfl rfl 4 (by decide) (hts _ xm_91) (fun _ h9 => h9) rfl xd_Li_hasWrongNumber_27 ?_
      have hPc := hP.sub (ws' := []) [] rfl
      refine vp_callSi (va_Run.run (va_runS (As := [.int wt]) (rest := []) ⟨hx, hb, hml, hown, hts⟩ (ct_Li_refersToNoObject l G cA wt) (cwS 1 hts (gi_s xm_277 xm_278 xm_5 xm_279) rfl rfl rfl ⟨rfl, xh_Li_refersToNoObject⟩ ⟨Nat.le_of_ble_eq_true rfl, Nat.le_of_ble_eq_true rfl⟩) (ps_r hK hPc) rfl rfl hl.1 rfl (lv_room (Nat.le_of_ble_eq_true rfl)) xd_Li_hasWrongNumber_30 ⟨Nat.le_of_ble_eq_true rfl, Nat.le_of_ble_eq_true rfl⟩)) (fun r_5 q_6 => ?_)
      refine lx_top (z := rn_R wt) (q_6) ?_
      refine lv_if_ne (tgt := 46) hx hb xd_Li_hasWrongNumber_33 (by decide) (fun c_33_6 => ?_) (fun c_33_6 => ?_)
      · refine lv_iconst (v := nI 1) hx hb xd_Li_hasWrongNumber_46 (by decide) ?_
        refine lv_goto (tgt := 51) hx hb xd_Li_hasWrongNumber_47 (by decide) ?_
        exact W.zret (v := nI 1) (ty := .boolean) hx hb hr (by decide) (fun T9 ht _ => ⟨_, rfl, by simp [wn_R, c_7_2, c_16_3, c_33_6], ht⟩) (fun _ h => absurd h List.not_mem_nil) xd_Li_hasWrongNumber_51
      · refine lv_aload_n hx hb xd_Li_hasWrongNumber_36 rfl (lv_at hl 0 rfl) ?_
        refine va_get (D := G) (ci := 4) (v := .int gv) (C := xc_Li) (T := xf_Li) (N := 6) hx hb hts xw_Li hown hK.1 hP 0 rfl rfl 5 (by decide) (hts _ xm_93) (fun _ h9 => h9) rfl xd_Li_hasWrongNumber_37 ?_
        have hPc := hP.sub (ws' := []) [] rfl
        refine vp_callSi (va_Run.run (va_runS (As := [.int gv]) (rest := []) ⟨hx, hb, hml, hown, hts⟩ (ct_Li_refersToNoObject l G cA gv) (cwS 1 hts (gi_s xm_277 xm_278 xm_5 xm_279) rfl rfl rfl ⟨rfl, xh_Li_refersToNoObject⟩ ⟨Nat.le_of_ble_eq_true rfl, Nat.le_of_ble_eq_true rfl⟩) (ps_r hK hPc) rfl rfl hl.1 rfl (lv_room (Nat.le_of_ble_eq_true rfl)) xd_Li_hasWrongNumber_40 ⟨Nat.le_of_ble_eq_true rfl, Nat.le_of_ble_eq_true rfl⟩)) (fun r_8 q_9 => ?_)
        refine lx_top (z := rn_R gv) (q_9) ?_
        refine lv_if_eq (tgt := 50) hx hb xd_Li_hasWrongNumber_43 (by decide) (fun c_43_9 => ?_) (fun c_43_9 => ?_)
        · refine lv_iconst (v := nI 0) hx hb xd_Li_hasWrongNumber_50 (by decide) ?_
          exact W.zret (v := nI 0) (ty := .boolean) hx hb hr (by decide) (fun T9 ht _ => ⟨_, rfl, by simp [wn_R, c_7_2, c_16_3, c_33_6, c_43_9], ht⟩) (fun _ h => absurd h List.not_mem_nil) xd_Li_hasWrongNumber_51
        · refine lv_iconst (v := nI 1) hx hb xd_Li_hasWrongNumber_46 (by decide) ?_
          refine lv_goto (tgt := 51) hx hb xd_Li_hasWrongNumber_47 (by decide) ?_
          exact W.zret (v := nI 1) (ty := .boolean) hx hb hr (by decide) (fun T9 ht _ => ⟨_, rfl, by simp [wn_R, c_7_2, c_16_3, c_33_6, c_43_9], ht⟩) (fun _ h => absurd h List.not_mem_nil) xd_Li_hasWrongNumber_51
    · refine lv_aload_n hx hb xd_Li_hasWrongNumber_19 rfl (lv_at hl 0 rfl) ?_
      refine va_get (D := G) (ci := 4) (v := .int nb) (C := xc_Li) (T := xf_Li) (N := 6) hx hb hts xw_Li hown hK.1 hP 0 rfl rfl 1 (by decide) (hts _ xm_85) (fun _ h9 => h9) rfl xd_Li_hasWrongNumber_20 ?_
      refine lv_if_eq (tgt := 46) hx hb xd_Li_hasWrongNumber_23 (by decide) (fun c_23_10 => ?_) (fun c_23_10 => ?_)
      · refine lv_iconst (v := nI 1) hx hb xd_Li_hasWrongNumber_46 (by decide) ?_
        refine lv_goto (tgt := 51) hx hb xd_Li_hasWrongNumber_47 (by decide) ?_
        exact W.zret (v := nI 1) (ty := .boolean) hx hb hr (by decide) (fun T9 ht _ => ⟨_, rfl, by simp [wn_R, c_7_2, c_16_3, c_23_10], ht⟩) (fun _ h => absurd h List.not_mem_nil) xd_Li_hasWrongNumber_51
      · refine lv_aload_n hx hb xd_Li_hasWrongNumber_26 rfl (lv_at hl 0 rfl) ?_
        refine va_get (D := G) (ci := 4) (v := .int wt) (C := xc_Li) (T := xf_Li) (N := 6) hx hb hts xw_Li hown hK.1 hP 0 rfl rfl 4 (by decide) (hts _ xm_91) (fun _ h9 => h9) rfl xd_Li_hasWrongNumber_27 ?_
        have hPc := hP.sub (ws' := []) [] rfl
        refine vp_callSi (va_Run.run (va_runS (As := [.int wt]) (rest := []) ⟨hx, hb, hml, hown, hts⟩ (ct_Li_refersToNoObject l G cA wt) (cwS 1 hts (gi_s xm_277 xm_278 xm_5 xm_279) rfl rfl rfl ⟨rfl, xh_Li_refersToNoObject⟩ ⟨Nat.le_of_ble_eq_true rfl, Nat.le_of_ble_eq_true rfl⟩) (ps_r hK hPc) rfl rfl hl.1 rfl (lv_room (Nat.le_of_ble_eq_true rfl)) xd_Li_hasWrongNumber_30 ⟨Nat.le_of_ble_eq_true rfl, Nat.le_of_ble_eq_true rfl⟩)) (fun r_12 q_13 => ?_)
        refine lx_top (z := rn_R wt) (q_13) ?_
        refine lv_if_ne (tgt := 46) hx hb xd_Li_hasWrongNumber_33 (by decide) (fun c_33_13 => ?_) (fun c_33_13 => ?_)
        · refine lv_iconst (v := nI 1) hx hb xd_Li_hasWrongNumber_46 (by decide) ?_
          refine lv_goto (tgt := 51) hx hb xd_Li_hasWrongNumber_47 (by decide) ?_
          exact W.zret (v := nI 1) (ty := .boolean) hx hb hr (by decide) (fun T9 ht _ => ⟨_, rfl, by simp [wn_R, c_7_2, c_16_3, c_23_10, c_33_13], ht⟩) (fun _ h => absurd h List.not_mem_nil) xd_Li_hasWrongNumber_51
        · refine lv_aload_n hx hb xd_Li_hasWrongNumber_36 rfl (lv_at hl 0 rfl) ?_
          refine va_get (D := G) (ci := 4) (v := .int gv) (C := xc_Li) (T := xf_Li) (N := 6) hx hb hts xw_Li hown hK.1 hP 0 rfl rfl 5 (by decide) (hts _ xm_93) (fun _ h9 => h9) rfl xd_Li_hasWrongNumber_37 ?_
          have hPc := hP.sub (ws' := []) [] rfl
          refine vp_callSi (va_Run.run (va_runS (As := [.int gv]) (rest := []) ⟨hx, hb, hml, hown, hts⟩ (ct_Li_refersToNoObject l G cA gv) (cwS 1 hts (gi_s xm_277 xm_278 xm_5 xm_279) rfl rfl rfl ⟨rfl, xh_Li_refersToNoObject⟩ ⟨Nat.le_of_ble_eq_true rfl, Nat.le_of_ble_eq_true rfl⟩) (ps_r hK hPc) rfl rfl hl.1 rfl (lv_room (Nat.le_of_ble_eq_true rfl)) xd_Li_hasWrongNumber_40 ⟨Nat.le_of_ble_eq_true rfl, Nat.le_of_ble_eq_true rfl⟩)) (fun r_15 q_16 => ?_)
          refine lx_top (z := rn_R gv) (q_16) ?_
          refine lv_if_eq (tgt := 50) hx hb xd_Li_hasWrongNumber_43 (by decide) (fun c_43_16 => ?_) (fun c_43_16 => ?_)
          · refine lv_iconst (v := nI 0) hx hb xd_Li_hasWrongNumber_50 (by decide) ?_
            exact W.zret (v := nI 0) (ty := .boolean) hx hb hr (by decide) (fun T9 ht _ => ⟨_, rfl, by simp [wn_R, c_7_2, c_16_3, c_23_10, c_33_13, c_43_16], ht⟩) (fun _ h => absurd h List.not_mem_nil) xd_Li_hasWrongNumber_51
          · refine lv_iconst (v := nI 1) hx hb xd_Li_hasWrongNumber_46 (by decide) ?_
            refine lv_goto (tgt := 51) hx hb xd_Li_hasWrongNumber_47 (by decide) ?_
            exact W.zret (v := nI 1) (ty := .boolean) hx hb hr (by decide) (fun T9 ht _ => ⟨_, rfl, by simp [wn_R, c_7_2, c_16_3, c_23_10, c_33_13, c_43_16], ht⟩) (fun _ h => absurd h List.not_mem_nil) xd_Li_hasWrongNumber_51
set_option maxHeartbeats 4000000 in
set_option maxRecDepth 100000 in
theorem ct_Li_readGiven (l : Launch) (G : va_G) (cA : Nat → ClassId) (sz : Nat) (li : Nat) (pf : Nat) (pg : Nat) (vb : Int32) (nb : Int32) (wt : Int32) (gv : Int32) (t : Nat) (tc : Nat) (tn : Nat → Nat) (cnt : Nat) (at_ : Nat) (hc : cnt ≤ 300) (ha : at_ ≤ 300) (hv : ∀ j, tn j < 128) (hac : at_ ≤ cnt) : Met l xy_Li_readGiven (.code xy_Li_readGiven xb_Li_readGiven 2 (some .boolean) :: tw_W) ({ frames := 3, cells := 0, slots := 0, locals := 66 }) (pc_w G cA [(li, .inr (4, [.int vb, .int nb, .ref pf, .ref pg, .int wt, .int gv])), (t, .inr (1, [.ref tc, .int (nI cnt), .int (nI at_)])), (tc, .inl (cA 1, 300, .inl (tx_A tn)))] sz [.ref li, .ref t]) (va_Qi (fun (r : Int32) (_ : Unit) => r = if cl_R tn cnt at_ = 0 then nI 0 else nI 1) (fun _ T9 => at_w G (va_A [(li, .inr (4, [.int vb, .int nb, .ref pf, .ref pg, .int wt, .int gv])), (t, .inr (1, [.ref tc, .int (nI cnt), .int (nI at_)])), (tc, .inl (cA 1, 300, .inl (tx_A tn)))] sz) [(li, .inr (4, [.int vb, .int nb, .ref pf, .ref pg, .int wt, .int (cl_R tn cnt at_)])), (t, .inr (1, [.ref tc, .int (nI cnt), .int (nI (cl_A tn cnt at_))])), (tc, .inl (cA 1, 300, .inl (tx_A tn)))] T9) (va_A [(li, .inr (4, [.int vb, .int nb, .ref pf, .ref pg, .int wt, .int gv])), (t, .inr (1, [.ref tc, .int (nI cnt), .int (nI at_)])), (tc, .inl (cA 1, 300, .inl (tx_A tn)))] sz)) 0 0 (va_A [(li, .inr (4, [.int vb, .int nb, .ref pf, .ref pg, .int wt, .int gv])), (t, .inr (1, [.ref tc, .int (nI cnt), .int (nI at_)])), (tc, .inl (cA 1, 300, .inl (tx_A tn)))] sz) := by
  refine Met.ofW (cc := xb_Li_readGiven) (maxL := 2) (ret := (some .boolean)) (by decide) rfl ?_
  intro p e s m args below meth c s₁ B hml hv
  obtain ⟨rfl, hsz, hK, hP, hD0⟩ := hv
  have hx := B.exec
  have hb := B.bytes
  have hr := B.returns
  have hts0 := atoms_spec (ws := .code xy_Li_readGiven xb_Li_readGiven 2 (some .boolean) :: tw_W) B.pre
  have hts : ∀ w9 ∈ tw_W, w9.before [.ref li, .ref t].toArray s = true := fun w9 h9 => hts0 w9 (List.mem_cons_of_mem _ h9)
  have hown : s.vm.findClass xc_Li = some m.cls := findClass_of_methodNamed B.named
  have hlocks := B.notSynchronized
  subst hsz
  have hD := hD0.self (sz := s.heap.size)
  generalize hAe : va_A [(li, .inr (4, [.int vb, .int nb, .ref pf, .ref pg, .int wt, .int gv])), (t, .inr (1, [.ref tc, .int (nI cnt), .int (nI at_)])), (tc, .inl (cA 1, 300, .inl (tx_A tn)))] s.heap.size = A at hD ⊢
  have hA : ∀ q : Nat, s.heap.size ≤ q → A q := fun q h => by rw [← hAe]; exact Or.inr h
  have hS : va_S A s.heap s.heap [] := va_S.rf
  have hP : va_P G xk_cl [(li, .inr (4, [.int vb, .int nb, .ref pf, .ref pg, .int wt, .int gv])), (t, .inr (1, [.ref tc, .int (nI cnt), .int (nI at_)])), (tc, .inl (cA 1, 300, .inl (tx_A tn)))] s.heap := hP
  have hl := lv_entry ([.ref li, .ref t]) (n := 2) (Nat.le_of_ble_eq_true rfl)
  rw [lg_entry_eq]
  generalize (lg_sl ([.ref li, .ref t]) ++ List.replicate (2 - (lg_sl ([.ref li, .ref t])).length) Slot.unset).toArray = ls at hl ⊢
  have hl : lv_has ls 2 [(0, .ref li), (1, .ref t)] := hl
  refine lv_aload_n hx hb xd_Li_readGiven_0 rfl (lv_at hl 0 rfl) ?_
  refine lv_aload_n hx hb xd_Li_readGiven_1 rfl (lv_at hl 1 rfl) ?_
  have hPc := hP.sub (ws' := [(t, .inr (1, [.ref tc, .int (nI cnt), .int (nI at_)])), (tc, .inl (cA 1, 300, .inl (tx_A tn)))]) [1, 2] rfl
  have hDc := hD.sub (ws' := [(t, .inr (1, [.ref tc, .int (nI cnt), .int (nI at_)])), (tc, .inl (cA 1, 300, .inl (tx_A tn)))]) [1, 2] (by decide) rfl
  have hFc := va_free (wc := [(t, .inr (1, [.ref tc, .int (nI cnt), .int (nI at_)])), (tc, .inl (cA 1, 300, .inl (tx_A tn)))]) hD hS hA [1, 2] rfl
  refine va_calli (va_runV (As := []) (rest := [.ref li]) ⟨hx, hb, hml, hown, hts⟩ (ct_Te_takeCell l G cA s.heap.size t tc tn cnt at_ (by omega) (by omega) (by omega) (by omega)) (cwV 0 hts (gi_v xm_253 xm_254 xm_255 xm_2 xm_256) rfl rfl rfl ⟨rfl, xh_Te_takeCell⟩ ⟨Nat.le_of_ble_eq_true rfl, Nat.le_of_ble_eq_true rfl⟩) (pv_w hK hPc hDc (ci := 1) (q0 := 0) rfl rfl) rfl rfl hl.1 rfl (lv_room (Nat.le_of_ble_eq_true rfl)) xd_Li_readGiven_2 ⟨Nat.le_of_ble_eq_true rfl, Nat.le_of_ble_eq_true rfl⟩) hS (fun q _ h => hFc q h) hFc (fun r_1 u9 t9 H1 locs ht hvm q_2 hB hz1 hk1 hS => ?_)
  obtain ⟨hP1, hD1⟩ := hB
  rw [ht] at hP1
  obtain ⟨hP, hD⟩ := va_join (wr := [(li, .inr (4, [.int vb, .int nb, .ref pf, .ref pg, .int wt, .int gv]))]) (w1 := [(t, .inr (1, [.ref tc, .int (nI cnt), .int (nI (cl_A tn cnt at_))])), (tc, .inl (cA 1, 300, .inl (tx_A tn)))]) hP hD [1, 2] [0] rfl rfl (by decide) (by decide) hk1 hFc hP1 hD1
  generalize H1 = H at hP hS ⊢
  have hP : va_P G xk_cl [(li, .inr (4, [.int vb, .int nb, .ref pf, .ref pg, .int wt, .int gv])), (t, .inr (1, [.ref tc, .int (nI cnt), .int (nI (cl_A tn cnt at_))])), (tc, .inl (cA 1, 300, .inl (tx_A tn)))] H := hP
  have hD : va_D A [(li, .inr (4, [.int vb, .int nb, .ref pf, .ref pg, .int wt, .int gv])), (t, .inr (1, [.ref tc, .int (nI cnt), .int (nI (cl_A tn cnt at_))])), (tc, .inl (cA 1, 300, .inl (tx_A tn)))] := hD
  refine lx_top (z := cl_R tn cnt at_) (q_2) ?_
  refine va_put (D := G) (ci := 4) (v := .int (cl_R tn cnt at_)) (ty := .int) (C := xc_Li) (T := xf_Li) (N := 6) hx hb hts xw_Li xt_Li xt_Li_ok xn_Li hown hK.1 hP hD hS 0 rfl rfl 5 (by decide) (hts _ xm_93) (fun _ h9 => h9) rfl (by decide +kernel) rfl rfl (Nat.le_of_ble_eq_true rfl) xd_Li_readGiven_5 (fun H locs hP hD hS => ?_)
  have hP : va_P G xk_cl [(li, .inr (4, [.int vb, .int nb, .ref pf, .ref pg, .int wt, .int (cl_R tn cnt at_)])), (t, .inr (1, [.ref tc, .int (nI cnt), .int (nI (cl_A tn cnt at_))])), (tc, .inl (cA 1, 300, .inl (tx_A tn)))] H := hP
  have hD : va_D A [(li, .inr (4, [.int vb, .int nb, .ref pf, .ref pg, .int wt, .int (cl_R tn cnt at_)])), (t, .inr (1, [.ref tc, .int (nI cnt), .int (nI (cl_A tn cnt at_))])), (tc, .inl (cA 1, 300, .inl (tx_A tn)))] := hD
  refine lv_aload_n hx hb xd_Li_readGiven_8 rfl (lv_at hl 0 rfl) ?_
  refine va_get (D := G) (ci := 4) (v := .int (cl_R tn cnt at_)) (C := xc_Li) (T := xf_Li) (N := 6) hx hb hts xw_Li hown hK.1 hP 0 rfl rfl 5 (by decide) (hts _ xm_93) (fun _ h9 => h9) rfl xd_Li_readGiven_9 ?_
  refine lv_if_eq (tgt := 19) hx hb xd_Li_readGiven_12 (by decide) (fun c_12_2 => ?_) (fun c_12_2 => ?_)
  · refine lv_iconst (v := nI 0) hx hb xd_Li_readGiven_19 (by decide) ?_
    have hP9 : va_P G xk_cl [(li, .inr (4, [.int vb, .int nb, .ref pf, .ref pg, .int wt, .int (cl_R tn cnt at_)])), (t, .inr (1, [.ref tc, .int (nI cnt), .int (nI (cl_A tn cnt at_))])), (tc, .inl (cA 1, 300, .inl (tx_A tn)))] _ := hP.sub [0, 1, 2] rfl
    have hD9 : va_D A [(li, .inr (4, [.int vb, .int nb, .ref pf, .ref pg, .int wt, .int (cl_R tn cnt at_)])), (t, .inr (1, [.ref tc, .int (nI cnt), .int (nI (cl_A tn cnt at_))])), (tc, .inl (cA 1, 300, .inl (tx_A tn)))] := hD.sub [0, 1, 2] (by decide) rfl
    exact W.zret (v := nI 0) (ty := .boolean) hx hb hr (by decide) (fun T9 ht hW => ⟨⟨_, (), rfl, by rw [if_pos c_12_2], by rw [ht]; exact hP9, hD9⟩, hS.F ht⟩) hS.2.2 xd_Li_readGiven_20
  · refine lv_iconst (v := nI 1) hx hb xd_Li_readGiven_15 (by decide) ?_
    refine lv_goto (tgt := 20) hx hb xd_Li_readGiven_16 (by decide) ?_
    have hP9 : va_P G xk_cl [(li, .inr (4, [.int vb, .int nb, .ref pf, .ref pg, .int wt, .int (cl_R tn cnt at_)])), (t, .inr (1, [.ref tc, .int (nI cnt), .int (nI (cl_A tn cnt at_))])), (tc, .inl (cA 1, 300, .inl (tx_A tn)))] _ := hP.sub [0, 1, 2] rfl
    have hD9 : va_D A [(li, .inr (4, [.int vb, .int nb, .ref pf, .ref pg, .int wt, .int (cl_R tn cnt at_)])), (t, .inr (1, [.ref tc, .int (nI cnt), .int (nI (cl_A tn cnt at_))])), (tc, .inl (cA 1, 300, .inl (tx_A tn)))] := hD.sub [0, 1, 2] (by decide) rfl
    exact W.zret (v := nI 1) (ty := .boolean) hx hb hr (by decide) (fun T9 ht hW => ⟨⟨_, (), rfl, by rw [if_neg c_12_2], by rw [ht]; exact hP9, hD9⟩, hS.F ht⟩) hS.2.2 xd_Li_readGiven_20
set_option maxHeartbeats 4000000 in
set_option maxRecDepth 100000 in
theorem ct_Li_readWanted (l : Launch) (G : va_G) (cA : Nat → ClassId) (sz : Nat) (li : Nat) (pf : Nat) (pg : Nat) (vb : Int32) (nb : Int32) (wt : Int32) (gv : Int32) (t : Nat) (tc : Nat) (tn : Nat → Nat) (cnt : Nat) (at_ : Nat) (hc : cnt ≤ 300) (ha : at_ ≤ 300) (hv : ∀ j, tn j < 128) (hac : at_ ≤ cnt) : Met l xy_Li_readWanted (.code xy_Li_readWanted xb_Li_readWanted 2 (some .boolean) :: tw_W) ({ frames := 3, cells := 0, slots := 0, locals := 66 }) (pc_w G cA [(li, .inr (4, [.int vb, .int nb, .ref pf, .ref pg, .int wt, .int gv])), (t, .inr (1, [.ref tc, .int (nI cnt), .int (nI at_)])), (tc, .inl (cA 1, 300, .inl (tx_A tn)))] sz [.ref li, .ref t]) (va_Qi (fun (r : Int32) (_ : Unit) => r = if cl_R tn cnt at_ = 0 then nI 0 else nI 1) (fun _ T9 => at_w G (va_A [(li, .inr (4, [.int vb, .int nb, .ref pf, .ref pg, .int wt, .int gv])), (t, .inr (1, [.ref tc, .int (nI cnt), .int (nI at_)])), (tc, .inl (cA 1, 300, .inl (tx_A tn)))] sz) [(li, .inr (4, [.int vb, .int nb, .ref pf, .ref pg, .int (cl_R tn cnt at_), .int gv])), (t, .inr (1, [.ref tc, .int (nI cnt), .int (nI (cl_A tn cnt at_))])), (tc, .inl (cA 1, 300, .inl (tx_A tn)))] T9) (va_A [(li, .inr (4, [.int vb, .int nb, .ref pf, .ref pg, .int wt, .int gv])), (t, .inr (1, [.ref tc, .int (nI cnt), .int (nI at_)])), (tc, .inl (cA 1, 300, .inl (tx_A tn)))] sz)) 0 0 (va_A [(li, .inr (4, [.int vb, .int nb, .ref pf, .ref pg, .int wt, .int gv])), (t, .inr (1, [.ref tc, .int (nI cnt), .int (nI at_)])), (tc, .inl (cA 1, 300, .inl (tx_A tn)))] sz) := by
  refine Met.ofW (cc := xb_Li_readWanted) (maxL := 2) (ret := (some .boolean)) (by decide) rfl ?_
  intro p e s m args below meth c s₁ B hml hv
  obtain ⟨rfl, hsz, hK, hP, hD0⟩ := hv
  have hx := B.exec
  have hb := B.bytes
  have hr := B.returns
  have hts0 := atoms_spec (ws := .code xy_Li_readWanted xb_Li_readWanted 2 (some .boolean) :: tw_W) B.pre
  have hts : ∀ w9 ∈ tw_W, w9.before [.ref li, .ref t].toArray s = true := fun w9 h9 => hts0 w9 (List.mem_cons_of_mem _ h9)
  have hown : s.vm.findClass xc_Li = some m.cls := findClass_of_methodNamed B.named
  have hlocks := B.notSynchronized
  subst hsz
  have hD := hD0.self (sz := s.heap.size)
  generalize hAe : va_A [(li, .inr (4, [.int vb, .int nb, .ref pf, .ref pg, .int wt, .int gv])), (t, .inr (1, [.ref tc, .int (nI cnt), .int (nI at_)])), (tc, .inl (cA 1, 300, .inl (tx_A tn)))] s.heap.size = A at hD ⊢
  have hA : ∀ q : Nat, s.heap.size ≤ q → A q := fun q h => by rw [← hAe]; exact Or.inr h
  have hS : va_S A s.heap s.heap [] := va_S.rf
  have hP : va_P G xk_cl [(li, .inr (4, [.int vb, .int nb, .ref pf, .ref pg, .int wt, .int gv])), (t, .inr (1, [.ref tc, .int (nI cnt), .int (nI at_)])), (tc, .inl (cA 1, 300, .inl (tx_A tn)))] s.heap := hP
  have hl := lv_entry ([.ref li, .ref t]) (n := 2) (Nat.le_of_ble_eq_true rfl)
  rw [lg_entry_eq]
  generalize (lg_sl ([.ref li, .ref t]) ++ List.replicate (2 - (lg_sl ([.ref li, .ref t])).length) Slot.unset).toArray = ls at hl ⊢
  have hl : lv_has ls 2 [(0, .ref li), (1, .ref t)] := hl
  refine lv_aload_n hx hb xd_Li_readWanted_0 rfl (lv_at hl 0 rfl) ?_
  refine lv_aload_n hx hb xd_Li_readWanted_1 rfl (lv_at hl 1 rfl) ?_
  have hPc := hP.sub (ws' := [(t, .inr (1, [.ref tc, .int (nI cnt), .int (nI at_)])), (tc, .inl (cA 1, 300, .inl (tx_A tn)))]) [1, 2] rfl
  have hDc := hD.sub (ws' := [(t, .inr (1, [.ref tc, .int (nI cnt), .int (nI at_)])), (tc, .inl (cA 1, 300, .inl (tx_A tn)))]) [1, 2] (by decide) rfl
  have hFc := va_free (wc := [(t, .inr (1, [.ref tc, .int (nI cnt), .int (nI at_)])), (tc, .inl (cA 1, 300, .inl (tx_A tn)))]) hD hS hA [1, 2] rfl
  refine va_calli (va_runV (As := []) (rest := [.ref li]) ⟨hx, hb, hml, hown, hts⟩ (ct_Te_takeCell l G cA s.heap.size t tc tn cnt at_ (by omega) (by omega) (by omega) (by omega)) (cwV 0 hts (gi_v xm_253 xm_254 xm_255 xm_2 xm_256) rfl rfl rfl ⟨rfl, xh_Te_takeCell⟩ ⟨Nat.le_of_ble_eq_true rfl, Nat.le_of_ble_eq_true rfl⟩) (pv_w hK hPc hDc (ci := 1) (q0 := 0) rfl rfl) rfl rfl hl.1 rfl (lv_room (Nat.le_of_ble_eq_true rfl)) xd_Li_readWanted_2 ⟨Nat.le_of_ble_eq_true rfl, Nat.le_of_ble_eq_true rfl⟩) hS (fun q _ h => hFc q h) hFc (fun r_1 u9 t9 H1 locs ht hvm q_2 hB hz1 hk1 hS => ?_)
  obtain ⟨hP1, hD1⟩ := hB
  rw [ht] at hP1
  obtain ⟨hP, hD⟩ := va_join (wr := [(li, .inr (4, [.int vb, .int nb, .ref pf, .ref pg, .int wt, .int gv]))]) (w1 := [(t, .inr (1, [.ref tc, .int (nI cnt), .int (nI (cl_A tn cnt at_))])), (tc, .inl (cA 1, 300, .inl (tx_A tn)))]) hP hD [1, 2] [0] rfl rfl (by decide) (by decide) hk1 hFc hP1 hD1
  generalize H1 = H at hP hS ⊢
  have hP : va_P G xk_cl [(li, .inr (4, [.int vb, .int nb, .ref pf, .ref pg, .int wt, .int gv])), (t, .inr (1, [.ref tc, .int (nI cnt), .int (nI (cl_A tn cnt at_))])), (tc, .inl (cA 1, 300, .inl (tx_A tn)))] H := hP
  have hD : va_D A [(li, .inr (4, [.int vb, .int nb, .ref pf, .ref pg, .int wt, .int gv])), (t, .inr (1, [.ref tc, .int (nI cnt), .int (nI (cl_A tn cnt at_))])), (tc, .inl (cA 1, 300, .inl (tx_A tn)))] := hD
  refine lx_top (z := cl_R tn cnt at_) (q_2) ?_
  refine va_put (D := G) (ci := 4) (v := .int (cl_R tn cnt at_)) (ty := .int) (C := xc_Li) (T := xf_Li) (N := 6) hx hb hts xw_Li xt_Li xt_Li_ok xn_Li hown hK.1 hP hD hS 0 rfl rfl 4 (by decide) (hts _ xm_91) (fun _ h9 => h9) rfl (by decide +kernel) rfl rfl (Nat.le_of_ble_eq_true rfl) xd_Li_readWanted_5 (fun H locs hP hD hS => ?_)
  have hP : va_P G xk_cl [(li, .inr (4, [.int vb, .int nb, .ref pf, .ref pg, .int (cl_R tn cnt at_), .int gv])), (t, .inr (1, [.ref tc, .int (nI cnt), .int (nI (cl_A tn cnt at_))])), (tc, .inl (cA 1, 300, .inl (tx_A tn)))] H := hP
  have hD : va_D A [(li, .inr (4, [.int vb, .int nb, .ref pf, .ref pg, .int (cl_R tn cnt at_), .int gv])), (t, .inr (1, [.ref tc, .int (nI cnt), .int (nI (cl_A tn cnt at_))])), (tc, .inl (cA 1, 300, .inl (tx_A tn)))] := hD
  refine lv_aload_n hx hb xd_Li_readWanted_8 rfl (lv_at hl 0 rfl) ?_
  refine va_get (D := G) (ci := 4) (v := .int (cl_R tn cnt at_)) (C := xc_Li) (T := xf_Li) (N := 6) hx hb hts xw_Li hown hK.1 hP 0 rfl rfl 4 (by decide) (hts _ xm_91) (fun _ h9 => h9) rfl xd_Li_readWanted_9 ?_
  refine lv_if_eq (tgt := 19) hx hb xd_Li_readWanted_12 (by decide) (fun c_12_2 => ?_) (fun c_12_2 => ?_)
  · refine lv_iconst (v := nI 0) hx hb xd_Li_readWanted_19 (by decide) ?_
    have hP9 : va_P G xk_cl [(li, .inr (4, [.int vb, .int nb, .ref pf, .ref pg, .int (cl_R tn cnt at_), .int gv])), (t, .inr (1, [.ref tc, .int (nI cnt), .int (nI (cl_A tn cnt at_))])), (tc, .inl (cA 1, 300, .inl (tx_A tn)))] _ := hP.sub [0, 1, 2] rfl
    have hD9 : va_D A [(li, .inr (4, [.int vb, .int nb, .ref pf, .ref pg, .int (cl_R tn cnt at_), .int gv])), (t, .inr (1, [.ref tc, .int (nI cnt), .int (nI (cl_A tn cnt at_))])), (tc, .inl (cA 1, 300, .inl (tx_A tn)))] := hD.sub [0, 1, 2] (by decide) rfl
    exact W.zret (v := nI 0) (ty := .boolean) hx hb hr (by decide) (fun T9 ht hW => ⟨⟨_, (), rfl, by rw [if_pos c_12_2], by rw [ht]; exact hP9, hD9⟩, hS.F ht⟩) hS.2.2 xd_Li_readWanted_20
  · refine lv_iconst (v := nI 1) hx hb xd_Li_readWanted_15 (by decide) ?_
    refine lv_goto (tgt := 20) hx hb xd_Li_readWanted_16 (by decide) ?_
    have hP9 : va_P G xk_cl [(li, .inr (4, [.int vb, .int nb, .ref pf, .ref pg, .int (cl_R tn cnt at_), .int gv])), (t, .inr (1, [.ref tc, .int (nI cnt), .int (nI (cl_A tn cnt at_))])), (tc, .inl (cA 1, 300, .inl (tx_A tn)))] _ := hP.sub [0, 1, 2] rfl
    have hD9 : va_D A [(li, .inr (4, [.int vb, .int nb, .ref pf, .ref pg, .int (cl_R tn cnt at_), .int gv])), (t, .inr (1, [.ref tc, .int (nI cnt), .int (nI (cl_A tn cnt at_))])), (tc, .inl (cA 1, 300, .inl (tx_A tn)))] := hD.sub [0, 1, 2] (by decide) rfl
    exact W.zret (v := nI 1) (ty := .boolean) hx hb hr (by decide) (fun T9 ht hW => ⟨⟨_, (), rfl, by rw [if_neg c_12_2], by rw [ht]; exact hP9, hD9⟩, hS.F ht⟩) hS.2.2 xd_Li_readWanted_20
