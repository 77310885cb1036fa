set_option maxHeartbeats 4000000 in
set_option maxRecDepth 100000 in
theorem ct_Hi_takeLatest (l : Launch) (G : va_G) (cA : Nat → ClassId) (sz : Nat) (hi : Nat) (rg : Nat) (old : Nat) (cn : Nat) (L : List hs_T) (hcn : cn ≤ 16) (hin_ : (old = 0 ∧ cn ≤ L.length ∧ L.length ≤ 16) ∨ (L.length = 16 ∧ old < 16)) : Met l xy_Hi_takeLatest (.code xy_Hi_takeLatest xb_Hi_takeLatest 1 (some (.object "EditLists2$Store")) :: tw_W) ({ frames := 1, cells := 0, slots := 0, locals := 22 }) (pc_w G cA [(hi, .inr (6, [.ref rg, .int (nI old), .int (nI cn)])), (rg, .inl (cA 3, 16, .inr (.inr (.inr (.inr (rg_F L))))))] sz [.ref hi]) (va_Qq (fun (r : Option Nat) (_ : Unit) => r = if cn = 0 then none else rg_F L ((old + (cn - 1)) % 16)) (fun _ T9 => at_w G (va_A [(hi, .inr (6, [.ref rg, .int (nI old), .int (nI cn)])), (rg, .inl (cA 3, 16, .inr (.inr (.inr (.inr (rg_F L))))))] sz) [(hi, .inr (6, [.ref rg, .int (nI old), .int (nI (cn - 1))])), (rg, .inl (cA 3, 16, .inr (.inr (.inr (.inr (rg_F L))))))] T9) (va_A [(hi, .inr (6, [.ref rg, .int (nI old), .int (nI cn)])), (rg, .inl (cA 3, 16, .inr (.inr (.inr (.inr (rg_F L))))))] sz)) 0 0 (va_A [(hi, .inr (6, [.ref rg, .int (nI old), .int (nI cn)])), (rg, .inl (cA 3, 16, .inr (.inr (.inr (.inr (rg_F L))))))] sz) := by
  refine Met.ofW (cc := xb_Hi_takeLatest) (maxL := 1) (ret := (some (.object "EditLists2$Store"))) (by decide) rfl ?_
  intro p e s m args below meth c s₁ B hml hv
  obtain ⟨rfl, hsz, hK, hP, hD0⟩ := hv
  have hx := B.exec
  have hb := B.bytes
  have hr := B.returns
  have hts0 := atoms_spec (ws := .code xy_Hi_takeLatest xb_Hi_takeLatest 1 (some (.object "EditLists2$Store")) :: tw_W) B.pre
  have hts : ∀ w9 ∈ tw_W, w9.before [.ref hi].toArray s = true := fun w9 h9 => hts0 w9 (List.mem_cons_of_mem _ h9)
  have hown : s.vm.findClass xc_Hi = some m.cls := findClass_of_methodNamed B.named
  have hlocks := B.notSynchronized
  subst hsz
  have hD := hD0.self (sz := s.heap.size)
  generalize hAe : va_A [(hi, .inr (6, [.ref rg, .int (nI old), .int (nI cn)])), (rg, .inl (cA 3, 16, .inr (.inr (.inr (.inr (rg_F L))))))] s.heap.size = A at hD ⊢
  have hA : ∀ q : Nat, s.heap.size ≤ q → A q := fun q h => by rw [← hAe]; exact Or.inr h
  have hS : va_S A s.heap s.heap [] := va_S.rf
  have hP : va_P G xk_cl [(hi, .inr (6, [.ref rg, .int (nI old), .int (nI cn)])), (rg, .inl (cA 3, 16, .inr (.inr (.inr (.inr (rg_F L))))))] s.heap := hP
  have hl := lv_entry ([.ref hi]) (n := 1) (Nat.le_of_ble_eq_true rfl)
  rw [lg_entry_eq]
  generalize (lg_sl ([.ref hi]) ++ List.replicate (1 - (lg_sl ([.ref hi])).length) Slot.unset).toArray = ls at hl ⊢
  have hl : lv_has ls 1 [(0, .ref hi)] := hl
  refine lv_aload_n hx hb xd_Hi_takeLatest_0 rfl (lv_at hl 0 rfl) ?_
  refine va_get (D := G) (ci := 6) (v := .int (nI cn)) (C := xc_Hi) (T := xf_Hi) (N := 3) hx hb hts xw_Hi hown hK.1 hP 0 rfl rfl 2 (by decide) (hts _ xm_134) (fun _ h9 => h9) rfl xd_Hi_takeLatest_1 ?_
  refine lv_if_gt (tgt := 9) hx hb xd_Hi_takeLatest_4 (by decide) (fun c_4_0 => ?_) (fun c_4_0 => ?_)
  · have q_c : ¬ cn = 0 := fun z => absurd c_4_0 (by rw [z]; decide)
    refine lv_aload_n hx hb xd_Hi_takeLatest_9 rfl (lv_at hl 0 rfl) ?_
    refine lv_dup hx hb xd_Hi_takeLatest_10 rfl ?_
    refine va_get (D := G) (ci := 6) (v := .int (nI cn)) (C := xc_Hi) (T := xf_Hi) (N := 3) hx hb hts xw_Hi hown hK.1 hP 0 rfl rfl 2 (by decide) (hts _ xm_134) (fun _ h9 => h9) rfl xd_Hi_takeLatest_11 ?_
    refine lv_iconst (v := nI 1) hx hb xd_Hi_takeLatest_14 (by decide) ?_
    refine lx_isub (z := nI (cn - 1)) hx hb xd_Hi_takeLatest_15 (pk_sub (by omega)) ?_
    refine va_put (D := G) (ci := 6) (v := .int (nI (cn - 1))) (ty := .int) (C := xc_Hi) (T := xf_Hi) (N := 3) hx hb hts xw_Hi xt_Hi xt_Hi_ok xn_Hi hown hK.1 hP hD hS 0 rfl rfl 2 (by decide) (hts _ xm_134) (fun _ h9 => h9) rfl (by decide +kernel) rfl rfl (Nat.le_of_ble_eq_true rfl) xd_Hi_takeLatest_16 (fun H locs hP hD hS => ?_)
    have hP : va_P G xk_cl [(hi, .inr (6, [.ref rg, .int (nI old), .int (nI (cn - 1))])), (rg, .inl (cA 3, 16, .inr (.inr (.inr (.inr (rg_F L))))))] H := hP
    have hD : va_D A [(hi, .inr (6, [.ref rg, .int (nI old), .int (nI (cn - 1))])), (rg, .inl (cA 3, 16, .inr (.inr (.inr (.inr (rg_F L))))))] := hD
    refine lv_aload_n hx hb xd_Hi_takeLatest_19 rfl (lv_at hl 0 rfl) ?_
    refine va_get (D := G) (ci := 6) (v := .ref rg) (C := xc_Hi) (T := xf_Hi) (N := 3) hx hb hts xw_Hi hown hK.1 hP 0 rfl rfl 0 (by decide) (hts _ xm_132) (fun _ h9 => h9) rfl xd_Hi_takeLatest_20 ?_
    refine lv_aload_n hx hb xd_Hi_takeLatest_23 rfl (lv_at hl 0 rfl) ?_
    refine va_get (D := G) (ci := 6) (v := .int (nI old)) (C := xc_Hi) (T := xf_Hi) (N := 3) hx hb hts xw_Hi hown hK.1 hP 0 rfl rfl 1 (by decide) (hts _ xm_133) (fun _ h9 => h9) rfl xd_Hi_takeLatest_24 ?_
    refine lv_aload_n hx hb xd_Hi_takeLatest_27 rfl (lv_at hl 0 rfl) ?_
    refine va_get (D := G) (ci := 6) (v := .int (nI (cn - 1))) (C := xc_Hi) (T := xf_Hi) (N := 3) hx hb hts xw_Hi hown hK.1 hP 0 rfl rfl 2 (by decide) (hts _ xm_134) (fun _ h9 => h9) rfl xd_Hi_takeLatest_28 ?_
    refine lx_iadd (z := nI (old + (cn - 1))) hx hb xd_Hi_takeLatest_31 (nI_add _ _) ?_
    refine lv_bipush (v := nI 16) hx hb xd_Hi_takeLatest_32 (by decide) ?_
    refine vp_callSi (va_Run.run (va_runS (As := [.int (nI (old + (cn - 1))), .int (nI 16)]) (rest := [.ref rg]) ⟨hx, hb, hml, hown, hts⟩ (ct_fm l G cA (old + (cn - 1)) (by omega)) (va_cwS 2 hts (gi_fm xm_386) rfl rfl rfl ym_hd ⟨Nat.le_of_ble_eq_true rfl, Nat.le_of_ble_eq_true rfl⟩) (ps_r hK (hP.sub [] rfl)) rfl rfl hl.1 rfl (lv_room (Nat.le_of_ble_eq_true rfl)) xd_Hi_takeLatest_34 ⟨Nat.le_of_ble_eq_true rfl, Nat.le_of_ble_eq_true rfl⟩)) (fun r_f q_f9 => ?_)
    refine lx_top (z := nI ((old + (cn - 1)) % 16)) (q_f9) ?_
    refine wx_aldq hx hb hK.1 hP 1 3 rfl rfl (k := (old + (cn - 1)) % 16) (by omega) (by decide) xd_Hi_takeLatest_37 ?_
    have hP9 : va_P G xk_cl [(hi, .inr (6, [.ref rg, .int (nI old), .int (nI (cn - 1))])), (rg, .inl (cA 3, 16, .inr (.inr (.inr (.inr (rg_F L))))))] _ := hP.sub [0, 1] rfl
    have hD9 : va_D A [(hi, .inr (6, [.ref rg, .int (nI old), .int (nI (cn - 1))])), (rg, .inl (cA 3, 16, .inr (.inr (.inr (.inr (rg_F L))))))] := hD.sub [0, 1] (by decide) rfl
    exact W.aret (v := va_rf ((rg_F L) ((old + (cn - 1)) % 16))) hx hb hr (Or.inl ⟨_, rfl⟩) (va_rf_or _) (fun T9 ht hW => ⟨⟨(rg_F L) ((old + (cn - 1)) % 16), (), rfl, (if_neg q_c).symm, by rw [ht]; exact hP9, hD9⟩, hS.F ht⟩) hS.2.2 xd_Hi_takeLatest_38
  · have q_c : cn = 0 := Classical.byContradiction fun z => c_4_0 (nI_lt (a := 0) (b := cn) (by omega) (by omega))
    refine lv_null hx hb xd_Hi_takeLatest_7 ?_
    have hP : va_P G xk_cl [(hi, .inr (6, [.ref rg, .int (nI old), .int (nI (cn - 1))])), (rg, .inl (cA 3, 16, .inr (.inr (.inr (.inr (rg_F L))))))] s.heap := by rw [show cn - 1 = cn by omega]; exact hP
    have hD : va_D A [(hi, .inr (6, [.ref rg, .int (nI old), .int (nI (cn - 1))])), (rg, .inl (cA 3, 16, .inr (.inr (.inr (.inr (rg_F L))))))] := by rw [show cn - 1 = cn by omega]; exact hD
    have hP9 : va_P G xk_cl [(hi, .inr (6, [.ref rg, .int (nI old), .int (nI (cn - 1))])), (rg, .inl (cA 3, 16, .inr (.inr (.inr (.inr (rg_F L))))))] _ := hP.sub [0, 1] rfl
    have hD9 : va_D A [(hi, .inr (6, [.ref rg, .int (nI old), .int (nI (cn - 1))])), (rg, .inl (cA 3, 16, .inr (.inr (.inr (.inr (rg_F L))))))] := hD.sub [0, 1] (by decide) rfl
    exact W.aret (v := va_rf none) hx hb hr (Or.inl ⟨_, rfl⟩) (va_rf_or _) (fun T9 ht hW => ⟨⟨none, (), rfl, (if_pos q_c).symm, by rw [ht]; exact hP9, hD9⟩, hS.F ht⟩) hS.2.2 xd_Hi_takeLatest_8
