theorem ct_N_z {p : Nat → Bool} : ∀ {n : Nat}, ct_N p n = 0 → ∀ j, j < n → p j = false
  | 0, _, j, hj => absurd hj (Nat.not_lt_zero _)
  | n + 1, h, j, hj => by
    unfold ct_N at h
    have h1 : ct_N p n = 0 := by omega
    by_cases e : j = n
    · subst e
      cases q : p j
      · rfl
      · rw [q] at h; simp at h
    · exact ct_N_z h1 j (by omega)
theorem sp_kc_z {ce : Nat → Int32} {n : Nat} (h : sp_kc ce n = 0) : ∀ k, k < 26 → ce (n * 26 + k) = 0 := by
  intro k hk
  have h1 : ct_N (fun k => !(ce (n * 26 + k) == 0)) 26 = 0 := nI_z (Nat.lt_of_le_of_lt (ct_N_le _ _) (by decide)) h
  have h2 := ct_N_z h1 k hk
  simpa using h2
theorem sp_kc_c {ce cey : Nat → Int32} {n m : Nat} (h : ∀ k, k < 26 → (ce (n * 26 + k) = 0 ↔ cey (m * 26 + k) = 0)) : sp_kc ce n = sp_kc cey m := by
  unfold sp_kc
  rw [ct_N_cg (fun k hk => ?_)]
  by_cases q : ce (n * 26 + k) = 0
  · simp [q, (h k hk).mp q]
  · have z1 : (ce (n * 26 + k) == 0) = false := beq_eq_false_iff_ne.mpr q
    have z2 : (cey (m * 26 + k) == 0) = false := beq_eq_false_iff_ne.mpr (fun z => q ((h k hk).mpr z))
    rw [z1, z2]
abbrev un_P (st ce sty cey : Nat → Int32) (n : Nat) : Prop := sp_th (st n) = sp_th (sty n) ∧ sp_sg (st n) = sp_sg (sty n) ∧ ∀ k, k < 26 → ce (n * 26 + k) = cey (n * 26 + k)
def sp_un (st ce sty cey : Nat → Int32) (n : Nat) : Int32 := if un_P st ce sty cey n then nI 0 else nI 1
theorem en_nz : ∀ a, a < 40 → ¬ en_C (nI 2) (nI a) = 0 := by decide +kernel
def sp_mj (n : Nat) (x : Int32) : Int32 := if n = 0 ∨ sp_th x = 0 ∨ ¬ sp_sg x = 0 then nI 0 else nI 1
abbrev al_K (ce : Nat → Int32) (a b k : Nat) : Prop := ce (a * 26 + k) = ce (b * 26 + k) ∨ (ce (a * 26 + k) = en_C (nI 2) (nI a) ∧ ce (b * 26 + k) = en_C (nI 2) (nI b))
abbrev al_P (ce : Nat → Int32) (a b : Nat) : Prop := ∀ k, k < 26 → (ce (a * 26 + k) = ce (b * 26 + k) ∨ (ce (a * 26 + k) = en_C (nI 2) (nI a) ∧ ce (b * 26 + k) = en_C (nI 2) (nI b)))
def sp_al (ce : Nat → Int32) (a b : Nat) : Int32 := if al_P ce a b then nI 1 else nI 0
theorem al_kc {ce : Nat → Int32} {a b : Nat} (ha : a < 40) (hb : b < 40) (h : ∀ k, k < 26 → al_K ce a b k) : sp_kc ce a = sp_kc ce b := sp_kc_c (fun k hk => by
  rcases h k hk with e | ⟨e1, e2⟩
  · rw [e]
  · rw [e1, e2]; exact ⟨fun q => absurd q (en_nz a ha), fun q => absurd q (en_nz b hb)⟩)

set_option maxHeartbeats 4000000 in
set_option maxRecDepth 100000 in
theorem ct_St_referencesTo (l : Launch) (G : va_G) (cA : Nat → ClassId) (o : Nat) (a1 : Nat) (a2 : Nat) (a3 : Nat) (ce : Nat → Int32) (n : Nat) : Met l xy_St_referencesTo (.code xy_St_referencesTo xb_St_referencesTo 5 (some .int) :: tw_W) ({ frames := 1, cells := 0, slots := 0, locals := 21 }) (pc_r G cA [(o, .inr (2, [.ref a1, .ref a2, .ref a3])), (a3, .inl (cA 0, 1040, .inl ce))] [.ref o, .int (nI n)]) (vp_Si (fun r : Int32 => r = nI (ct_N (fun j => ce j == en_C (nI 2) (nI n)) 1040))) 0 0 (fun _ => False) := by
  refine Met.ofW (cc := xb_St_referencesTo) (maxL := 5) (ret := (some .int)) (by decide) rfl ?_
  intro p e s m args below meth c s₁ B hml hv
  obtain ⟨rfl, hK, hP⟩ := hv
  have hx := B.exec
  have hb := B.bytes
  have hr := B.returns
  have hts0 := atoms_spec (ws := .code xy_St_referencesTo xb_St_referencesTo 5 (some .int) :: tw_W) B.pre
  have hts : ∀ w9 ∈ tw_W, w9.before [.ref o, .int (nI n)].toArray s = true := fun w9 h9 => hts0 w9 (List.mem_cons_of_mem _ h9)
  have hown : s.vm.findClass xc_St = some m.cls := findClass_of_methodNamed B.named
  have hlocks := B.notSynchronized
  have hP : va_P G xk_cl [(o, .inr (2, [.ref a1, .ref a2, .ref a3])), (a3, .inl (cA 0, 1040, .inl ce))] s.heap := hP
  have hl := lv_entry ([.ref o, .int (nI n)]) (n := 5) (Nat.le_of_ble_eq_true rfl)
  rw [lg_entry_eq]
  generalize (lg_sl ([.ref o, .int (nI n)]) ++ List.replicate (5 - (lg_sl ([.ref o, .int (nI n)])).length) Slot.unset).toArray = ls at hl ⊢
  have hl : lv_has ls 5 [(0, .ref o), (1, .int (nI n))] := hl
  refine lv_iconst (v := nI 2) hx hb xd_St_referencesTo_0 (by decide) ?_
  refine lv_iload_n hx hb xd_St_referencesTo_1 rfl (lv_at hl 1 rfl) ?_
  have hPc := hP.sub (ws' := []) [] rfl
  refine vp_callSi (va_Run.run (va_runSN (As := [.int (nI 2), .int (nI n)]) (rest := []) ⟨hx, hb, hml, hown, hts⟩ (ct_X_cellOf l G cA (nI 2) (nI n)) ⟨va_cnB 2 hts (tw_g xm_261) rfl rfl rfl (nw_m hK.2 16 rfl) (hts _ xm_1) xh_X_cellOf ⟨Nat.le_of_ble_eq_true rfl, Nat.le_of_ble_eq_true rfl⟩, hts _ xm_260, trivial⟩ (ps_r hK hPc) rfl rfl hl.1 rfl (lv_room (Nat.le_of_ble_eq_true rfl)) xd_St_referencesTo_2 ⟨Nat.le_of_ble_eq_true rfl, Nat.le_of_ble_eq_true rfl⟩)) (fun r_1 q_2 => ?_)
  refine lx_top (z := en_C (nI 2) (nI n)) (q_2) ?_
  refine lv_istore_n (lv' := [(2, .int (en_C (nI 2) (nI n))), (0, .ref o), (1, .int (nI n))]) hx hb xd_St_referencesTo_5 rfl hl (by decide) rfl (fun ls hl => ?_)
  refine lv_iconst (v := nI 0) hx hb xd_St_referencesTo_6 (by decide) ?_
  refine lv_istore_n (lv' := [(3, .int (nI 0)), (2, .int (en_C (nI 2) (nI n))), (0, .ref o), (1, .int (nI n))]) hx hb xd_St_referencesTo_7 rfl hl (by decide) rfl (fun ls hl => ?_)
  refine lv_iconst (v := nI 0) hx hb xd_St_referencesTo_8 (by decide) ?_
  refine lv_istore (lv' := [(4, .int (nI 0)), (3, .int (nI 0)), (2, .int (en_C (nI 2) (nI n))), (0, .ref o), (1, .int (nI n))]) hx hb xd_St_referencesTo_9 hl (by decide) rfl (fun ls hl => ?_)
  have hl : lv_has ls 5 [(4, .int (nI 0)), (3, .int (nI (ct_N (fun j => ce j == en_C (nI 2) (nI n)) 0))), (2, .int (en_C (nI 2) (nI n))), (0, .ref o), (1, .int (nI n))] := by rw [ct_N]; exact hl
  have lp : ∀ (k_lp : Nat) (i : Nat), (i ≤ 1040) → 1040 - i < k_lp → ∀ (ls : Array Slot), lv_has ls 5 [(0, .ref o), (1, .int (nI n)), (2, .int (en_C (nI 2) (nI n))), (3, .int (nI (ct_N (fun j => ce j == en_C (nI 2) (nI n)) i))), (4, .int (nI i))] → W p l e (headSpec (.code xy_St_referencesTo xb_St_referencesTo 5 (some .int) :: tw_W) ({ frames := 1, cells := 0, slots := 0, locals := 21 })).room s m ([.ref o, .int (nI n)] : List Value).toArray below meth c s.heap [] 0 0 (MQ below (vp_Si (fun r : Int32 => r = nI (ct_N (fun j => ce j == en_C (nI 2) (nI n)) 1040))) ([.ref o, .int (nI n)] : List Value).toArray s 0 0 (fun _ => False)) (F0 m 11 ls []) := by
    intro k_lp
    induction k_lp with
    | zero =>
      intro i hi hk_lp
      exact absurd hk_lp (Nat.not_lt_zero _)
    | succ k_lp ih_lp =>
      intro i hi hk_lp ls hl
      refine lv_iload hx hb xd_St_referencesTo_11 (lv_at hl 4 rfl) ?_
      refine lv_aload_n hx hb xd_St_referencesTo_13 rfl (lv_at hl 0 rfl) ?_
      refine va_get (D := G) (ci := 2) (v := .ref a3) (C := xc_St) (T := xf_St) (N := 3) hx hb hts xw_St hown hK.1 hP 0 rfl rfl 2 (by decide) (hts _ xm_49) (fun _ h9 => h9) rfl xd_St_referencesTo_14 ?_
      refine va_alen hx hb hK.1 hP 1 0 rfl rfl (v := nI 1040) rfl xd_St_referencesTo_17 ?_
      refine lv_icmp_ge (tgt := 41) hx hb xd_St_referencesTo_18 (by decide) (fun c_18_2 => ?_) (fun c_18_2 => ?_)
      · have e_i : i = 1040 := Nat.le_antisymm hi (nI_gle (by decide) (by omega) c_18_2)
        subst e_i
        refine lv_iload_n hx hb xd_St_referencesTo_41 rfl (lv_at hl 3 rfl) ?_
        exact W.iret (v := nI (ct_N (fun j => ce j == en_C (nI 2) (nI n)) 1040)) hx hb hr (fun T9 ht _ => ⟨_, rfl, rfl, ht⟩) (fun _ h => absurd h List.not_mem_nil) xd_St_referencesTo_42
      · have e_i := nI_gnl (by decide) (by omega) c_18_2
        refine lv_aload_n hx hb xd_St_referencesTo_21 rfl (lv_at hl 0 rfl) ?_
        refine va_get (D := G) (ci := 2) (v := .ref a3) (C := xc_St) (T := xf_St) (N := 3) hx hb hts xw_St hown hK.1 hP 0 rfl rfl 2 (by decide) (hts _ xm_49) (fun _ h9 => h9) rfl xd_St_referencesTo_22 ?_
        refine lv_iload hx hb xd_St_referencesTo_25 (lv_at hl 4 rfl) ?_
        refine wx_iald hx hb hK.1 hP 1 0 rfl rfl (k := i) (by omega) (by decide) xd_St_referencesTo_27 ?_
        refine lv_iload_n hx hb xd_St_referencesTo_28 rfl (lv_at hl 2 rfl) ?_
        refine lv_icmp_ne (tgt := 35) hx hb xd_St_referencesTo_29 (by decide) (fun c_29_3 => ?_) (fun c_29_3 => ?_)
        · refine lv_iinc (v := nI (i + 1)) (lv' := [(4, .int (nI (i + 1))), (0, .ref o), (1, .int (nI n)), (2, .int (en_C (nI 2) (nI n))), (3, .int (nI (ct_N (fun j => ce j == en_C (nI 2) (nI n)) i)))]) hx hb xd_St_referencesTo_35 hl (k := 4) rfl (nI_inc _) (by decide) rfl (fun ls hl => ?_)
          refine lv_goto (tgt := 11) hx hb xd_St_referencesTo_38 (by decide) ?_
          have hl : lv_has ls 5 [(4, .int (nI (i + 1))), (0, .ref o), (1, .int (nI n)), (2, .int (en_C (nI 2) (nI n))), (3, .int (nI (ct_N (fun j => ce j == en_C (nI 2) (nI n)) (i + 1))))] := by rw [ct_N_f (by simp [c_29_3])]; exact hl
          exact ih_lp (i + 1) (by omega) (by omega) ls (lv_sub hl [1, 2, 3, 4, 0] rfl)
        · refine lv_iinc (v := nI (ct_N (fun j => ce j == en_C (nI 2) (nI n)) i + 1)) (lv' := [(3, .int (nI (ct_N (fun j => ce j == en_C (nI 2) (nI n)) i + 1))), (0, .ref o), (1, .int (nI n)), (2, .int (en_C (nI 2) (nI n))), (4, .int (nI i))]) hx hb xd_St_referencesTo_32 hl (k := 3) rfl (nI_inc _) (by decide) rfl (fun ls hl => ?_)
          refine lv_iinc (v := nI (i + 1)) (lv' := [(4, .int (nI (i + 1))), (3, .int (nI (ct_N (fun j => ce j == en_C (nI 2) (nI n)) i + 1))), (0, .ref o), (1, .int (nI n)), (2, .int (en_C (nI 2) (nI n)))]) hx hb xd_St_referencesTo_35 hl (k := 4) rfl (nI_inc _) (by decide) rfl (fun ls hl => ?_)
          refine lv_goto (tgt := 11) hx hb xd_St_referencesTo_38 (by decide) ?_
          have hl : lv_has ls 5 [(4, .int (nI (i + 1))), (3, .int (nI (ct_N (fun j => ce j == en_C (nI 2) (nI n)) (i + 1)))), (0, .ref o), (1, .int (nI n)), (2, .int (en_C (nI 2) (nI n)))] := by rw [ct_N_t (by simp [c_29_3])]; exact hl
          exact ih_lp (i + 1) (by omega) (by omega) ls (lv_sub hl [2, 3, 4, 1, 0] rfl)
  exact lp ((1040 - 0) + 1) 0 (by omega) (Nat.lt_succ_self _) ls (lv_sub hl [3, 4, 2, 1, 0] rfl)
set_option maxHeartbeats 4000000 in
set_option maxRecDepth 100000 in
theorem ct_St_isUnlike (l : Launch) (G : va_G) (cA : Nat → ClassId) (o : Nat) (a1 : Nat) (a2 : Nat) (a3 : Nat) (y : Nat) (a1y : Nat) (a2y : Nat) (a3y : Nat) (st : Nat → Int32) (ce : Nat → Int32) (sty : Nat → Int32) (cey : Nat → Int32) (n : Nat) (hn : n < 40) : Met l xy_St_isUnlike (.code xy_St_isUnlike xb_St_isUnlike 4 (some .boolean) :: tw_W) ({ frames := 2, cells := 0, slots := 0, locals := 42 }) (pc_r G cA [(o, .inr (2, [.ref a1, .ref a2, .ref a3])), (a1, .inl (cA 0, 40, .inl st)), (a2, .inl (cA 0, 40, .inl (sp_kc ce))), (a3, .inl (cA 0, 1040, .inl ce)), (y, .inr (2, [.ref a1y, .ref a2y, .ref a3y])), (a1y, .inl (cA 0, 40, .inl sty)), (a2y, .inl (cA 0, 40, .inl (sp_kc cey))), (a3y, .inl (cA 0, 1040, .inl cey))] [.ref o, .ref y, .int (nI n)]) (vp_Si (fun r : Int32 => r = sp_un st ce sty cey n)) 0 0 (fun _ => False) := by
  refine Met.ofW (cc := xb_St_isUnlike) (maxL := 4) (ret := (some .boolean)) (by decide) rfl ?_
  intro p e s m args below meth c s₁ B hml hv
  obtain ⟨rfl, hK, hP⟩ := hv
  have hx := B.exec
  have hb := B.bytes
  have hr := B.returns
  have hts0 := atoms_spec (ws := .code xy_St_isUnlike xb_St_isUnlike 4 (some .boolean) :: tw_W) B.pre
  have hts : ∀ w9 ∈ tw_W, w9.before [.ref o, .ref y, .int (nI n)].toArray s = true := fun w9 h9 => hts0 w9 (List.mem_cons_of_mem _ h9)
  have hown : s.vm.findClass xc_St = some m.cls := findClass_of_methodNamed B.named
  have hlocks := B.notSynchronized
  have hP : va_P G xk_cl [(o, .inr (2, [.ref a1, .ref a2, .ref a3])), (a1, .inl (cA 0, 40, .inl st)), (a2, .inl (cA 0, 40, .inl (sp_kc ce))), (a3, .inl (cA 0, 1040, .inl ce)), (y, .inr (2, [.ref a1y, .ref a2y, .ref a3y])), (a1y, .inl (cA 0, 40, .inl sty)), (a2y, .inl (cA 0, 40, .inl (sp_kc cey))), (a3y, .inl (cA 0, 1040, .inl cey))] s.heap := hP
  have hl := lv_entry ([.ref o, .ref y, .int (nI n)]) (n := 4) (Nat.le_of_ble_eq_true rfl)
  rw [lg_entry_eq]
  generalize (lg_sl ([.ref o, .ref y, .int (nI n)]) ++ List.replicate (4 - (lg_sl ([.ref o, .ref y, .int (nI n)])).length) Slot.unset).toArray = ls at hl ⊢
  have hl : lv_has ls 4 [(0, .ref o), (1, .ref y), (2, .int (nI n))] := hl
  refine lv_aload_n hx hb xd_St_isUnlike_0 rfl (lv_at hl 0 rfl) ?_
  refine lv_iload_n hx hb xd_St_isUnlike_1 rfl (lv_at hl 2 rfl) ?_
  have hPc := hP.sub (ws' := [(o, .inr (2, [.ref a1, .ref a2, .ref a3])), (a1, .inl (cA 0, 40, .inl st))]) [0, 1] rfl
  refine vp_callSi (va_Run.run (va_runV (As := [.int (nI n)]) (rest := []) ⟨hx, hb, hml, hown, hts⟩ (ct_St_isThere l G cA o a1 a2 a3 st n (by omega)) (cwV 1 hts (gi_v xm_399 xm_291 xm_292 xm_3 xm_293) rfl rfl rfl ⟨rfl, xh_St_isThere⟩ ⟨Nat.le_of_ble_eq_true rfl, Nat.le_of_ble_eq_true rfl⟩) (pv_r hK hPc (ci := 2) (q0 := 0) rfl rfl) rfl rfl hl.1 rfl (lv_room (Nat.le_of_ble_eq_true rfl)) xd_St_isUnlike_2 ⟨Nat.le_of_ble_eq_true rfl, Nat.le_of_ble_eq_true rfl⟩)) (fun r_1 q_2 => ?_)
  refine lx_top (z := sp_th (st n)) (q_2) ?_
  refine lv_aload_n hx hb xd_St_isUnlike_5 rfl (lv_at hl 1 rfl) ?_
  refine lv_iload_n hx hb xd_St_isUnlike_6 rfl (lv_at hl 2 rfl) ?_
  have hPc := hP.sub (ws' := [(y, .inr (2, [.ref a1y, .ref a2y, .ref a3y])), (a1y, .inl (cA 0, 40, .inl sty))]) [4, 5] rfl
  refine vp_callSi (va_Run.run (va_runV (As := [.int (nI n)]) (rest := [.int (sp_th (st n))]) ⟨hx, hb, hml, hown, hts⟩ (ct_St_isThere l G cA y a1y a2y a3y sty n (by omega)) (cwV 1 hts (gi_v xm_399 xm_291 xm_292 xm_3 xm_293) rfl rfl rfl ⟨rfl, xh_St_isThere⟩ ⟨Nat.le_of_ble_eq_true rfl, Nat.le_of_ble_eq_true rfl⟩) (pv_r hK hPc (ci := 2) (q0 := 0) rfl rfl) rfl rfl hl.1 rfl (lv_room (Nat.le_of_ble_eq_true rfl)) xd_St_isUnlike_7 ⟨Nat.le_of_ble_eq_true rfl, Nat.le_of_ble_eq_true rfl⟩)) (fun r_3 q_4 => ?_)
  refine lx_top (z := sp_th (sty n)) (q_4) ?_
  refine lv_icmp_ne (tgt := 39) hx hb xd_St_isUnlike_10 (by decide) (fun c_10_4 => ?_) (fun c_10_4 => ?_)
  · refine lv_iconst (v := nI 1) hx hb xd_St_isUnlike_39 (by decide) ?_
    exact W.zret (v := nI 1) (ty := .boolean) hx hb hr (by decide) (fun T9 ht _ => ⟨_, rfl, by rw [sp_un, if_neg (fun h => c_10_4 h.1)], ht⟩) (fun _ h => absurd h List.not_mem_nil) xd_St_isUnlike_40
  · refine lv_aload_n hx hb xd_St_isUnlike_13 rfl (lv_at hl 0 rfl) ?_
    refine lv_iload_n hx hb xd_St_isUnlike_14 rfl (lv_at hl 2 rfl) ?_
    have hPc := hP.sub (ws' := [(o, .inr (2, [.ref a1, .ref a2, .ref a3])), (a1, .inl (cA 0, 40, .inl st))]) [0, 1] rfl
    refine vp_callSi (va_Run.run (va_runV (As := [.int (nI n)]) (rest := []) ⟨hx, hb, hml, hown, hts⟩ (ct_St_isSigned l G cA o a1 a2 a3 st n (by omega)) (cwV 1 hts (gi_v xm_400 xm_308 xm_309 xm_3 xm_310) rfl rfl rfl ⟨rfl, xh_St_isSigned⟩ ⟨Nat.le_of_ble_eq_true rfl, Nat.le_of_ble_eq_true rfl⟩) (pv_r hK hPc (ci := 2) (q0 := 0) rfl rfl) rfl rfl hl.1 rfl (lv_room (Nat.le_of_ble_eq_true rfl)) xd_St_isUnlike_15 ⟨Nat.le_of_ble_eq_true rfl, Nat.le_of_ble_eq_true rfl⟩)) (fun r_6 q_7 => ?_)
    refine lx_top (z := sp_sg (st n)) (q_7) ?_
    refine lv_aload_n hx hb xd_St_isUnlike_18 rfl (lv_at hl 1 rfl) ?_
    refine lv_iload_n hx hb xd_St_isUnlike_19 rfl (lv_at hl 2 rfl) ?_
    have hPc := hP.sub (ws' := [(y, .inr (2, [.ref a1y, .ref a2y, .ref a3y])), (a1y, .inl (cA 0, 40, .inl sty))]) [4, 5] rfl
    refine vp_callSi (va_Run.run (va_runV (As := [.int (nI n)]) (rest := [.int (sp_sg (st n))]) ⟨hx, hb, hml, hown, hts⟩ (ct_St_isSigned l G cA y a1y a2y a3y sty n (by omega)) (cwV 1 hts (gi_v xm_400 xm_308 xm_309 xm_3 xm_310) rfl rfl rfl ⟨rfl, xh_St_isSigned⟩ ⟨Nat.le_of_ble_eq_true rfl, Nat.le_of_ble_eq_true rfl⟩) (pv_r hK hPc (ci := 2) (q0 := 0) rfl rfl) rfl rfl hl.1 rfl (lv_room (Nat.le_of_ble_eq_true rfl)) xd_St_isUnlike_20 ⟨Nat.le_of_ble_eq_true rfl, Nat.le_of_ble_eq_true rfl⟩)) (fun r_8 q_9 => ?_)
    refine lx_top (z := sp_sg (sty n)) (q_9) ?_
    refine lv_icmp_ne (tgt := 39) hx hb xd_St_isUnlike_23 (by decide) (fun c_23_9 => ?_) (fun c_23_9 => ?_)
    · refine lv_iconst (v := nI 1) hx hb xd_St_isUnlike_39 (by decide) ?_
      exact W.zret (v := nI 1) (ty := .boolean) hx hb hr (by decide) (fun T9 ht _ => ⟨_, rfl, by rw [sp_un, if_neg (fun h => c_23_9 h.2.1)], ht⟩) (fun _ h => absurd h List.not_mem_nil) xd_St_isUnlike_40
    · refine lv_aload_n hx hb xd_St_isUnlike_26 rfl (lv_at hl 0 rfl) ?_
      refine lv_iload_n hx hb xd_St_isUnlike_27 rfl (lv_at hl 2 rfl) ?_
      have hPc := hP.sub (ws' := [(o, .inr (2, [.ref a1, .ref a2, .ref a3])), (a2, .inl (cA 0, 40, .inl (sp_kc ce)))]) [0, 2] rfl
      refine vp_callSi (va_Run.run (va_runV (As := [.int (nI n)]) (rest := []) ⟨hx, hb, hml, hown, hts⟩ (ct_St_keyCount l G cA o a1 a2 a3 (sp_kc ce) n (by omega)) (cwV 1 hts (gi_v xm_401 xm_402 xm_403 xm_3 xm_404) rfl rfl rfl ⟨rfl, xh_St_keyCount⟩ ⟨Nat.le_of_ble_eq_true rfl, Nat.le_of_ble_eq_true rfl⟩) (pv_r hK hPc (ci := 2) (q0 := 0) rfl rfl) rfl rfl hl.1 rfl (lv_room (Nat.le_of_ble_eq_true rfl)) xd_St_isUnlike_28 ⟨Nat.le_of_ble_eq_true rfl, Nat.le_of_ble_eq_true rfl⟩)) (fun r_11 q_12 => ?_)
      refine lx_top (z := (sp_kc ce) n) (q_12) ?_
      refine lv_aload_n hx hb xd_St_isUnlike_31 rfl (lv_at hl 1 rfl) ?_
      refine lv_iload_n hx hb xd_St_isUnlike_32 rfl (lv_at hl 2 rfl) ?_
      have hPc := hP.sub (ws' := [(y, .inr (2, [.ref a1y, .ref a2y, .ref a3y])), (a2y, .inl (cA 0, 40, .inl (sp_kc cey)))]) [4, 6] rfl
      refine vp_callSi (va_Run.run (va_runV (As := [.int (nI n)]) (rest := [.int ((sp_kc ce) n)]) ⟨hx, hb, hml, hown, hts⟩ (ct_St_keyCount l G cA y a1y a2y a3y (sp_kc cey) n (by omega)) (cwV 1 hts (gi_v xm_401 xm_402 xm_403 xm_3 xm_404) rfl rfl rfl ⟨rfl, xh_St_keyCount⟩ ⟨Nat.le_of_ble_eq_true rfl, Nat.le_of_ble_eq_true rfl⟩) (pv_r hK hPc (ci := 2) (q0 := 0) rfl rfl) rfl rfl hl.1 rfl (lv_room (Nat.le_of_ble_eq_true rfl)) xd_St_isUnlike_33 ⟨Nat.le_of_ble_eq_true rfl, Nat.le_of_ble_eq_true rfl⟩)) (fun r_13 q_14 => ?_)
      refine lx_top (z := (sp_kc cey) n) (q_14) ?_
      refine lv_icmp_eq (tgt := 41) hx hb xd_St_isUnlike_36 (by decide) (fun c_36_14 => ?_) (fun c_36_14 => ?_)
      · refine lv_aload_n hx hb xd_St_isUnlike_41 rfl (lv_at hl 0 rfl) ?_
        refine lv_iload_n hx hb xd_St_isUnlike_42 rfl (lv_at hl 2 rfl) ?_
        have hPc := hP.sub (ws' := [(o, .inr (2, [.ref a1, .ref a2, .ref a3])), (a2, .inl (cA 0, 40, .inl (sp_kc ce)))]) [0, 2] rfl
        refine vp_callSi (va_Run.run (va_runV (As := [.int (nI n)]) (rest := []) ⟨hx, hb, hml, hown, hts⟩ (ct_St_keyCount l G cA o a1 a2 a3 (sp_kc ce) n (by omega)) (cwV 1 hts (gi_v xm_401 xm_402 xm_403 xm_3 xm_404) rfl rfl rfl ⟨rfl, xh_St_keyCount⟩ ⟨Nat.le_of_ble_eq_true rfl, Nat.le_of_ble_eq_true rfl⟩) (pv_r hK hPc (ci := 2) (q0 := 0) rfl rfl) rfl rfl hl.1 rfl (lv_room (Nat.le_of_ble_eq_true rfl)) xd_St_isUnlike_43 ⟨Nat.le_of_ble_eq_true rfl, Nat.le_of_ble_eq_true rfl⟩)) (fun r_16 q_17 => ?_)
        refine lx_top (z := (sp_kc ce) n) (q_17) ?_
        refine lv_if_ne (tgt := 51) hx hb xd_St_isUnlike_46 (by decide) (fun c_46_17 => ?_) (fun c_46_17 => ?_)
        · refine lv_iconst (v := nI 0) hx hb xd_St_isUnlike_51 (by decide) ?_
          refine lv_istore_n (lv' := [(3, .int (nI 0)), (0, .ref o), (1, .ref y), (2, .int (nI n))]) hx hb xd_St_isUnlike_52 rfl hl (by decide) rfl (fun ls hl => ?_)
          have lp : ∀ (k_lp : Nat) (i : Nat), (i ≤ 26) → (∀ k, k < i → ce (n * 26 + k) = cey (n * 26 + k)) → 26 - i < k_lp → ∀ (ls : Array Slot), lv_has ls 4 [(0, .ref o), (1, .ref y), (2, .int (nI n)), (3, .int (nI i))] → W p l e (headSpec (.code xy_St_isUnlike xb_St_isUnlike 4 (some .boolean) :: tw_W) ({ frames := 2, cells := 0, slots := 0, locals := 42 })).room s m ([.ref o, .ref y, .int (nI n)] : List Value).toArray below meth c s.heap [] 0 0 (MQ below (vp_Si (fun r : Int32 => r = sp_un st ce sty cey n)) ([.ref o, .ref y, .int (nI n)] : List Value).toArray s 0 0 (fun _ => False)) (F0 m 53 ls []) := by
            intro k_lp
            induction k_lp with
            | zero =>
              intro i hi hj hk_lp
              exact absurd hk_lp (Nat.not_lt_zero _)
            | succ k_lp ih_lp =>
              intro i hi hj hk_lp ls hl
              refine lv_iload_n hx hb xd_St_isUnlike_53 rfl (lv_at hl 3 rfl) ?_
              refine lv_bipush (v := nI 26) hx hb xd_St_isUnlike_54 (by decide) ?_
              refine lv_icmp_ge (tgt := 82) hx hb xd_St_isUnlike_56 (by decide) (fun c_56_18 => ?_) (fun c_56_18 => ?_)
              · have e_i : i = 26 := Nat.le_antisymm hi (nI_gle (by decide) (by omega) c_56_18)
                subst e_i
                refine lv_iconst (v := nI 0) hx hb xd_St_isUnlike_82 (by decide) ?_
                exact W.zret (v := nI 0) (ty := .boolean) hx hb hr (by decide) (fun T9 ht _ => ⟨_, rfl, by rw [sp_un, if_pos ⟨c_10_4, c_23_9, hj⟩], ht⟩) (fun _ h => absurd h List.not_mem_nil) xd_St_isUnlike_83
              · have e_i := nI_gnl (by decide) (by omega) c_56_18
                refine lv_aload_n hx hb xd_St_isUnlike_59 rfl (lv_at hl 0 rfl) ?_
                refine lv_iload_n hx hb xd_St_isUnlike_60 rfl (lv_at hl 2 rfl) ?_
                refine lv_iload_n hx hb xd_St_isUnlike_61 rfl (lv_at hl 3 rfl) ?_
                have hPc := hP.sub (ws' := [(o, .inr (2, [.ref a1, .ref a2, .ref a3])), (a3, .inl (cA 0, 1040, .inl ce))]) [0, 3] rfl
                refine vp_callSi (va_Run.run (va_runV (As := [.int (nI n), .int (nI i)]) (rest := []) ⟨hx, hb, hml, hown, hts⟩ (ct_St_cellAt l G cA o a1 a2 a3 ce n i (by omega) (by omega)) (cwV 2 hts (gi_v xm_405 xm_347 xm_348 xm_3 xm_349) rfl rfl rfl ⟨rfl, xh_St_cellAt⟩ ⟨Nat.le_of_ble_eq_true rfl, Nat.le_of_ble_eq_true rfl⟩) (pv_r hK hPc (ci := 2) (q0 := 0) rfl rfl) rfl rfl hl.1 rfl (lv_room (Nat.le_of_ble_eq_true rfl)) xd_St_isUnlike_62 ⟨Nat.le_of_ble_eq_true rfl, Nat.le_of_ble_eq_true rfl⟩)) (fun r_20 q_21 => ?_)
                refine lx_top (z := ce (n * 26 + i)) (q_21) ?_
                refine lv_aload_n hx hb xd_St_isUnlike_65 rfl (lv_at hl 1 rfl) ?_
                refine lv_iload_n hx hb xd_St_isUnlike_66 rfl (lv_at hl 2 rfl) ?_
                refine lv_iload_n hx hb xd_St_isUnlike_67 rfl (lv_at hl 3 rfl) ?_
                have hPc := hP.sub (ws' := [(y, .inr (2, [.ref a1y, .ref a2y, .ref a3y])), (a3y, .inl (cA 0, 1040, .inl cey))]) [4, 7] rfl
                refine vp_callSi (va_Run.run (va_runV (As := [.int (nI n), .int (nI i)]) (rest := [.int (ce (n * 26 + i))]) ⟨hx, hb, hml, hown, hts⟩ (ct_St_cellAt l G cA y a1y a2y a3y cey n i (by omega) (by omega)) (cwV 2 hts (gi_v xm_405 xm_347 xm_348 xm_3 xm_349) rfl rfl rfl ⟨rfl, xh_St_cellAt⟩ ⟨Nat.le_of_ble_eq_true rfl, Nat.le_of_ble_eq_true rfl⟩) (pv_r hK hPc (ci := 2) (q0 := 0) rfl rfl) rfl rfl hl.1 rfl (lv_room (Nat.le_of_ble_eq_true rfl)) xd_St_isUnlike_68 ⟨Nat.le_of_ble_eq_true rfl, Nat.le_of_ble_eq_true rfl⟩)) (fun r_22 q_23 => ?_)
                refine lx_top (z := cey (n * 26 + i)) (q_23) ?_
                refine lv_icmp_eq (tgt := 76) hx hb xd_St_isUnlike_71 (by decide) (fun c_71_23 => ?_) (fun c_71_23 => ?_)
                · refine lv_iinc (v := nI (i + 1)) (lv' := [(3, .int (nI (i + 1))), (0, .ref o), (1, .ref y), (2, .int (nI n))]) hx hb xd_St_isUnlike_76 hl (k := 3) rfl (nI_inc _) (by decide) rfl (fun ls hl => ?_)
                  refine lv_goto (tgt := 53) hx hb xd_St_isUnlike_79 (by decide) ?_
                  exact ih_lp (i + 1) (by omega) (lt_s hj c_71_23) (by omega) ls (lv_sub hl [1, 2, 3, 0] rfl)
                · refine lv_iconst (v := nI 1) hx hb xd_St_isUnlike_74 (by decide) ?_
                  exact W.zret (v := nI 1) (ty := .boolean) hx hb hr (by decide) (fun T9 ht _ => ⟨_, rfl, by rw [sp_un, if_neg (fun h => c_71_23 (h.2.2 i (by omega)))], ht⟩) (fun _ h => absurd h List.not_mem_nil) xd_St_isUnlike_75
          exact lp ((26 - 0) + 1) 0 (by omega) (fun _ h => absurd h (Nat.not_lt_zero _)) (Nat.lt_succ_self _) ls (lv_sub hl [1, 2, 3, 0] rfl)
        · refine lv_iconst (v := nI 0) hx hb xd_St_isUnlike_49 (by decide) ?_
          exact W.zret (v := nI 0) (ty := .boolean) hx hb hr (by decide) (fun T9 ht _ => ⟨_, rfl, by rw [sp_un, if_pos ⟨c_10_4, c_23_9, fun k hk => (sp_kc_z c_46_17 k hk).trans (sp_kc_z (c_36_14 ▸ c_46_17) k hk).symm⟩], ht⟩) (fun _ h => absurd h List.not_mem_nil) xd_St_isUnlike_50
      · refine lv_iconst (v := nI 1) hx hb xd_St_isUnlike_39 (by decide) ?_
        exact W.zret (v := nI 1) (ty := .boolean) hx hb hr (by decide) (fun T9 ht _ => ⟨_, rfl, by rw [sp_un, if_neg (fun h => c_36_14 (sp_kc_c (fun k hk => by rw [h.2.2 k hk])))], ht⟩) (fun _ h => absurd h List.not_mem_nil) xd_St_isUnlike_40
set_option maxHeartbeats 4000000 in
set_option maxRecDepth 100000 in
theorem ct_St_mayJoin (l : Launch) (G : va_G) (cA : Nat → ClassId) (o : Nat) (a1 : Nat) (a2 : Nat) (a3 : Nat) (st : Nat → Int32) (n : Nat) (hn : n < 40) : Met l xy_St_mayJoin (.code xy_St_mayJoin xb_St_mayJoin 2 (some .boolean) :: tw_W) ({ frames := 2, cells := 0, slots := 0, locals := 41 }) (pc_r G cA [(o, .inr (2, [.ref a1, .ref a2, .ref a3])), (a1, .inl (cA 0, 40, .inl st))] [.ref o, .int (nI n)]) (vp_Si (fun r : Int32 => r = sp_mj n (st n))) 0 0 (fun _ => False) := by
  refine Met.ofW (cc := xb_St_mayJoin) (maxL := 2) (ret := (some .boolean)) (by decide) rfl ?_
  intro p e s m args below meth c s₁ B hml hv
  obtain ⟨rfl, hK, hP⟩ := hv
  have hx := B.exec
  have hb := B.bytes
  have hr := B.returns
  have hts0 := atoms_spec (ws := .code xy_St_mayJoin xb_St_mayJoin 2 (some .boolean) :: tw_W) B.pre
  have hts : ∀ w9 ∈ tw_W, w9.before [.ref o, .int (nI n)].toArray s = true := fun w9 h9 => hts0 w9 (List.mem_cons_of_mem _ h9)
  have hown : s.vm.findClass xc_St = some m.cls := findClass_of_methodNamed B.named
  have hlocks := B.notSynchronized
  have hP : va_P G xk_cl [(o, .inr (2, [.ref a1, .ref a2, .ref a3])), (a1, .inl (cA 0, 40, .inl st))] s.heap := hP
  have hl := lv_entry ([.ref o, .int (nI n)]) (n := 2) (Nat.le_of_ble_eq_true rfl)
  rw [lg_entry_eq]
  generalize (lg_sl ([.ref o, .int (nI n)]) ++ List.replicate (2 - (lg_sl ([.ref o, .int (nI n)])).length) Slot.unset).toArray = ls at hl ⊢
  have hl : lv_has ls 2 [(0, .ref o), (1, .int (nI n))] := hl
  refine lv_iload_n hx hb xd_St_mayJoin_0 rfl (lv_at hl 1 rfl) ?_
  refine lv_if_eq (tgt := 24) hx hb xd_St_mayJoin_1 (by decide) (fun c_1_0 => ?_) (fun c_1_0 => ?_)
  · have e_n : n = 0 := nI_z (by omega) c_1_0
    refine lv_iconst (v := nI 0) hx hb xd_St_mayJoin_24 (by decide) ?_
    exact W.zret (v := nI 0) (ty := .boolean) hx hb hr (by decide) (fun T9 ht _ => ⟨_, rfl, by simp [sp_mj, e_n, c_1_0], ht⟩) (fun _ h => absurd h List.not_mem_nil) xd_St_mayJoin_25
  · have e_n : ¬ n = 0 := fun h => c_1_0 (by rw [h]; rfl)
    refine lv_aload_n hx hb xd_St_mayJoin_4 rfl (lv_at hl 0 rfl) ?_
    refine lv_iload_n hx hb xd_St_mayJoin_5 rfl (lv_at hl 1 rfl) ?_
    have hPc := hP
    refine vp_callSi (va_Run.run (va_runV (As := [.int (nI n)]) (rest := []) ⟨hx, hb, hml, hown, hts⟩ (ct_St_isThere l G cA o a1 a2 a3 st n (by omega)) (cwV 1 hts (gi_v xm_399 xm_291 xm_292 xm_3 xm_293) rfl rfl rfl ⟨rfl, xh_St_isThere⟩ ⟨Nat.le_of_ble_eq_true rfl, Nat.le_of_ble_eq_true rfl⟩) (pv_r hK hPc (ci := 2) (q0 := 0) rfl rfl) rfl rfl hl.1 rfl (lv_room (Nat.le_of_ble_eq_true rfl)) xd_St_mayJoin_6 ⟨Nat.le_of_ble_eq_true rfl, Nat.le_of_ble_eq_true rfl⟩)) (fun r_2 q_3 => ?_)
    refine lx_top (z := sp_th (st n)) (q_3) ?_
    refine lv_if_eq (tgt := 24) hx hb xd_St_mayJoin_9 (by decide) (fun c_9_3 => ?_) (fun c_9_3 => ?_)
    · refine lv_iconst (v := nI 0) hx hb xd_St_mayJoin_24 (by decide) ?_
      exact W.zret (v := nI 0) (ty := .boolean) hx hb hr (by decide) (fun T9 ht _ => ⟨_, rfl, by simp [sp_mj, e_n, c_1_0, c_9_3], ht⟩) (fun _ h => absurd h List.not_mem_nil) xd_St_mayJoin_25
    · refine lv_aload_n hx hb xd_St_mayJoin_12 rfl (lv_at hl 0 rfl) ?_
      refine lv_iload_n hx hb xd_St_mayJoin_13 rfl (lv_at hl 1 rfl) ?_
      have hPc := hP
      refine vp_callSi (va_Run.run (va_runV (As := [.int (nI n)]) (rest := []) ⟨hx, hb, hml, hown, hts⟩ (ct_St_isSigned l G cA o a1 a2 a3 st n (by omega)) (cwV 1 hts (gi_v xm_400 xm_308 xm_309 xm_3 xm_310) rfl rfl rfl ⟨rfl, xh_St_isSigned⟩ ⟨Nat.le_of_ble_eq_true rfl, Nat.le_of_ble_eq_true rfl⟩) (pv_r hK hPc (ci := 2) (q0 := 0) rfl rfl) rfl rfl hl.1 rfl (lv_room (Nat.le_of_ble_eq_true rfl)) xd_St_mayJoin_14 ⟨Nat.le_of_ble_eq_true rfl, Nat.le_of_ble_eq_true rfl⟩)) (fun r_5 q_6 => ?_)
      refine lx_top (z := sp_sg (st n)) (q_6) ?_
      refine lv_if_ne (tgt := 24) hx hb xd_St_mayJoin_17 (by decide) (fun c_17_6 => ?_) (fun c_17_6 => ?_)
      · refine lv_iconst (v := nI 0) hx hb xd_St_mayJoin_24 (by decide) ?_
        exact W.zret (v := nI 0) (ty := .boolean) hx hb hr (by decide) (fun T9 ht _ => ⟨_, rfl, by simp [sp_mj, e_n, c_1_0, c_9_3, c_17_6], ht⟩) (fun _ h => absurd h List.not_mem_nil) xd_St_mayJoin_25
      · refine lv_iconst (v := nI 1) hx hb xd_St_mayJoin_20 (by decide) ?_
        refine lv_goto (tgt := 25) hx hb xd_St_mayJoin_21 (by decide) ?_
        exact W.zret (v := nI 1) (ty := .boolean) hx hb hr (by decide) (fun T9 ht _ => ⟨_, rfl, by simp [sp_mj, e_n, c_1_0, c_9_3, c_17_6], ht⟩) (fun _ h => absurd h List.not_mem_nil) xd_St_mayJoin_25
set_option maxHeartbeats 4000000 in
set_option maxRecDepth 100000 in
theorem ct_St_areAlike (l : Launch) (G : va_G) (cA : Nat → ClassId) (o : Nat) (a1 : Nat) (a2 : Nat) (a3 : Nat) (ce : Nat → Int32) (a : Nat) (b : Nat) (ha : a < 40) (hb9 : b < 40) : Met l xy_St_areAlike (.code xy_St_areAlike xb_St_areAlike 8 (some .boolean) :: tw_W) ({ frames := 2, cells := 0, slots := 0, locals := 42 }) (pc_r G cA [(o, .inr (2, [.ref a1, .ref a2, .ref a3])), (a2, .inl (cA 0, 40, .inl (sp_kc ce))), (a3, .inl (cA 0, 1040, .inl ce))] [.ref o, .int (nI a), .int (nI b)]) (vp_Si (fun r : Int32 => r = sp_al ce a b)) 0 0 (fun _ => False) := by
  refine Met.ofW (cc := xb_St_areAlike) (maxL := 8) (ret := (some .boolean)) (by decide) rfl ?_
  intro p e s m args below meth c s₁ B hml hv
  obtain ⟨rfl, hK, hP⟩ := hv
  have hx := B.exec
  have hb := B.bytes
  have hr := B.returns
  have hts0 := atoms_spec (ws := .code xy_St_areAlike xb_St_areAlike 8 (some .boolean) :: tw_W) B.pre
  have hts : ∀ w9 ∈ tw_W, w9.before [.ref o, .int (nI a), .int (nI b)].toArray s = true := fun w9 h9 => hts0 w9 (List.mem_cons_of_mem _ h9)
  have hown : s.vm.findClass xc_St = some m.cls := findClass_of_methodNamed B.named
  have hlocks := B.notSynchronized
  have hP : va_P G xk_cl [(o, .inr (2, [.ref a1, .ref a2, .ref a3])), (a2, .inl (cA 0, 40, .inl (sp_kc ce))), (a3, .inl (cA 0, 1040, .inl ce))] s.heap := hP
  have hl := lv_entry ([.ref o, .int (nI a), .int (nI b)]) (n := 8) (Nat.le_of_ble_eq_true rfl)
  rw [lg_entry_eq]
  generalize (lg_sl ([.ref o, .int (nI a), .int (nI b)]) ++ List.replicate (8 - (lg_sl ([.ref o, .int (nI a), .int (nI b)])).length) Slot.unset).toArray = ls at hl ⊢
  have hl : lv_has ls 8 [(0, .ref o), (1, .int (nI a)), (2, .int (nI b))] := hl
  refine lv_aload_n hx hb xd_St_areAlike_0 rfl (lv_at hl 0 rfl) ?_
  refine lv_iload_n hx hb xd_St_areAlike_1 rfl (lv_at hl 1 rfl) ?_
  have hPc := hP.sub (ws' := [(o, .inr (2, [.ref a1, .ref a2, .ref a3])), (a2, .inl (cA 0, 40, .inl (sp_kc ce)))]) [0, 1] rfl
  refine vp_callSi (va_Run.run (va_runV (As := [.int (nI a)]) (rest := []) ⟨hx, hb, hml, hown, hts⟩ (ct_St_keyCount l G cA o a1 a2 a3 (sp_kc ce) a (by omega)) (cwV 1 hts (gi_v xm_401 xm_402 xm_403 xm_3 xm_404) rfl rfl rfl ⟨rfl, xh_St_keyCount⟩ ⟨Nat.le_of_ble_eq_true rfl, Nat.le_of_ble_eq_true rfl⟩) (pv_r hK hPc (ci := 2) (q0 := 0) rfl rfl) rfl rfl hl.1 rfl (lv_room (Nat.le_of_ble_eq_true rfl)) xd_St_areAlike_2 ⟨Nat.le_of_ble_eq_true rfl, Nat.le_of_ble_eq_true rfl⟩)) (fun r_1 q_2 => ?_)
  refine lx_top (z := (sp_kc ce) a) (q_2) ?_
  refine lv_aload_n hx hb xd_St_areAlike_5 rfl (lv_at hl 0 rfl) ?_
  refine lv_iload_n hx hb xd_St_areAlike_6 rfl (lv_at hl 2 rfl) ?_
  have hPc := hP.sub (ws' := [(o, .inr (2, [.ref a1, .ref a2, .ref a3])), (a2, .inl (cA 0, 40, .inl (sp_kc ce)))]) [0, 1] rfl
  refine vp_callSi (va_Run.run (va_runV (As := [.int (nI b)]) (rest := [.int ((sp_kc ce) a)]) ⟨hx, hb, hml, hown, hts⟩ (ct_St_keyCount l G cA o a1 a2 a3 (sp_kc ce) b (by omega)) (cwV 1 hts (gi_v xm_401 xm_402 xm_403 xm_3 xm_404) rfl rfl rfl ⟨rfl, xh_St_keyCount⟩ ⟨Nat.le_of_ble_eq_true rfl, Nat.le_of_ble_eq_true rfl⟩) (pv_r hK hPc (ci := 2) (q0 := 0) rfl rfl) rfl rfl hl.1 rfl (lv_room (Nat.le_of_ble_eq_true rfl)) xd_St_areAlike_7 ⟨Nat.le_of_ble_eq_true rfl, Nat.le_of_ble_eq_true rfl⟩)) (fun r_3 q_4 => ?_)
  refine lx_top (z := (sp_kc ce) b) (q_4) ?_
  refine lv_icmp_eq (tgt := 15) hx hb xd_St_areAlike_10 (by decide) (fun c_10_4 => ?_) (fun c_10_4 => ?_)
  · refine lv_iconst (v := nI 2) hx hb xd_St_areAlike_15 (by decide) ?_
    refine lv_iload_n hx hb xd_St_areAlike_16 rfl (lv_at hl 1 rfl) ?_
    have hPc := hP.sub (ws' := []) [] rfl
    refine vp_callSi (va_Run.run (va_runSN (As := [.int (nI 2), .int (nI a)]) (rest := []) ⟨hx, hb, hml, hown, hts⟩ (ct_X_cellOf l G cA (nI 2) (nI a)) ⟨va_cnB 2 hts (tw_g xm_261) rfl rfl rfl (nw_m hK.2 16 rfl) (hts _ xm_1) xh_X_cellOf ⟨Nat.le_of_ble_eq_true rfl, Nat.le_of_ble_eq_true rfl⟩, hts _ xm_260, trivial⟩ (ps_r hK hPc) rfl rfl hl.1 rfl (lv_room (Nat.le_of_ble_eq_true rfl)) xd_St_areAlike_17 ⟨Nat.le_of_ble_eq_true rfl, Nat.le_of_ble_eq_true rfl⟩)) (fun r_6 q_7 => ?_)
    refine lx_top (z := en_C (nI 2) (nI a)) (q_7) ?_
    refine lv_istore_n (lv' := [(3, .int (en_C (nI 2) (nI a))), (0, .ref o), (1, .int (nI a)), (2, .int (nI b))]) hx hb xd_St_areAlike_20 rfl hl (by decide) rfl (fun ls hl => ?_)
    refine lv_iconst (v := nI 2) hx hb xd_St_areAlike_21 (by decide) ?_
    refine lv_iload_n hx hb xd_St_areAlike_22 rfl (lv_at hl 3 rfl) ?_
    have hPc := hP.sub (ws' := []) [] rfl
    refine vp_callSi (va_Run.run (va_runSN (As := [.int (nI 2), .int (nI b)]) (rest := []) ⟨hx, hb, hml, hown, hts⟩ (ct_X_cellOf l G cA (nI 2) (nI b)) ⟨va_cnB 2 hts (tw_g xm_261) rfl rfl rfl (nw_m hK.2 16 rfl) (hts _ xm_1) xh_X_cellOf ⟨Nat.le_of_ble_eq_true rfl, Nat.le_of_ble_eq_true rfl⟩, hts _ xm_260, trivial⟩ (ps_r hK hPc) rfl rfl hl.1 rfl (lv_room (Nat.le_of_ble_eq_true rfl)) xd_St_areAlike_23 ⟨Nat.le_of_ble_eq_true rfl, Nat.le_of_ble_eq_true rfl⟩)) (fun r_8 q_9 => ?_)
    refine lx_top (z := en_C (nI 2) (nI b)) (q_9) ?_
    refine lv_istore (lv' := [(4, .int (en_C (nI 2) (nI b))), (3, .int (en_C (nI 2) (nI a))), (0, .ref o), (1, .int (nI a)), (2, .int (nI b))]) hx hb xd_St_areAlike_26 hl (by decide) rfl (fun ls hl => ?_)
    refine lv_iconst (v := nI 0) hx hb xd_St_areAlike_28 (by decide) ?_
    refine lv_istore (lv' := [(5, .int (nI 0)), (4, .int (en_C (nI 2) (nI b))), (3, .int (en_C (nI 2) (nI a))), (0, .ref o), (1, .int (nI a)), (2, .int (nI b))]) hx hb xd_St_areAlike_29 hl (by decide) rfl (fun ls hl => ?_)
    have lp : ∀ (k_lp : Nat) (i : Nat), (i ≤ 26) → (∀ k, k < i → al_K ce a b k) → 26 - i < k_lp → ∀ (ls : Array Slot), lv_has ls 8 [(0, .ref o), (1, .int (nI a)), (2, .int (nI b)), (3, .int (en_C (nI 2) (nI a))), (4, .int (en_C (nI 2) (nI b))), (5, .int (nI i))] → W p l e (headSpec (.code xy_St_areAlike xb_St_areAlike 8 (some .boolean) :: tw_W) ({ frames := 2, cells := 0, slots := 0, locals := 42 })).room s m ([.ref o, .int (nI a), .int (nI b)] : List Value).toArray below meth c s.heap [] 0 0 (MQ below (vp_Si (fun r : Int32 => r = sp_al ce a b)) ([.ref o, .int (nI a), .int (nI b)] : List Value).toArray s 0 0 (fun _ => False)) (F0 m 31 ls []) := by
      intro k_lp
      induction k_lp with
      | zero =>
        intro i hi hj hk_lp
        exact absurd hk_lp (Nat.not_lt_zero _)
      | succ k_lp ih_lp =>
        intro i hi hj hk_lp ls hl
        refine lv_iload hx hb xd_St_areAlike_31 (lv_at hl 5 rfl) ?_
        refine lv_bipush (v := nI 26) hx hb xd_St_areAlike_33 (by decide) ?_
        refine lv_icmp_ge (tgt := 84) hx hb xd_St_areAlike_35 (by decide) (fun c_35_9 => ?_) (fun c_35_9 => ?_)
        · have e_i : i = 26 := Nat.le_antisymm hi (nI_gle (by decide) (by omega) c_35_9)
          subst e_i
          refine lv_iconst (v := nI 1) hx hb xd_St_areAlike_84 (by decide) ?_
          exact W.zret (v := nI 1) (ty := .boolean) hx hb hr (by decide) (fun T9 ht _ => ⟨_, rfl, by rw [sp_al, if_pos hj], ht⟩) (fun _ h => absurd h List.not_mem_nil) xd_St_areAlike_85
        · have e_i := nI_gnl (by decide) (by omega) c_35_9
          refine lv_aload_n hx hb xd_St_areAlike_38 rfl (lv_at hl 0 rfl) ?_
          refine lv_iload_n hx hb xd_St_areAlike_39 rfl (lv_at hl 1 rfl) ?_
          refine lv_iload hx hb xd_St_areAlike_40 (lv_at hl 5 rfl) ?_
          have hPc := hP.sub (ws' := [(o, .inr (2, [.ref a1, .ref a2, .ref a3])), (a3, .inl (cA 0, 1040, .inl ce))]) [0, 2] rfl
          refine vp_callSi (va_Run.run (va_runV (As := [.int (nI a), .int (nI i)]) (rest := []) ⟨hx, hb, hml, hown, hts⟩ (ct_St_cellAt l G cA o a1 a2 a3 ce a i (by omega) (by omega)) (cwV 2 hts (gi_v xm_405 xm_347 xm_348 xm_3 xm_349) rfl rfl rfl ⟨rfl, xh_St_cellAt⟩ ⟨Nat.le_of_ble_eq_true rfl, Nat.le_of_ble_eq_true rfl⟩) (pv_r hK hPc (ci := 2) (q0 := 0) rfl rfl) rfl rfl hl.1 rfl (lv_room (Nat.le_of_ble_eq_true rfl)) xd_St_areAlike_42 ⟨Nat.le_of_ble_eq_true rfl, Nat.le_of_ble_eq_true rfl⟩)) (fun r_11 q_12 => ?_)
          refine lx_top (z := ce (a * 26 + i)) (q_12) ?_
          refine lv_istore (lv' := [(6, .int (ce (a * 26 + i))), (0, .ref o), (1, .int (nI a)), (2, .int (nI b)), (3, .int (en_C (nI 2) (nI a))), (4, .int (en_C (nI 2) (nI b))), (5, .int (nI i))]) hx hb xd_St_areAlike_45 hl (by decide) rfl (fun ls hl => ?_)
          refine lv_aload_n hx hb xd_St_areAlike_47 rfl (lv_at hl 1 rfl) ?_
          refine lv_iload_n hx hb xd_St_areAlike_48 rfl (lv_at hl 3 rfl) ?_
          refine lv_iload hx hb xd_St_areAlike_49 (lv_at hl 6 rfl) ?_
          have hPc := hP.sub (ws' := [(o, .inr (2, [.ref a1, .ref a2, .ref a3])), (a3, .inl (cA 0, 1040, .inl ce))]) [0, 2] rfl
          refine vp_callSi (va_Run.run (va_runV (As := [.int (nI b), .int (nI i)]) (rest := []) ⟨hx, hb, hml, hown, hts⟩ (ct_St_cellAt l G cA o a1 a2 a3 ce b i (by omega) (by omega)) (cwV 2 hts (gi_v xm_405 xm_347 xm_348 xm_3 xm_349) rfl rfl rfl ⟨rfl, xh_St_cellAt⟩ ⟨Nat.le_of_ble_eq_true rfl, Nat.le_of_ble_eq_true rfl⟩) (pv_r hK hPc (ci := 2) (q0 := 0) rfl rfl) rfl rfl hl.1 rfl (lv_room (Nat.le_of_ble_eq_true rfl)) xd_St_areAlike_51 ⟨Nat.le_of_ble_eq_true rfl, Nat.le_of_ble_eq_true rfl⟩)) (fun r_13 q_14 => ?_)
          refine lx_top (z := ce (b * 26 + i)) (q_14) ?_
          refine lv_istore (lv' := [(7, .int (ce (b * 26 + i))), (6, .int (ce (a * 26 + i))), (0, .ref o), (1, .int (nI a)), (2, .int (nI b)), (3, .int (en_C (nI 2) (nI a))), (4, .int (en_C (nI 2) (nI b))), (5, .int (nI i))]) hx hb xd_St_areAlike_54 hl (by decide) rfl (fun ls hl => ?_)
          refine lv_iload hx hb xd_St_areAlike_56 (lv_at hl 1 rfl) ?_
          refine lv_iload hx hb xd_St_areAlike_58 (lv_at hl 0 rfl) ?_
          refine lv_icmp_eq (tgt := 78) hx hb xd_St_areAlike_60 (by decide) (fun c_60_14 => ?_) (fun c_60_14 => ?_)
          · refine lv_iinc (v := nI (i + 1)) (lv' := [(5, .int (nI (i + 1))), (7, .int (ce (b * 26 + i))), (6, .int (ce (a * 26 + i))), (0, .ref o), (1, .int (nI a)), (2, .int (nI b)), (3, .int (en_C (nI 2) (nI a))), (4, .int (en_C (nI 2) (nI b)))]) hx hb xd_St_areAlike_78 hl (k := 7) rfl (nI_inc _) (by decide) rfl (fun ls hl => ?_)
            refine lv_goto (tgt := 31) hx hb xd_St_areAlike_81 (by decide) ?_
            exact ih_lp (i + 1) (by omega) (lt_s hj (Or.inl c_60_14)) (by omega) ls (lv_sub hl [3, 4, 5, 6, 7, 0] rfl)
          · refine lv_iload hx hb xd_St_areAlike_63 (lv_at hl 1 rfl) ?_
            refine lv_iload_n hx hb xd_St_areAlike_65 rfl (lv_at hl 5 rfl) ?_
            refine lv_icmp_ne (tgt := 76) hx hb xd_St_areAlike_66 (by decide) (fun c_66_15 => ?_) (fun c_66_15 => ?_)
            · refine lv_iconst (v := nI 0) hx hb xd_St_areAlike_76 (by decide) ?_
              exact W.zret (v := nI 0) (ty := .boolean) hx hb hr (by decide) (fun T9 ht _ => ⟨_, rfl, by rw [sp_al, if_neg (fun h => (h i (by omega)).elim c_60_14 (fun q => c_66_15 q.1))], ht⟩) (fun _ h => absurd h List.not_mem_nil) xd_St_areAlike_77
            · refine lv_iload hx hb xd_St_areAlike_69 (lv_at hl 0 rfl) ?_
              refine lv_iload hx hb xd_St_areAlike_71 (lv_at hl 6 rfl) ?_
              refine lv_icmp_eq (tgt := 78) hx hb xd_St_areAlike_73 (by decide) (fun c_73_16 => ?_) (fun c_73_16 => ?_)
              · refine lv_iinc (v := nI (i + 1)) (lv' := [(5, .int (nI (i + 1))), (7, .int (ce (b * 26 + i))), (6, .int (ce (a * 26 + i))), (0, .ref o), (1, .int (nI a)), (2, .int (nI b)), (3, .int (en_C (nI 2) (nI a))), (4, .int (en_C (nI 2) (nI b)))]) hx hb xd_St_areAlike_78 hl (k := 7) rfl (nI_inc _) (by decide) rfl (fun ls hl => ?_)
                refine lv_goto (tgt := 31) hx hb xd_St_areAlike_81 (by decide) ?_
                exact ih_lp (i + 1) (by omega) (lt_s hj (Or.inr ⟨c_66_15, c_73_16⟩)) (by omega) ls (lv_sub hl [3, 4, 5, 6, 7, 0] rfl)
              · refine lv_iconst (v := nI 0) hx hb xd_St_areAlike_76 (by decide) ?_
                exact W.zret (v := nI 0) (ty := .boolean) hx hb hr (by decide) (fun T9 ht _ => ⟨_, rfl, by rw [sp_al, if_neg (fun h => (h i (by omega)).elim c_60_14 (fun q => c_73_16 q.2))], ht⟩) (fun _ h => absurd h List.not_mem_nil) xd_St_areAlike_77
    exact lp ((26 - 0) + 1) 0 (by omega) (fun _ h => absurd h (Nat.not_lt_zero _)) (Nat.lt_succ_self _) ls (lv_sub hl [3, 4, 5, 2, 1, 0] rfl)
  · refine lv_iconst (v := nI 0) hx hb xd_St_areAlike_13 (by decide) ?_
    exact W.zret (v := nI 0) (ty := .boolean) hx hb hr (by decide) (fun T9 ht _ => ⟨_, rfl, by rw [sp_al, if_neg (fun h => c_10_4 (al_kc ha hb9 h))], ht⟩) (fun _ h => absurd h List.not_mem_nil) xd_St_areAlike_14
