def un_B (st ce sty cey : Nat → Int32) : Nat → Bool := fun j => !(sp_un st ce sty cey j == 0)
def ul_F (p : Nat → Bool) (f : Nat → Nat) : Nat → Nat → Nat
  | 0 => f
  | i + 1 => if p i = true then un_N (ul_F p f i) (ct_N p i) i else ul_F p f i
theorem ul_t {p : Nat → Bool} {f : Nat → Nat} {i : Nat} (h : p i = true) : ul_F p f (i + 1) = un_N (ul_F p f i) (ct_N p i) i := by rw [ul_F, if_pos h]
theorem ul_f {p : Nat → Bool} {f : Nat → Nat} {i : Nat} (h : p i = false) : ul_F p f (i + 1) = ul_F p f i := by rw [ul_F, h]; rfl
theorem un_Bt {st ce sty cey : Nat → Int32} {j : Nat} (h : ¬ sp_un st ce sty cey j = 0) : un_B st ce sty cey j = true := by unfold un_B; simp [h]
theorem un_Bf {st ce sty cey : Nat → Int32} {j : Nat} (h : sp_un st ce sty cey j = 0) : un_B st ce sty cey j = false := by unfold un_B; rw [h]; rfl
theorem tx_r1 (fo : Int32) (tn : Nat → Nat) (cnt : Nat) (hfo : True) : ∀ f a st ce k p, (tx_F fo tn cnt f a st ce k p).1 < 0 ∨ (tx_F fo tn cnt f a st ce k p).1 = nI 0 ∨ True := fun _ _ _ _ _ _ => Or.inr (Or.inr trivial)
set_option maxHeartbeats 4000000 in
set_option maxRecDepth 100000 in
theorem ct_X_sign (l : Launch) (G : va_G) (cA : Nat → ClassId) (sz : Nat) (x : Nat) (t : Nat) (ed : Nat) (hi : Nat) (re : Nat) (ua : Nat) (uc : Nat) (pl : Int32) (dl : Int32) (o : Nat) (y : Nat) (tc : Nat) (tn : Nat → Nat) (cnt : Nat) (at_ : Nat) (hc : cnt ≤ 300) (x0 : Int32) : Met l xy_X_sign (.code xy_X_sign xb_X_sign 2 (some .boolean) :: tw_W) ({ frames := 1, cells := 0, slots := 0, locals := 21 }) (pc_w G cA [(x, .inr (0, [.ref t, .ref o, .ref y, .ref ed, .ref hi, .ref re, .ref ua, .int (nI uc), .int pl, .int dl])), (t, .inr (1, [.ref tc, .int (nI cnt), .int (nI at_)])), (tc, .inl (cA 1, 300, .inl (tx_A tn)))] sz [.ref x, .int x0]) (va_Qi (fun (r : Int32) (_ : Unit) => r = ap_R cnt x0) (fun _ T9 => at_w G (va_A [(x, .inr (0, [.ref t, .ref o, .ref y, .ref ed, .ref hi, .ref re, .ref ua, .int (nI uc), .int pl, .int dl])), (t, .inr (1, [.ref tc, .int (nI cnt), .int (nI at_)])), (tc, .inl (cA 1, 300, .inl (tx_A tn)))] sz) [(x, .inr (0, [.ref t, .ref o, .ref y, .ref ed, .ref hi, .ref re, .ref ua, .int (nI uc), .int pl, .int dl])), (t, .inr (1, [.ref tc, .int (nI (ap_C cnt x0)), .int (nI at_)])), (tc, .inl (cA 1, 300, .inl (tx_A (ap_T tn cnt x0))))] T9) (va_A [(x, .inr (0, [.ref t, .ref o, .ref y, .ref ed, .ref hi, .ref re, .ref ua, .int (nI uc), .int pl, .int dl])), (t, .inr (1, [.ref tc, .int (nI cnt), .int (nI at_)])), (tc, .inl (cA 1, 300, .inl (tx_A tn)))] sz)) 0 0 (va_A [(x, .inr (0, [.ref t, .ref o, .ref y, .ref ed, .ref hi, .ref re, .ref ua, .int (nI uc), .int pl, .int dl])), (t, .inr (1, [.ref tc, .int (nI cnt), .int (nI at_)])), (tc, .inl (cA 1, 300, .inl (tx_A tn)))] sz) := by
  refine Met.ofW (cc := xb_X_sign) (maxL := 2) (ret := (some .boolean)) (by decide) rfl ?_
  intro p e s m args below meth c s₁ B hml hv
  obtain ⟨rfl, hsz, hK, hP, hD0⟩ := hv
  have hx := B.exec
  have hb := B.bytes
  have hr := B.returns
  have hts0 := atoms_spec (ws := .code xy_X_sign xb_X_sign 2 (some .boolean) :: tw_W) B.pre
  have hts : ∀ w9 ∈ tw_W, w9.before [.ref x, .int x0].toArray s = true := fun w9 h9 => hts0 w9 (List.mem_cons_of_mem _ h9)
  have hown : s.vm.findClass xc_X = some m.cls := findClass_of_methodNamed B.named
  have hlocks := B.notSynchronized
  subst hsz
  have hD := hD0.self (sz := s.heap.size)
  generalize hAe : va_A [(x, .inr (0, [.ref t, .ref o, .ref y, .ref ed, .ref hi, .ref re, .ref ua, .int (nI uc), .int pl, .int dl])), (t, .inr (1, [.ref tc, .int (nI cnt), .int (nI at_)])), (tc, .inl (cA 1, 300, .inl (tx_A tn)))] s.heap.size = A at hD ⊢
  have hA : ∀ q : Nat, s.heap.size ≤ q → A q := fun q h => by rw [← hAe]; exact Or.inr h
  have hS : va_S A s.heap s.heap [] := va_S.rf
  have hP : va_P G xk_cl [(x, .inr (0, [.ref t, .ref o, .ref y, .ref ed, .ref hi, .ref re, .ref ua, .int (nI uc), .int pl, .int dl])), (t, .inr (1, [.ref tc, .int (nI cnt), .int (nI at_)])), (tc, .inl (cA 1, 300, .inl (tx_A tn)))] s.heap := hP
  have hl := lv_entry ([.ref x, .int x0]) (n := 2) (Nat.le_of_ble_eq_true rfl)
  rw [lg_entry_eq]
  generalize (lg_sl ([.ref x, .int x0]) ++ List.replicate (2 - (lg_sl ([.ref x, .int x0])).length) Slot.unset).toArray = ls at hl ⊢
  have hl : lv_has ls 2 [(0, .ref x), (1, .int x0)] := hl
  refine lv_aload_n hx hb xd_X_sign_0 rfl (lv_at hl 0 rfl) ?_
  refine va_get (D := G) (ci := 0) (v := .ref t) (C := xc_X) (T := xf_X) (N := 10) hx hb hts xw_X hown hK.1 hP 0 rfl rfl 0 (by decide) (hts _ xm_159) (fun _ h9 => h9) rfl xd_X_sign_1 ?_
  refine lv_iload_n hx hb xd_X_sign_4 rfl (lv_at hl 1 rfl) ?_
  have hPc := hP.sub (ws' := [(t, .inr (1, [.ref tc, .int (nI cnt), .int (nI at_)])), (tc, .inl (cA 1, 300, .inl (tx_A tn)))]) [1, 2] rfl
  have hDc := hD.sub (ws' := [(t, .inr (1, [.ref tc, .int (nI cnt), .int (nI at_)])), (tc, .inl (cA 1, 300, .inl (tx_A tn)))]) [1, 2] (by decide) rfl
  have hFc := va_free (wc := [(t, .inr (1, [.ref tc, .int (nI cnt), .int (nI at_)])), (tc, .inl (cA 1, 300, .inl (tx_A tn)))]) hD hS hA [1, 2] rfl
  refine va_calli (va_runV (As := [.int x0]) (rest := []) ⟨hx, hb, hml, hown, hts⟩ (ct_Te_append l G cA s.heap.size t tc tn cnt at_ (by omega) x0) (cwV 1 hts (gi_v xm_194 xm_195 xm_196 xm_2 xm_197) rfl rfl rfl ⟨rfl, xh_Te_append⟩ ⟨Nat.le_of_ble_eq_true rfl, Nat.le_of_ble_eq_true rfl⟩) (pv_w hK hPc hDc (ci := 1) (q0 := 0) rfl rfl) rfl rfl hl.1 rfl (lv_room (Nat.le_of_ble_eq_true rfl)) xd_X_sign_5 ⟨Nat.le_of_ble_eq_true rfl, Nat.le_of_ble_eq_true rfl⟩) hS (fun q _ h => hFc q h) hFc (fun r_1 u9 t9 H1 locs ht hvm q_2 hB hz1 hk1 hS => ?_)
  obtain ⟨hP1, hD1⟩ := hB
  rw [ht] at hP1
  obtain ⟨hP, hD⟩ := va_join (wr := [(x, .inr (0, [.ref t, .ref o, .ref y, .ref ed, .ref hi, .ref re, .ref ua, .int (nI uc), .int pl, .int dl]))]) (w1 := [(t, .inr (1, [.ref tc, .int (nI (ap_C cnt x0)), .int (nI at_)])), (tc, .inl (cA 1, 300, .inl (tx_A (ap_T tn cnt x0))))]) hP hD [1, 2] [0] rfl rfl (by decide) (by decide) hk1 hFc hP1 hD1
  generalize H1 = H at hP hS ⊢
  have hP : va_P G xk_cl [(x, .inr (0, [.ref t, .ref o, .ref y, .ref ed, .ref hi, .ref re, .ref ua, .int (nI uc), .int pl, .int dl])), (t, .inr (1, [.ref tc, .int (nI (ap_C cnt x0)), .int (nI at_)])), (tc, .inl (cA 1, 300, .inl (tx_A (ap_T tn cnt x0))))] H := hP
  have hD : va_D A [(x, .inr (0, [.ref t, .ref o, .ref y, .ref ed, .ref hi, .ref re, .ref ua, .int (nI uc), .int pl, .int dl])), (t, .inr (1, [.ref tc, .int (nI (ap_C cnt x0)), .int (nI at_)])), (tc, .inl (cA 1, 300, .inl (tx_A (ap_T tn cnt x0))))] := hD
  refine lx_top (z := ap_R cnt x0) (q_2) ?_
  have hP9 : va_P G xk_cl [(x, .inr (0, [.ref t, .ref o, .ref y, .ref ed, .ref hi, .ref re, .ref ua, .int (nI uc), .int pl, .int dl])), (t, .inr (1, [.ref tc, .int (nI (ap_C cnt x0)), .int (nI at_)])), (tc, .inl (cA 1, 300, .inl (tx_A (ap_T tn cnt x0))))] _ := hP.sub [0, 1, 2] rfl
  have hD9 : va_D A [(x, .inr (0, [.ref t, .ref o, .ref y, .ref ed, .ref hi, .ref re, .ref ua, .int (nI uc), .int pl, .int dl])), (t, .inr (1, [.ref tc, .int (nI (ap_C cnt x0)), .int (nI at_)])), (tc, .inl (cA 1, 300, .inl (tx_A (ap_T tn cnt x0))))] := hD.sub [0, 1, 2] (by decide) rfl
  exact W.zret (v := ap_R cnt x0) (ty := .boolean) hx hb hr (by unfold ap_R; split <;> decide) (fun T9 ht hW => ⟨⟨_, (), rfl, rfl, by rw [ht]; exact hP9, hD9⟩, hS.F ht⟩) hS.2.2 xd_X_sign_8
set_option maxHeartbeats 4000000 in
set_option maxRecDepth 100000 in
theorem ct_X_countUnlike (l : Launch) (G : va_G) (cA : Nat → ClassId) (x : Nat) (t : Nat) (ed : Nat) (hi : Nat) (re : Nat) (ua : Nat) (uc : Nat) (pl : Int32) (dl : Int32) (o : Nat) (a1 : Nat) (a2 : Nat) (a3 : Nat) (y : Nat) (a1y : Nat) (a2y : Nat) (a3y : Nat) (st : Nat → Int32) (ce : Nat → Int32) (sty : Nat → Int32) (cey : Nat → Int32) : Met l xy_X_countUnlike (.code xy_X_countUnlike xb_X_countUnlike 3 (some .int) :: tw_W) ({ frames := 3, cells := 0, slots := 0, locals := 65 }) (pc_r G cA [(x, .inr (0, [.ref t, .ref o, .ref y, .ref ed, .ref hi, .ref re, .ref ua, .int (nI uc), .int pl, .int dl])), (o, .inr (2, [.ref a1, .ref a2, .ref a3])), (a1, .inl (cA 0, 40, .inl st)), (a2, .inl (cA 0, 40, .inl (sp_kc ce))), (a3, .inl (cA 0, 1040, .inl ce)), (y, .inr (2, [.ref a1y, .ref a2y, .ref a3y])), (a1y, .inl (cA 0, 40, .inl sty)), (a2y, .inl (cA 0, 40, .inl (sp_kc cey))), (a3y, .inl (cA 0, 1040, .inl cey))] [.ref x]) (vp_Si (fun r : Int32 => r = nI (ct_N (un_B st ce sty cey) 40))) 0 0 (fun _ => False) := by
  refine Met.ofW (cc := xb_X_countUnlike) (maxL := 3) (ret := (some .int)) (by decide) rfl ?_
  intro p e s m args below meth c s₁ B hml hv
  obtain ⟨rfl, hK, hP⟩ := hv
  have hx := B.exec
  have hb := B.bytes
  have hr := B.returns
  have hts0 := atoms_spec (ws := .code xy_X_countUnlike xb_X_countUnlike 3 (some .int) :: tw_W) B.pre
  have hts : ∀ w9 ∈ tw_W, w9.before [.ref x].toArray s = true := fun w9 h9 => hts0 w9 (List.mem_cons_of_mem _ h9)
  have hown : s.vm.findClass xc_X = some m.cls := findClass_of_methodNamed B.named
  have hlocks := B.notSynchronized
  have hP : va_P G xk_cl [(x, .inr (0, [.ref t, .ref o, .ref y, .ref ed, .ref hi, .ref re, .ref ua, .int (nI uc), .int pl, .int dl])), (o, .inr (2, [.ref a1, .ref a2, .ref a3])), (a1, .inl (cA 0, 40, .inl st)), (a2, .inl (cA 0, 40, .inl (sp_kc ce))), (a3, .inl (cA 0, 1040, .inl ce)), (y, .inr (2, [.ref a1y, .ref a2y, .ref a3y])), (a1y, .inl (cA 0, 40, .inl sty)), (a2y, .inl (cA 0, 40, .inl (sp_kc cey))), (a3y, .inl (cA 0, 1040, .inl cey))] s.heap := hP
  have hl := lv_entry ([.ref x]) (n := 3) (Nat.le_of_ble_eq_true rfl)
  rw [lg_entry_eq]
  generalize (lg_sl ([.ref x]) ++ List.replicate (3 - (lg_sl ([.ref x])).length) Slot.unset).toArray = ls at hl ⊢
  have hl : lv_has ls 3 [(0, .ref x)] := hl
  refine lv_iconst (v := nI 0) hx hb xd_X_countUnlike_0 (by decide) ?_
  refine lv_istore_n (lv' := [(1, .int (nI 0)), (0, .ref x)]) hx hb xd_X_countUnlike_1 rfl hl (by decide) rfl (fun ls hl => ?_)
  refine lv_iconst (v := nI 0) hx hb xd_X_countUnlike_2 (by decide) ?_
  refine lv_istore_n (lv' := [(2, .int (nI 0)), (1, .int (nI 0)), (0, .ref x)]) hx hb xd_X_countUnlike_3 rfl hl (by decide) rfl (fun ls hl => ?_)
  have hl : lv_has ls 3 [(2, .int (nI 0)), (1, .int (nI (ct_N (un_B st ce sty cey) 0))), (0, .ref x)] := by rw [ct_N]; exact hl
  have lp : ∀ (k_lp : Nat) (i : Nat), (i ≤ 40) → 40 - i < k_lp → ∀ (ls : Array Slot), lv_has ls 3 [(0, .ref x), (1, .int (nI (ct_N (un_B st ce sty cey) i))), (2, .int (nI i))] → W p l e (headSpec (.code xy_X_countUnlike xb_X_countUnlike 3 (some .int) :: tw_W) ({ frames := 3, cells := 0, slots := 0, locals := 65 })).room s m ([.ref x] : List Value).toArray below meth c s.heap [] 0 0 (MQ below (vp_Si (fun r : Int32 => r = nI (ct_N (un_B st ce sty cey) 40))) ([.ref x] : List Value).toArray s 0 0 (fun _ => False)) (F0 m 4 ls []) := by
    intro k_lp
    induction k_lp with
    | zero =>
      intro i hi_ hk_lp
      exact absurd hk_lp (Nat.not_lt_zero _)
    | succ k_lp ih_lp =>
      intro i hi_ hk_lp ls hl
      refine lv_iload_n hx hb xd_X_countUnlike_4 rfl (lv_at hl 2 rfl) ?_
      refine lv_bipush (v := nI 40) hx hb xd_X_countUnlike_5 (by decide) ?_
      refine lv_icmp_ge (tgt := 34) hx hb xd_X_countUnlike_7 (by decide) (fun c_7_0 => ?_) (fun c_7_0 => ?_)
      · have e_i : i = 40 := Nat.le_antisymm hi_ (nI_gle (by decide) (by omega) c_7_0)
        subst e_i
        refine lv_iload_n hx hb xd_X_countUnlike_34 rfl (lv_at hl 1 rfl) ?_
        exact W.iret (v := nI (ct_N (un_B st ce sty cey) 40)) hx hb hr (fun T9 ht _ => ⟨_, rfl, rfl, ht⟩) (fun _ h => absurd h List.not_mem_nil) xd_X_countUnlike_35
      · have e_i := nI_gnl (by decide) (by omega) c_7_0
        refine lv_aload_n hx hb xd_X_countUnlike_10 rfl (lv_at hl 0 rfl) ?_
        refine va_get (D := G) (ci := 0) (v := .ref o) (C := xc_X) (T := xf_X) (N := 10) hx hb hts xw_X hown hK.1 hP 0 rfl rfl 1 (by decide) (hts _ xm_160) (fun _ h9 => h9) rfl xd_X_countUnlike_11 ?_
        refine lv_aload_n hx hb xd_X_countUnlike_14 rfl (lv_at hl 0 rfl) ?_
        refine va_get (D := G) (ci := 0) (v := .ref y) (C := xc_X) (T := xf_X) (N := 10) hx hb hts xw_X hown hK.1 hP 0 rfl rfl 2 (by decide) (hts _ xm_161) (fun _ h9 => h9) rfl xd_X_countUnlike_15 ?_
        refine lv_iload_n hx hb xd_X_countUnlike_18 rfl (lv_at hl 2 rfl) ?_
        have hPc := hP.sub (ws' := [(o, .inr (2, [.ref a1, .ref a2, .ref a3])), (a1, .inl (cA 0, 40, .inl st)), (a2, .inl (cA 0, 40, .inl (sp_kc ce))), (a3, .inl (cA 0, 1040, .inl ce)), (y, .inr (2, [.ref a1y, .ref a2y, .ref a3y])), (a1y, .inl (cA 0, 40, .inl sty)), (a2y, .inl (cA 0, 40, .inl (sp_kc cey))), (a3y, .inl (cA 0, 1040, .inl cey))]) [1, 2, 3, 4, 5, 6, 7, 8] rfl
        refine vp_callSi (va_Run.run (va_runV (As := [.ref y, .int (nI i)]) (rest := []) ⟨hx, hb, hml, hown, hts⟩ (ct_St_isUnlike l G cA o a1 a2 a3 y a1y a2y a3y st ce sty cey i (by omega)) (cwV 2 hts (gi_v xm_395 xm_396 xm_397 xm_3 xm_398) rfl rfl rfl ⟨rfl, xh_St_isUnlike⟩ ⟨Nat.le_of_ble_eq_true rfl, Nat.le_of_ble_eq_true rfl⟩) (pv_r hK hPc (ci := 2) (q0 := 0) rfl rfl) rfl rfl hl.1 rfl (lv_room (Nat.le_of_ble_eq_true rfl)) xd_X_countUnlike_19 ⟨Nat.le_of_ble_eq_true rfl, Nat.le_of_ble_eq_true rfl⟩)) (fun r_2 q_3 => ?_)
        refine lx_top (z := sp_un st ce sty cey i) (q_3) ?_
        refine lv_if_eq (tgt := 28) hx hb xd_X_countUnlike_22 (by decide) (fun c_22_3 => ?_) (fun c_22_3 => ?_)
        · refine lv_iinc (v := nI (i + 1)) (lv' := [(2, .int (nI (i + 1))), (0, .ref x), (1, .int (nI (ct_N (un_B st ce sty cey) i)))]) hx hb xd_X_countUnlike_28 hl (k := 2) rfl (nI_inc _) (by decide) rfl (fun ls hl => ?_)
          refine lv_goto (tgt := 4) hx hb xd_X_countUnlike_31 (by decide) ?_
          have hl : lv_has ls 3 [(2, .int (nI (i + 1))), (0, .ref x), (1, .int (nI (ct_N (un_B st ce sty cey) (i + 1))))] := by rw [ct_N_f (un_Bf c_22_3)]; exact hl
          exact ih_lp (i + 1) (by omega) (by omega) ls (lv_sub hl [1, 2, 0] rfl)
        · refine lv_iinc (v := nI (ct_N (un_B st ce sty cey) i + 1)) (lv' := [(1, .int (nI (ct_N (un_B st ce sty cey) i + 1))), (0, .ref x), (2, .int (nI i))]) hx hb xd_X_countUnlike_25 hl (k := 1) rfl (nI_inc _) (by decide) rfl (fun ls hl => ?_)
          refine lv_iinc (v := nI (i + 1)) (lv' := [(2, .int (nI (i + 1))), (1, .int (nI (ct_N (un_B st ce sty cey) i + 1))), (0, .ref x)]) hx hb xd_X_countUnlike_28 hl (k := 2) rfl (nI_inc _) (by decide) rfl (fun ls hl => ?_)
          refine lv_goto (tgt := 4) hx hb xd_X_countUnlike_31 (by decide) ?_
          have hl : lv_has ls 3 [(2, .int (nI (i + 1))), (1, .int (nI (ct_N (un_B st ce sty cey) (i + 1)))), (0, .ref x)] := by rw [ct_N_t (un_Bt c_22_3)]; exact hl
          exact ih_lp (i + 1) (by omega) (by omega) ls (lv_sub hl [2, 1, 0] rfl)
  exact lp ((40 - 0) + 1) 0 (by omega) (Nat.lt_succ_self _) ls (lv_sub hl [2, 1, 0] rfl)
set_option maxHeartbeats 4000000 in
set_option maxRecDepth 100000 in
theorem ct_X_noteUnlike (l : Launch) (G : va_G) (cA : Nat → ClassId) (sz : Nat) (x : Nat) (t : Nat) (ed : Nat) (hi : Nat) (re : Nat) (ua : Nat) (uc : Nat) (pl : Int32) (dl : Int32) (o : Nat) (a1 : Nat) (a2 : Nat) (a3 : Nat) (y : Nat) (a1y : Nat) (a2y : Nat) (a3y : Nat) (st : Nat → Int32) (ce : Nat → Int32) (sty : Nat → Int32) (cey : Nat → Int32) (uf : Nat → Nat) : Met l xy_X_noteUnlike (.code xy_X_noteUnlike xb_X_noteUnlike 2 (some .int) :: tw_W) ({ frames := 3, cells := 0, slots := 0, locals := 65 }) (pc_w G cA [(x, .inr (0, [.ref t, .ref o, .ref y, .ref ed, .ref hi, .ref re, .ref ua, .int (nI uc), .int pl, .int dl])), (o, .inr (2, [.ref a1, .ref a2, .ref a3])), (a1, .inl (cA 0, 40, .inl st)), (a2, .inl (cA 0, 40, .inl (sp_kc ce))), (a3, .inl (cA 0, 1040, .inl ce)), (y, .inr (2, [.ref a1y, .ref a2y, .ref a3y])), (a1y, .inl (cA 0, 40, .inl sty)), (a2y, .inl (cA 0, 40, .inl (sp_kc cey))), (a3y, .inl (cA 0, 1040, .inl cey)), (ua, .inl (cA 0, 40, .inl (tx_A uf)))] sz [.ref x]) (va_Qi (fun (r : Int32) (_ : Unit) => r = nI (ct_N (un_B st ce sty cey) 40)) (fun _ T9 => at_w G (va_A [(x, .inr (0, [.ref t, .ref o, .ref y, .ref ed, .ref hi, .ref re, .ref ua, .int (nI uc), .int pl, .int dl])), (o, .inr (2, [.ref a1, .ref a2, .ref a3])), (a1, .inl (cA 0, 40, .inl st)), (a2, .inl (cA 0, 40, .inl (sp_kc ce))), (a3, .inl (cA 0, 1040, .inl ce)), (y, .inr (2, [.ref a1y, .ref a2y, .ref a3y])), (a1y, .inl (cA 0, 40, .inl sty)), (a2y, .inl (cA 0, 40, .inl (sp_kc cey))), (a3y, .inl (cA 0, 1040, .inl cey)), (ua, .inl (cA 0, 40, .inl (tx_A uf)))] sz) [(x, .inr (0, [.ref t, .ref o, .ref y, .ref ed, .ref hi, .ref re, .ref ua, .int (nI (ct_N (un_B st ce sty cey) 40)), .int pl, .int dl])), (o, .inr (2, [.ref a1, .ref a2, .ref a3])), (a1, .inl (cA 0, 40, .inl st)), (a2, .inl (cA 0, 40, .inl (sp_kc ce))), (a3, .inl (cA 0, 1040, .inl ce)), (y, .inr (2, [.ref a1y, .ref a2y, .ref a3y])), (a1y, .inl (cA 0, 40, .inl sty)), (a2y, .inl (cA 0, 40, .inl (sp_kc cey))), (a3y, .inl (cA 0, 1040, .inl cey)), (ua, .inl (cA 0, 40, .inl (tx_A (ul_F (un_B st ce sty cey) uf 40))))] T9) (va_A [(x, .inr (0, [.ref t, .ref o, .ref y, .ref ed, .ref hi, .ref re, .ref ua, .int (nI uc), .int pl, .int dl])), (o, .inr (2, [.ref a1, .ref a2, .ref a3])), (a1, .inl (cA 0, 40, .inl st)), (a2, .inl (cA 0, 40, .inl (sp_kc ce))), (a3, .inl (cA 0, 1040, .inl ce)), (y, .inr (2, [.ref a1y, .ref a2y, .ref a3y])), (a1y, .inl (cA 0, 40, .inl sty)), (a2y, .inl (cA 0, 40, .inl (sp_kc cey))), (a3y, .inl (cA 0, 1040, .inl cey)), (ua, .inl (cA 0, 40, .inl (tx_A uf)))] sz)) 0 0 (va_A [(x, .inr (0, [.ref t, .ref o, .ref y, .ref ed, .ref hi, .ref re, .ref ua, .int (nI uc), .int pl, .int dl])), (o, .inr (2, [.ref a1, .ref a2, .ref a3])), (a1, .inl (cA 0, 40, .inl st)), (a2, .inl (cA 0, 40, .inl (sp_kc ce))), (a3, .inl (cA 0, 1040, .inl ce)), (y, .inr (2, [.ref a1y, .ref a2y, .ref a3y])), (a1y, .inl (cA 0, 40, .inl sty)), (a2y, .inl (cA 0, 40, .inl (sp_kc cey))), (a3y, .inl (cA 0, 1040, .inl cey)), (ua, .inl (cA 0, 40, .inl (tx_A uf)))] sz) := by
  refine Met.ofW (cc := xb_X_noteUnlike) (maxL := 2) (ret := (some .int)) (by decide) rfl ?_
  intro p e s m args below meth c s₁ B hml hv
  obtain ⟨rfl, hsz, hK, hP, hD0⟩ := hv
  have hx := B.exec
  have hb := B.bytes
  have hr := B.returns
  have hts0 := atoms_spec (ws := .code xy_X_noteUnlike xb_X_noteUnlike 2 (some .int) :: tw_W) B.pre
  have hts : ∀ w9 ∈ tw_W, w9.before [.ref x].toArray s = true := fun w9 h9 => hts0 w9 (List.mem_cons_of_mem _ h9)
  have hown : s.vm.findClass xc_X = some m.cls := findClass_of_methodNamed B.named
  have hlocks := B.notSynchronized
  subst hsz
  have hD := hD0.self (sz := s.heap.size)
  generalize hAe : va_A [(x, .inr (0, [.ref t, .ref o, .ref y, .ref ed, .ref hi, .ref re, .ref ua, .int (nI uc), .int pl, .int dl])), (o, .inr (2, [.ref a1, .ref a2, .ref a3])), (a1, .inl (cA 0, 40, .inl st)), (a2, .inl (cA 0, 40, .inl (sp_kc ce))), (a3, .inl (cA 0, 1040, .inl ce)), (y, .inr (2, [.ref a1y, .ref a2y, .ref a3y])), (a1y, .inl (cA 0, 40, .inl sty)), (a2y, .inl (cA 0, 40, .inl (sp_kc cey))), (a3y, .inl (cA 0, 1040, .inl cey)), (ua, .inl (cA 0, 40, .inl (tx_A uf)))] s.heap.size = A at hD ⊢
  have hA : ∀ q : Nat, s.heap.size ≤ q → A q := fun q h => by rw [← hAe]; exact Or.inr h
  have hS : va_S A s.heap s.heap [] := va_S.rf
  have hP : va_P G xk_cl [(x, .inr (0, [.ref t, .ref o, .ref y, .ref ed, .ref hi, .ref re, .ref ua, .int (nI uc), .int pl, .int dl])), (o, .inr (2, [.ref a1, .ref a2, .ref a3])), (a1, .inl (cA 0, 40, .inl st)), (a2, .inl (cA 0, 40, .inl (sp_kc ce))), (a3, .inl (cA 0, 1040, .inl ce)), (y, .inr (2, [.ref a1y, .ref a2y, .ref a3y])), (a1y, .inl (cA 0, 40, .inl sty)), (a2y, .inl (cA 0, 40, .inl (sp_kc cey))), (a3y, .inl (cA 0, 1040, .inl cey)), (ua, .inl (cA 0, 40, .inl (tx_A uf)))] s.heap := hP
  have hl := lv_entry ([.ref x]) (n := 2) (Nat.le_of_ble_eq_true rfl)
  rw [lg_entry_eq]
  generalize (lg_sl ([.ref x]) ++ List.replicate (2 - (lg_sl ([.ref x])).length) Slot.unset).toArray = ls at hl ⊢
  have hl : lv_has ls 2 [(0, .ref x)] := hl
  refine lv_aload_n hx hb xd_X_noteUnlike_0 rfl (lv_at hl 0 rfl) ?_
  refine lv_iconst (v := nI 0) hx hb xd_X_noteUnlike_1 (by decide) ?_
  refine va_put (D := G) (ci := 0) (v := .int (nI 0)) (ty := .int) (C := xc_X) (T := xf_X) (N := 10) hx hb hts xw_X xt_X xt_X_ok xn_X hown hK.1 hP hD hS 0 rfl rfl 7 (by decide) (hts _ xm_166) (fun _ h9 => h9) rfl (by decide +kernel) rfl rfl (Nat.le_of_ble_eq_true rfl) xd_X_noteUnlike_2 (fun H locs hP hD hS => ?_)
  have hP : va_P G xk_cl [(x, .inr (0, [.ref t, .ref o, .ref y, .ref ed, .ref hi, .ref re, .ref ua, .int (nI 0), .int pl, .int dl])), (o, .inr (2, [.ref a1, .ref a2, .ref a3])), (a1, .inl (cA 0, 40, .inl st)), (a2, .inl (cA 0, 40, .inl (sp_kc ce))), (a3, .inl (cA 0, 1040, .inl ce)), (y, .inr (2, [.ref a1y, .ref a2y, .ref a3y])), (a1y, .inl (cA 0, 40, .inl sty)), (a2y, .inl (cA 0, 40, .inl (sp_kc cey))), (a3y, .inl (cA 0, 1040, .inl cey)), (ua, .inl (cA 0, 40, .inl (tx_A uf)))] H := hP
  have hD : va_D A [(x, .inr (0, [.ref t, .ref o, .ref y, .ref ed, .ref hi, .ref re, .ref ua, .int (nI 0), .int pl, .int dl])), (o, .inr (2, [.ref a1, .ref a2, .ref a3])), (a1, .inl (cA 0, 40, .inl st)), (a2, .inl (cA 0, 40, .inl (sp_kc ce))), (a3, .inl (cA 0, 1040, .inl ce)), (y, .inr (2, [.ref a1y, .ref a2y, .ref a3y])), (a1y, .inl (cA 0, 40, .inl sty)), (a2y, .inl (cA 0, 40, .inl (sp_kc cey))), (a3y, .inl (cA 0, 1040, .inl cey)), (ua, .inl (cA 0, 40, .inl (tx_A uf)))] := hD
  refine lv_iconst (v := nI 0) hx hb xd_X_noteUnlike_5 (by decide) ?_
  refine lv_istore_n (lv' := [(1, .int (nI 0)), (0, .ref x)]) hx hb xd_X_noteUnlike_6 rfl hl (by decide) rfl (fun ls hl => ?_)
  have hP : va_P G xk_cl [(x, .inr (0, [.ref t, .ref o, .ref y, .ref ed, .ref hi, .ref re, .ref ua, .int (nI (ct_N (un_B st ce sty cey) 0)), .int pl, .int dl])), (o, .inr (2, [.ref a1, .ref a2, .ref a3])), (a1, .inl (cA 0, 40, .inl st)), (a2, .inl (cA 0, 40, .inl (sp_kc ce))), (a3, .inl (cA 0, 1040, .inl ce)), (y, .inr (2, [.ref a1y, .ref a2y, .ref a3y])), (a1y, .inl (cA 0, 40, .inl sty)), (a2y, .inl (cA 0, 40, .inl (sp_kc cey))), (a3y, .inl (cA 0, 1040, .inl cey)), (ua, .inl (cA 0, 40, .inl (tx_A (ul_F (un_B st ce sty cey) uf 0))))] H := by rw [ct_N, ul_F]; exact hP
  have hD : va_D A [(x, .inr (0, [.ref t, .ref o, .ref y, .ref ed, .ref hi, .ref re, .ref ua, .int (nI (ct_N (un_B st ce sty cey) 0)), .int pl, .int dl])), (o, .inr (2, [.ref a1, .ref a2, .ref a3])), (a1, .inl (cA 0, 40, .inl st)), (a2, .inl (cA 0, 40, .inl (sp_kc ce))), (a3, .inl (cA 0, 1040, .inl ce)), (y, .inr (2, [.ref a1y, .ref a2y, .ref a3y])), (a1y, .inl (cA 0, 40, .inl sty)), (a2y, .inl (cA 0, 40, .inl (sp_kc cey))), (a3y, .inl (cA 0, 1040, .inl cey)), (ua, .inl (cA 0, 40, .inl (tx_A (ul_F (un_B st ce sty cey) uf 0))))] := by rw [ct_N, ul_F]; exact hD
  have lp : ∀ (k_lp : Nat) (i : Nat), (i ≤ 40) → 40 - i < k_lp → ∀ (H : Heap) (locs : List Loc), va_P G xk_cl [(x, .inr (0, [.ref t, .ref o, .ref y, .ref ed, .ref hi, .ref re, .ref ua, .int (nI (ct_N (un_B st ce sty cey) i)), .int pl, .int dl])), (o, .inr (2, [.ref a1, .ref a2, .ref a3])), (a1, .inl (cA 0, 40, .inl st)), (a2, .inl (cA 0, 40, .inl (sp_kc ce))), (a3, .inl (cA 0, 1040, .inl ce)), (y, .inr (2, [.ref a1y, .ref a2y, .ref a3y])), (a1y, .inl (cA 0, 40, .inl sty)), (a2y, .inl (cA 0, 40, .inl (sp_kc cey))), (a3y, .inl (cA 0, 1040, .inl cey)), (ua, .inl (cA 0, 40, .inl (tx_A (ul_F (un_B st ce sty cey) uf i))))] H → va_D A [(x, .inr (0, [.ref t, .ref o, .ref y, .ref ed, .ref hi, .ref re, .ref ua, .int (nI (ct_N (un_B st ce sty cey) i)), .int pl, .int dl])), (o, .inr (2, [.ref a1, .ref a2, .ref a3])), (a1, .inl (cA 0, 40, .inl st)), (a2, .inl (cA 0, 40, .inl (sp_kc ce))), (a3, .inl (cA 0, 1040, .inl ce)), (y, .inr (2, [.ref a1y, .ref a2y, .ref a3y])), (a1y, .inl (cA 0, 40, .inl sty)), (a2y, .inl (cA 0, 40, .inl (sp_kc cey))), (a3y, .inl (cA 0, 1040, .inl cey)), (ua, .inl (cA 0, 40, .inl (tx_A (ul_F (un_B st ce sty cey) uf i))))] → va_S A s.heap H locs → ∀ (ls : Array Slot), lv_has ls 2 [(0, .ref x), (1, .int (nI i))] → W p l e (headSpec (.code xy_X_noteUnlike xb_X_noteUnlike 2 (some .int) :: tw_W) ({ frames := 3, cells := 0, slots := 0, locals := 65 })).room s m ([.ref x] : List Value).toArray below meth c H locs 0 0 (MQ below (va_Qi (fun (r : Int32) (_ : Unit) => r = nI (ct_N (un_B st ce sty cey) 40)) (fun _ T9 => at_w G A [(x, .inr (0, [.ref t, .ref o, .ref y, .ref ed, .ref hi, .ref re, .ref ua, .int (nI (ct_N (un_B st ce sty cey) 40)), .int pl, .int dl])), (o, .inr (2, [.ref a1, .ref a2, .ref a3])), (a1, .inl (cA 0, 40, .inl st)), (a2, .inl (cA 0, 40, .inl (sp_kc ce))), (a3, .inl (cA 0, 1040, .inl ce)), (y, .inr (2, [.ref a1y, .ref a2y, .ref a3y])), (a1y, .inl (cA 0, 40, .inl sty)), (a2y, .inl (cA 0, 40, .inl (sp_kc cey))), (a3y, .inl (cA 0, 1040, .inl cey)), (ua, .inl (cA 0, 40, .inl (tx_A (ul_F (un_B st ce sty cey) uf 40))))] T9) A) ([.ref x] : List Value).toArray s 0 0 A) (F0 m 7 ls []) := by
    intro k_lp
    induction k_lp with
    | zero =>
      intro i hi_ hk_lp
      exact absurd hk_lp (Nat.not_lt_zero _)
    | succ k_lp ih_lp =>
      intro i hi_ hk_lp H locs hP hD hS ls hl
      refine lv_iload_n hx hb xd_X_noteUnlike_7 rfl (lv_at hl 1 rfl) ?_
      refine lv_bipush (v := nI 40) hx hb xd_X_noteUnlike_8 (by decide) ?_
      refine lv_icmp_ge (tgt := 66) hx hb xd_X_noteUnlike_10 (by decide) (fun c_10_0 => ?_) (fun c_10_0 => ?_)
      · have e_i : i = 40 := Nat.le_antisymm hi_ (nI_gle (by decide) (by omega) c_10_0)
        subst e_i
        refine lv_aload_n hx hb xd_X_noteUnlike_66 rfl (lv_at hl 0 rfl) ?_
        refine va_get (D := G) (ci := 0) (v := .int (nI (ct_N (un_B st ce sty cey) 40))) (C := xc_X) (T := xf_X) (N := 10) hx hb hts xw_X hown hK.1 hP 0 rfl rfl 7 (by decide) (hts _ xm_166) (fun _ h9 => h9) rfl xd_X_noteUnlike_67 ?_
        have hP9 : va_P G xk_cl [(x, .inr (0, [.ref t, .ref o, .ref y, .ref ed, .ref hi, .ref re, .ref ua, .int (nI (ct_N (un_B st ce sty cey) 40)), .int pl, .int dl])), (o, .inr (2, [.ref a1, .ref a2, .ref a3])), (a1, .inl (cA 0, 40, .inl st)), (a2, .inl (cA 0, 40, .inl (sp_kc ce))), (a3, .inl (cA 0, 1040, .inl ce)), (y, .inr (2, [.ref a1y, .ref a2y, .ref a3y])), (a1y, .inl (cA 0, 40, .inl sty)), (a2y, .inl (cA 0, 40, .inl (sp_kc cey))), (a3y, .inl (cA 0, 1040, .inl cey)), (ua, .inl (cA 0, 40, .inl (tx_A (ul_F (un_B st ce sty cey) uf 40))))] _ := hP.sub [0, 1, 2, 3, 4, 5, 6, 7, 8, 9] rfl
        have hD9 : va_D A [(x, .inr (0, [.ref t, .ref o, .ref y, .ref ed, .ref hi, .ref re, .ref ua, .int (nI (ct_N (un_B st ce sty cey) 40)), .int pl, .int dl])), (o, .inr (2, [.ref a1, .ref a2, .ref a3])), (a1, .inl (cA 0, 40, .inl st)), (a2, .inl (cA 0, 40, .inl (sp_kc ce))), (a3, .inl (cA 0, 1040, .inl ce)), (y, .inr (2, [.ref a1y, .ref a2y, .ref a3y])), (a1y, .inl (cA 0, 40, .inl sty)), (a2y, .inl (cA 0, 40, .inl (sp_kc cey))), (a3y, .inl (cA 0, 1040, .inl cey)), (ua, .inl (cA 0, 40, .inl (tx_A (ul_F (un_B st ce sty cey) uf 40))))] := hD.sub [0, 1, 2, 3, 4, 5, 6, 7, 8, 9] (by decide) rfl
        exact W.iret (v := nI (ct_N (un_B st ce sty cey) 40)) hx hb hr (fun T9 ht hW => ⟨⟨_, (), rfl, rfl, by rw [ht]; exact hP9, hD9⟩, hS.F ht⟩) hS.2.2 xd_X_noteUnlike_70
      · have e_i := nI_gnl (by decide) (by omega) c_10_0
        have q_u := ct_N_le (un_B st ce sty cey) i
        refine lv_aload_n hx hb xd_X_noteUnlike_13 rfl (lv_at hl 0 rfl) ?_
        refine va_get (D := G) (ci := 0) (v := .ref o) (C := xc_X) (T := xf_X) (N := 10) hx hb hts xw_X hown hK.1 hP 0 rfl rfl 1 (by decide) (hts _ xm_160) (fun _ h9 => h9) rfl xd_X_noteUnlike_14 ?_
        refine lv_aload_n hx hb xd_X_noteUnlike_17 rfl (lv_at hl 0 rfl) ?_
        refine va_get (D := G) (ci := 0) (v := .ref y) (C := xc_X) (T := xf_X) (N := 10) hx hb hts xw_X hown hK.1 hP 0 rfl rfl 2 (by decide) (hts _ xm_161) (fun _ h9 => h9) rfl xd_X_noteUnlike_18 ?_
        refine lv_iload_n hx hb xd_X_noteUnlike_21 rfl (lv_at hl 1 rfl) ?_
        have hPc := hP.sub (ws' := [(o, .inr (2, [.ref a1, .ref a2, .ref a3])), (a1, .inl (cA 0, 40, .inl st)), (a2, .inl (cA 0, 40, .inl (sp_kc ce))), (a3, .inl (cA 0, 1040, .inl ce)), (y, .inr (2, [.ref a1y, .ref a2y, .ref a3y])), (a1y, .inl (cA 0, 40, .inl sty)), (a2y, .inl (cA 0, 40, .inl (sp_kc cey))), (a3y, .inl (cA 0, 1040, .inl cey))]) [1, 2, 3, 4, 5, 6, 7, 8] rfl
        refine vp_callSi (va_Run.run (va_runV (As := [.ref y, .int (nI i)]) (rest := []) ⟨hx, hb, hml, hown, hts⟩ (ct_St_isUnlike l G cA o a1 a2 a3 y a1y a2y a3y st ce sty cey i (by omega)) (cwV 2 hts (gi_v xm_395 xm_396 xm_397 xm_3 xm_398) rfl rfl rfl ⟨rfl, xh_St_isUnlike⟩ ⟨Nat.le_of_ble_eq_true rfl, Nat.le_of_ble_eq_true rfl⟩) (pv_r hK hPc (ci := 2) (q0 := 0) rfl rfl) rfl rfl hl.1 rfl (lv_room (Nat.le_of_ble_eq_true rfl)) xd_X_noteUnlike_22 ⟨Nat.le_of_ble_eq_true rfl, Nat.le_of_ble_eq_true rfl⟩)) (fun r_2 q_3 => ?_)
        refine lx_top (z := sp_un st ce sty cey i) (q_3) ?_
        refine lv_if_eq (tgt := 60) hx hb xd_X_noteUnlike_25 (by decide) (fun c_25_3 => ?_) (fun c_25_3 => ?_)
        · refine lv_iinc (v := nI (i + 1)) (lv' := [(1, .int (nI (i + 1))), (0, .ref x)]) hx hb xd_X_noteUnlike_60 hl (k := 1) rfl (nI_inc _) (by decide) rfl (fun ls hl => ?_)
          refine lv_goto (tgt := 7) hx hb xd_X_noteUnlike_63 (by decide) ?_
          have hP : va_P G xk_cl [(x, .inr (0, [.ref t, .ref o, .ref y, .ref ed, .ref hi, .ref re, .ref ua, .int (nI (ct_N (un_B st ce sty cey) (i + 1))), .int pl, .int dl])), (o, .inr (2, [.ref a1, .ref a2, .ref a3])), (a1, .inl (cA 0, 40, .inl st)), (a2, .inl (cA 0, 40, .inl (sp_kc ce))), (a3, .inl (cA 0, 1040, .inl ce)), (y, .inr (2, [.ref a1y, .ref a2y, .ref a3y])), (a1y, .inl (cA 0, 40, .inl sty)), (a2y, .inl (cA 0, 40, .inl (sp_kc cey))), (a3y, .inl (cA 0, 1040, .inl cey)), (ua, .inl (cA 0, 40, .inl (tx_A (ul_F (un_B st ce sty cey) uf (i + 1)))))] H := by rw [ct_N_f (un_Bf c_25_3), ul_f (un_Bf c_25_3)]; exact hP
          have hD : va_D A [(x, .inr (0, [.ref t, .ref o, .ref y, .ref ed, .ref hi, .ref re, .ref ua, .int (nI (ct_N (un_B st ce sty cey) (i + 1))), .int pl, .int dl])), (o, .inr (2, [.ref a1, .ref a2, .ref a3])), (a1, .inl (cA 0, 40, .inl st)), (a2, .inl (cA 0, 40, .inl (sp_kc ce))), (a3, .inl (cA 0, 1040, .inl ce)), (y, .inr (2, [.ref a1y, .ref a2y, .ref a3y])), (a1y, .inl (cA 0, 40, .inl sty)), (a2y, .inl (cA 0, 40, .inl (sp_kc cey))), (a3y, .inl (cA 0, 1040, .inl cey)), (ua, .inl (cA 0, 40, .inl (tx_A (ul_F (un_B st ce sty cey) uf (i + 1)))))] := by rw [ct_N_f (un_Bf c_25_3), ul_f (un_Bf c_25_3)]; exact hD
          exact ih_lp (i + 1) (by omega) (by omega) _ _ (hP.sub [0, 1, 2, 3, 4, 5, 6, 7, 8, 9] rfl) (hD.sub [0, 1, 2, 3, 4, 5, 6, 7, 8, 9] (by decide) rfl) hS ls (lv_sub hl [1, 0] rfl)
        · refine lv_aload_n hx hb xd_X_noteUnlike_28 rfl (lv_at hl 0 rfl) ?_
          refine va_get (D := G) (ci := 0) (v := .int (nI (ct_N (un_B st ce sty cey) i))) (C := xc_X) (T := xf_X) (N := 10) hx hb hts xw_X hown hK.1 hP 0 rfl rfl 7 (by decide) (hts _ xm_166) (fun _ h9 => h9) rfl xd_X_noteUnlike_29 ?_
          refine lv_aload_n hx hb xd_X_noteUnlike_32 rfl (lv_at hl 0 rfl) ?_
          refine va_get (D := G) (ci := 0) (v := .ref ua) (C := xc_X) (T := xf_X) (N := 10) hx hb hts xw_X hown hK.1 hP 0 rfl rfl 6 (by decide) (hts _ xm_165) (fun _ h9 => h9) rfl xd_X_noteUnlike_33 ?_
          refine va_alen hx hb hK.1 hP 9 0 rfl rfl (v := nI 40) rfl xd_X_noteUnlike_36 ?_
          refine lv_icmp_ge (tgt := 60) hx hb xd_X_noteUnlike_37 (by decide) (fun c_37_4 => absurd c_37_4 (nI_ge (by omega) (by decide))) (fun c_37_4 => ?_)
          refine lv_aload_n hx hb xd_X_noteUnlike_40 rfl (lv_at hl 0 rfl) ?_
          refine va_get (D := G) (ci := 0) (v := .ref ua) (C := xc_X) (T := xf_X) (N := 10) hx hb hts xw_X hown hK.1 hP 0 rfl rfl 6 (by decide) (hts _ xm_165) (fun _ h9 => h9) rfl xd_X_noteUnlike_41 ?_
          refine lv_aload_n hx hb xd_X_noteUnlike_44 rfl (lv_at hl 0 rfl) ?_
          refine va_get (D := G) (ci := 0) (v := .int (nI (ct_N (un_B st ce sty cey) i))) (C := xc_X) (T := xf_X) (N := 10) hx hb hts xw_X hown hK.1 hP 0 rfl rfl 7 (by decide) (hts _ xm_166) (fun _ h9 => h9) rfl xd_X_noteUnlike_45 ?_
          refine lv_iload_n hx hb xd_X_noteUnlike_48 rfl (lv_at hl 1 rfl) ?_
          refine wx_iast hx hb hK.1 hP hD hS 9 0 rfl rfl (k := ct_N (un_B st ce sty cey) i) (z := nI i) (rfl) (by omega) (by decide) xd_X_noteUnlike_49 (fun H locs hP hD hS => ?_)
          have hP : va_P G xk_cl [(x, .inr (0, [.ref t, .ref o, .ref y, .ref ed, .ref hi, .ref re, .ref ua, .int (nI (ct_N (un_B st ce sty cey) i)), .int pl, .int dl])), (o, .inr (2, [.ref a1, .ref a2, .ref a3])), (a1, .inl (cA 0, 40, .inl st)), (a2, .inl (cA 0, 40, .inl (sp_kc ce))), (a3, .inl (cA 0, 1040, .inl ce)), (y, .inr (2, [.ref a1y, .ref a2y, .ref a3y])), (a1y, .inl (cA 0, 40, .inl sty)), (a2y, .inl (cA 0, 40, .inl (sp_kc cey))), (a3y, .inl (cA 0, 1040, .inl cey)), (ua, .inl (cA 0, 40, .inl (upd (tx_A (ul_F (un_B st ce sty cey) uf i)) (ct_N (un_B st ce sty cey) i) (nI i))))] H := hP
          have hD : va_D A [(x, .inr (0, [.ref t, .ref o, .ref y, .ref ed, .ref hi, .ref re, .ref ua, .int (nI (ct_N (un_B st ce sty cey) i)), .int pl, .int dl])), (o, .inr (2, [.ref a1, .ref a2, .ref a3])), (a1, .inl (cA 0, 40, .inl st)), (a2, .inl (cA 0, 40, .inl (sp_kc ce))), (a3, .inl (cA 0, 1040, .inl ce)), (y, .inr (2, [.ref a1y, .ref a2y, .ref a3y])), (a1y, .inl (cA 0, 40, .inl sty)), (a2y, .inl (cA 0, 40, .inl (sp_kc cey))), (a3y, .inl (cA 0, 1040, .inl cey)), (ua, .inl (cA 0, 40, .inl (upd (tx_A (ul_F (un_B st ce sty cey) uf i)) (ct_N (un_B st ce sty cey) i) (nI i))))] := hD
          refine lv_aload_n hx hb xd_X_noteUnlike_50 rfl (lv_at hl 0 rfl) ?_
          refine lv_dup hx hb xd_X_noteUnlike_51 rfl ?_
          refine va_get (D := G) (ci := 0) (v := .int (nI (ct_N (un_B st ce sty cey) i))) (C := xc_X) (T := xf_X) (N := 10) hx hb hts xw_X hown hK.1 hP 0 rfl rfl 7 (by decide) (hts _ xm_166) (fun _ h9 => h9) rfl xd_X_noteUnlike_52 ?_
          refine lv_iconst (v := nI 1) hx hb xd_X_noteUnlike_55 (by decide) ?_
          refine lx_iadd (z := nI (ct_N (un_B st ce sty cey) i + 1)) hx hb xd_X_noteUnlike_56 (nI_add _ _) ?_
          refine va_put (D := G) (ci := 0) (v := .int (nI (ct_N (un_B st ce sty cey) i + 1))) (ty := .int) (C := xc_X) (T := xf_X) (N := 10) hx hb hts xw_X xt_X xt_X_ok xn_X hown hK.1 hP hD hS 0 rfl rfl 7 (by decide) (hts _ xm_166) (fun _ h9 => h9) rfl (by decide +kernel) rfl rfl (Nat.le_of_ble_eq_true rfl) xd_X_noteUnlike_57 (fun H locs hP hD hS => ?_)
          have hP : va_P G xk_cl [(x, .inr (0, [.ref t, .ref o, .ref y, .ref ed, .ref hi, .ref re, .ref ua, .int (nI (ct_N (un_B st ce sty cey) i + 1)), .int pl, .int dl])), (o, .inr (2, [.ref a1, .ref a2, .ref a3])), (a1, .inl (cA 0, 40, .inl st)), (a2, .inl (cA 0, 40, .inl (sp_kc ce))), (a3, .inl (cA 0, 1040, .inl ce)), (y, .inr (2, [.ref a1y, .ref a2y, .ref a3y])), (a1y, .inl (cA 0, 40, .inl sty)), (a2y, .inl (cA 0, 40, .inl (sp_kc cey))), (a3y, .inl (cA 0, 1040, .inl cey)), (ua, .inl (cA 0, 40, .inl (upd (tx_A (ul_F (un_B st ce sty cey) uf i)) (ct_N (un_B st ce sty cey) i) (nI i))))] H := hP
          have hD : va_D A [(x, .inr (0, [.ref t, .ref o, .ref y, .ref ed, .ref hi, .ref re, .ref ua, .int (nI (ct_N (un_B st ce sty cey) i + 1)), .int pl, .int dl])), (o, .inr (2, [.ref a1, .ref a2, .ref a3])), (a1, .inl (cA 0, 40, .inl st)), (a2, .inl (cA 0, 40, .inl (sp_kc ce))), (a3, .inl (cA 0, 1040, .inl ce)), (y, .inr (2, [.ref a1y, .ref a2y, .ref a3y])), (a1y, .inl (cA 0, 40, .inl sty)), (a2y, .inl (cA 0, 40, .inl (sp_kc cey))), (a3y, .inl (cA 0, 1040, .inl cey)), (ua, .inl (cA 0, 40, .inl (upd (tx_A (ul_F (un_B st ce sty cey) uf i)) (ct_N (un_B st ce sty cey) i) (nI i))))] := hD
          refine lv_iinc (v := nI (i + 1)) (lv' := [(1, .int (nI (i + 1))), (0, .ref x)]) hx hb xd_X_noteUnlike_60 hl (k := 1) rfl (nI_inc _) (by decide) rfl (fun ls hl => ?_)
          refine lv_goto (tgt := 7) hx hb xd_X_noteUnlike_63 (by decide) ?_
          have hP : va_P G xk_cl [(x, .inr (0, [.ref t, .ref o, .ref y, .ref ed, .ref hi, .ref re, .ref ua, .int (nI (ct_N (un_B st ce sty cey) (i + 1))), .int pl, .int dl])), (o, .inr (2, [.ref a1, .ref a2, .ref a3])), (a1, .inl (cA 0, 40, .inl st)), (a2, .inl (cA 0, 40, .inl (sp_kc ce))), (a3, .inl (cA 0, 1040, .inl ce)), (y, .inr (2, [.ref a1y, .ref a2y, .ref a3y])), (a1y, .inl (cA 0, 40, .inl sty)), (a2y, .inl (cA 0, 40, .inl (sp_kc cey))), (a3y, .inl (cA 0, 1040, .inl cey)), (ua, .inl (cA 0, 40, .inl (tx_A (ul_F (un_B st ce sty cey) uf (i + 1)))))] H := by rw [ct_N_t (un_Bt c_25_3), ul_t (un_Bt c_25_3), ← tx_up]; exact hP
          have hD : va_D A [(x, .inr (0, [.ref t, .ref o, .ref y, .ref ed, .ref hi, .ref re, .ref ua, .int (nI (ct_N (un_B st ce sty cey) (i + 1))), .int pl, .int dl])), (o, .inr (2, [.ref a1, .ref a2, .ref a3])), (a1, .inl (cA 0, 40, .inl st)), (a2, .inl (cA 0, 40, .inl (sp_kc ce))), (a3, .inl (cA 0, 1040, .inl ce)), (y, .inr (2, [.ref a1y, .ref a2y, .ref a3y])), (a1y, .inl (cA 0, 40, .inl sty)), (a2y, .inl (cA 0, 40, .inl (sp_kc cey))), (a3y, .inl (cA 0, 1040, .inl cey)), (ua, .inl (cA 0, 40, .inl (tx_A (ul_F (un_B st ce sty cey) uf (i + 1)))))] := by rw [ct_N_t (un_Bt c_25_3), ul_t (un_Bt c_25_3), ← tx_up]; exact hD
          exact ih_lp (i + 1) (by omega) (by omega) _ _ (hP.sub [0, 1, 2, 3, 4, 5, 6, 7, 8, 9] rfl) (hD.sub [0, 1, 2, 3, 4, 5, 6, 7, 8, 9] (by decide) rfl) hS ls (lv_sub hl [1, 0] rfl)
  exact lp ((40 - 0) + 1) 0 (by omega) (Nat.lt_succ_self _) _ _ (hP.sub [0, 1, 2, 3, 4, 5, 6, 7, 8, 9] rfl) (hD.sub [0, 1, 2, 3, 4, 5, 6, 7, 8, 9] (by decide) rfl) hS ls (lv_sub hl [1, 0] rfl)
