def sp_cl (ce : Nat → Int32) (n i : Nat) : Nat → Int32 := fun j => if n * 26 ≤ j ∧ j < n * 26 + i then nI 0 else ce j
theorem sp_cl_0 (ce : Nat → Int32) (n : Nat) : sp_cl ce n 0 = ce := by
  funext j
  unfold sp_cl
  rw [if_neg (by omega)]
theorem sp_cl_s (ce : Nat → Int32) (n i : Nat) : sp_cl ce n (i + 1) = upd (sp_cl ce n i) (n * 26 + i) (nI 0) := by
  funext j
  by_cases e : j = n * 26 + i
  · subst e
    rw [pk_us]
    unfold sp_cl
    rw [if_pos (by omega)]
  · rw [pk_un e]
    unfold sp_cl
    by_cases q : n * 26 ≤ j ∧ j < n * 26 + i
    · rw [if_pos q, if_pos (by omega)]
    · rw [if_neg q, if_neg (by omega)]
theorem ct_N_t {p : Nat → Bool} {i : Nat} (h : p i = true) : ct_N p (i + 1) = ct_N p i + 1 := by rw [ct_N, if_pos h]
theorem ct_N_f {p : Nat → Bool} {i : Nat} (h : p i = false) : ct_N p (i + 1) = ct_N p i := by rw [ct_N, h]; rfl
theorem nI_gle {a b : Nat} (ha : a < 2147483648) (hb : b < 2147483648) (h : nI a ≤ nI b) : a ≤ b := (nI_leI ha hb).mp h
theorem nI_gnl {a b : Nat} (ha : a < 2147483648) (hb : b < 2147483648) (h : ¬ nI a ≤ nI b) : b < a := Nat.lt_of_not_le fun q => h ((nI_leI ha hb).mpr q)
theorem nI_z {a : Nat} (ha : a < 2147483648) (h : nI a = 0) : a = 0 := (nI_eq ha (by decide)).mp (by rw [h]; rfl)

set_option maxHeartbeats 4000000 in
set_option maxRecDepth 100000 in
theorem ct_St_takeAway (l : Launch) (G : va_G) (cA : Nat → ClassId) (sz : Nat) (o : Nat) (a1 : Nat) (a2 : Nat) (a3 : Nat) (st : Nat → Int32) (ce : Nat → Int32) (n : Nat) (hn : n < 40) : Met l xy_St_takeAway (.code xy_St_takeAway xb_St_takeAway 3 none :: tw_W) ({ frames := 2, cells := 0, slots := 0, locals := 44 }) (pc_w G cA [(o, .inr (2, [.ref a1, .ref a2, .ref a3])), (a1, .inl (cA 0, 40, .inl st)), (a2, .inl (cA 0, 40, .inl (sp_kc ce))), (a3, .inl (cA 0, 1040, .inl ce))] sz [.ref o, .int (nI n)]) (va_Qv (fun _ : Unit => True) (fun _ T9 => at_w G (va_A [(o, .inr (2, [.ref a1, .ref a2, .ref a3])), (a1, .inl (cA 0, 40, .inl st)), (a2, .inl (cA 0, 40, .inl (sp_kc ce))), (a3, .inl (cA 0, 1040, .inl ce))] sz) [(o, .inr (2, [.ref a1, .ref a2, .ref a3])), (a1, .inl (cA 0, 40, .inl (upd st n (nI 0)))), (a2, .inl (cA 0, 40, .inl (sp_kc (sp_cl ce n 26)))), (a3, .inl (cA 0, 1040, .inl (sp_cl ce n 26)))] T9) (va_A [(o, .inr (2, [.ref a1, .ref a2, .ref a3])), (a1, .inl (cA 0, 40, .inl st)), (a2, .inl (cA 0, 40, .inl (sp_kc ce))), (a3, .inl (cA 0, 1040, .inl ce))] sz)) 0 0 (va_A [(o, .inr (2, [.ref a1, .ref a2, .ref a3])), (a1, .inl (cA 0, 40, .inl st)), (a2, .inl (cA 0, 40, .inl (sp_kc ce))), (a3, .inl (cA 0, 1040, .inl ce))] sz) := by
  refine Met.ofW (cc := xb_St_takeAway) (maxL := 3) (ret := none) (by decide) rfl ?_
  intro p e s m args below meth c s₁ B hml hv
  obtain ⟨rfl, hsz, hK, hP, hD0⟩ := hv
  have hx := B.exec
  have hb := B.bytes
  have hr := B.returns
  have hts0 := atoms_spec (ws := .code xy_St_takeAway xb_St_takeAway 3 none :: tw_W) B.pre
  have hts : ∀ w9 ∈ tw_W, w9.before [.ref o, .int (nI n)].toArray s = true := fun w9 h9 => hts0 w9 (List.mem_cons_of_mem _ h9)
  have hown : s.vm.findClass xc_St = some m.cls := findClass_of_methodNamed B.named
  have hlocks := B.notSynchronized
  subst hsz
  have hD := hD0.self (sz := s.heap.size)
  generalize hAe : va_A [(o, .inr (2, [.ref a1, .ref a2, .ref a3])), (a1, .inl (cA 0, 40, .inl st)), (a2, .inl (cA 0, 40, .inl (sp_kc ce))), (a3, .inl (cA 0, 1040, .inl ce))] s.heap.size = A at hD ⊢
  have hA : ∀ q : Nat, s.heap.size ≤ q → A q := fun q h => by rw [← hAe]; exact Or.inr h
  have hS : va_S A s.heap s.heap [] := va_S.rf
  have hP : va_P G xk_cl [(o, .inr (2, [.ref a1, .ref a2, .ref a3])), (a1, .inl (cA 0, 40, .inl st)), (a2, .inl (cA 0, 40, .inl (sp_kc ce))), (a3, .inl (cA 0, 1040, .inl ce))] s.heap := hP
  have hl := lv_entry ([.ref o, .int (nI n)]) (n := 3) (Nat.le_of_ble_eq_true rfl)
  rw [lg_entry_eq]
  generalize (lg_sl ([.ref o, .int (nI n)]) ++ List.replicate (3 - (lg_sl ([.ref o, .int (nI n)])).length) Slot.unset).toArray = ls at hl ⊢
  have hl : lv_has ls 3 [(0, .ref o), (1, .int (nI n))] := hl
  refine lv_iload_n hx hb xd_St_takeAway_0 rfl (lv_at hl 1 rfl) ?_
  have hPc := hP.sub (ws' := []) [] rfl
  refine vp_callSi (va_Run.run (va_runSN (As := [.int (nI n)]) (rest := []) ⟨hx, hb, hml, hown, hts⟩ (ct_X_isObject l G cA (nI n)) ⟨va_cnB 1 hts (tw_g xm_276) rfl rfl rfl (nw_m hK.2 9 rfl) (hts _ xm_1) xh_X_isObject ⟨Nat.le_of_ble_eq_true rfl, Nat.le_of_ble_eq_true rfl⟩, hts _ xm_275, trivial⟩ (ps_r hK hPc) rfl rfl hl.1 rfl (lv_room (Nat.le_of_ble_eq_true rfl)) xd_St_takeAway_1 ⟨Nat.le_of_ble_eq_true rfl, Nat.le_of_ble_eq_true rfl⟩)) (fun r_1 q_2 => ?_)
  refine lx_top (z := sp_ob (nI n)) (q_2) ?_
  refine lx_top (z := nI 1) (sp_ob_t (by omega)) ?_
  refine lv_if_ne (tgt := 8) hx hb xd_St_takeAway_4 (by decide) (fun c_4_2 => ?_) (fun c_4_2 => absurd c_4_2 (by decide))
  refine lv_aload_n hx hb xd_St_takeAway_8 rfl (lv_at hl 0 rfl) ?_
  refine va_get (D := G) (ci := 2) (v := .ref a1) (C := xc_St) (T := xf_St) (N := 3) hx hb hts xw_St hown hK.1 hP 0 rfl rfl 0 (by decide) (hts _ xm_47) (fun _ h9 => h9) rfl xd_St_takeAway_9 ?_
  refine lv_iload_n hx hb xd_St_takeAway_12 rfl (lv_at hl 1 rfl) ?_
  refine lv_iconst (v := nI 0) hx hb xd_St_takeAway_13 (by decide) ?_
  refine wx_iast hx hb hK.1 hP hD hS 1 0 rfl rfl (k := n) (z := nI 0) (rfl) (by omega) (by decide) xd_St_takeAway_14 (fun H locs hP hD hS => ?_)
  have hP : va_P G xk_cl [(o, .inr (2, [.ref a1, .ref a2, .ref a3])), (a1, .inl (cA 0, 40, .inl (upd st n (nI 0)))), (a2, .inl (cA 0, 40, .inl (sp_kc ce))), (a3, .inl (cA 0, 1040, .inl ce))] H := hP
  have hD : va_D A [(o, .inr (2, [.ref a1, .ref a2, .ref a3])), (a1, .inl (cA 0, 40, .inl (upd st n (nI 0)))), (a2, .inl (cA 0, 40, .inl (sp_kc ce))), (a3, .inl (cA 0, 1040, .inl ce))] := hD
  refine lv_iconst (v := nI 0) hx hb xd_St_takeAway_15 (by decide) ?_
  refine lv_istore_n (lv' := [(2, .int (nI 0)), (0, .ref o), (1, .int (nI n))]) hx hb xd_St_takeAway_16 rfl hl (by decide) rfl (fun ls hl => ?_)
  have hP : va_P G xk_cl [(o, .inr (2, [.ref a1, .ref a2, .ref a3])), (a1, .inl (cA 0, 40, .inl (upd st n (nI 0)))), (a2, .inl (cA 0, 40, .inl (sp_kc (sp_cl ce n 0)))), (a3, .inl (cA 0, 1040, .inl (sp_cl ce n 0)))] H := by rw [sp_cl_0]; exact hP
  have hD : va_D A [(o, .inr (2, [.ref a1, .ref a2, .ref a3])), (a1, .inl (cA 0, 40, .inl (upd st n (nI 0)))), (a2, .inl (cA 0, 40, .inl (sp_kc (sp_cl ce n 0)))), (a3, .inl (cA 0, 1040, .inl (sp_cl ce n 0)))] := by rw [sp_cl_0]; exact hD
  have lp : ∀ (k_lp : Nat) (i : Nat), (i ≤ 26) → 26 - i < k_lp → ∀ (H : Heap) (locs : List Loc), va_P G xk_cl [(o, .inr (2, [.ref a1, .ref a2, .ref a3])), (a1, .inl (cA 0, 40, .inl (upd st n (nI 0)))), (a2, .inl (cA 0, 40, .inl (sp_kc (sp_cl ce n i)))), (a3, .inl (cA 0, 1040, .inl (sp_cl ce n i)))] H → va_D A [(o, .inr (2, [.ref a1, .ref a2, .ref a3])), (a1, .inl (cA 0, 40, .inl (upd st n (nI 0)))), (a2, .inl (cA 0, 40, .inl (sp_kc (sp_cl ce n i)))), (a3, .inl (cA 0, 1040, .inl (sp_cl ce n i)))] → va_S A s.heap H locs → ∀ (ls : Array Slot), lv_has ls 3 [(0, .ref o), (1, .int (nI n)), (2, .int (nI i))] → W p l e (headSpec (.code xy_St_takeAway xb_St_takeAway 3 none :: tw_W) ({ frames := 2, cells := 0, slots := 0, locals := 44 })).room s m ([.ref o, .int (nI n)] : List Value).toArray below meth c H locs 0 0 (MQ below (va_Qv (fun _ : Unit => True) (fun _ T9 => at_w G A [(o, .inr (2, [.ref a1, .ref a2, .ref a3])), (a1, .inl (cA 0, 40, .inl (upd st n (nI 0)))), (a2, .inl (cA 0, 40, .inl (sp_kc (sp_cl ce n 26)))), (a3, .inl (cA 0, 1040, .inl (sp_cl ce n 26)))] T9) A) ([.ref o, .int (nI n)] : List Value).toArray s 0 0 A) (F0 m 17 ls []) := by
    intro k_lp
    induction k_lp with
    | zero =>
      intro i hi hk_lp
      exact absurd hk_lp (Nat.not_lt_zero _)
    | succ k_lp ih_lp =>
      intro i hi hk_lp H locs hP hD hS ls hl
      refine lv_iload_n hx hb xd_St_takeAway_17 rfl (lv_at hl 2 rfl) ?_
      refine lv_bipush (v := nI 26) hx hb xd_St_takeAway_18 (by decide) ?_
      refine lv_icmp_ge (tgt := 36) hx hb xd_St_takeAway_20 (by decide) (fun c_20_3 => ?_) (fun c_20_3 => ?_)
      · have e_i : i = 26 := Nat.le_antisymm hi (nI_gle (by decide) (by omega) c_20_3)
        subst e_i
        have hP9 : va_P G xk_cl [(o, .inr (2, [.ref a1, .ref a2, .ref a3])), (a1, .inl (cA 0, 40, .inl (upd st n (nI 0)))), (a2, .inl (cA 0, 40, .inl (sp_kc (sp_cl ce n 26)))), (a3, .inl (cA 0, 1040, .inl (sp_cl ce n 26)))] _ := hP.sub [0, 1, 2, 3] rfl
        have hD9 : va_D A [(o, .inr (2, [.ref a1, .ref a2, .ref a3])), (a1, .inl (cA 0, 40, .inl (upd st n (nI 0)))), (a2, .inl (cA 0, 40, .inl (sp_kc (sp_cl ce n 26)))), (a3, .inl (cA 0, 1040, .inl (sp_cl ce n 26)))] := hD.sub [0, 1, 2, 3] (by decide) rfl
        exact W.vret hx hb hr (fun T9 ht hW => ⟨⟨(), rfl, trivial, by rw [ht]; exact hP9, hD9⟩, hS.F ht⟩) hS.2.2 xd_St_takeAway_36
      · have e_i := nI_gnl (by decide) (by omega) c_20_3
        refine lv_aload_n hx hb xd_St_takeAway_23 rfl (lv_at hl 0 rfl) ?_
        refine lv_iload_n hx hb xd_St_takeAway_24 rfl (lv_at hl 1 rfl) ?_
        refine lv_iload_n hx hb xd_St_takeAway_25 rfl (lv_at hl 2 rfl) ?_
        refine lv_iconst (v := nI 0) hx hb xd_St_takeAway_26 (by decide) ?_
        have hPc := hP.sub (ws' := [(o, .inr (2, [.ref a1, .ref a2, .ref a3])), (a2, .inl (cA 0, 40, .inl (sp_kc (sp_cl ce n i)))), (a3, .inl (cA 0, 1040, .inl (sp_cl ce n i)))]) [0, 2, 3] rfl
        have hDc := hD.sub (ws' := [(o, .inr (2, [.ref a1, .ref a2, .ref a3])), (a2, .inl (cA 0, 40, .inl (sp_kc (sp_cl ce n i)))), (a3, .inl (cA 0, 1040, .inl (sp_cl ce n i)))]) [0, 2, 3] (by decide) rfl
        have hFc := va_free (wc := [(o, .inr (2, [.ref a1, .ref a2, .ref a3])), (a2, .inl (cA 0, 40, .inl (sp_kc (sp_cl ce n i)))), (a3, .inl (cA 0, 1040, .inl (sp_cl ce n i)))]) hD hS hA [0, 2, 3] rfl
        refine va_callv (va_runV (As := [.int (nI n), .int (nI i), .int (nI 0)]) (rest := []) ⟨hx, hb, hml, hown, hts⟩ (ct_St_put l G cA H.size o a1 a2 a3 (sp_cl ce n i) n i (nI 0) (by omega) (by omega)) (cwV 3 hts (gi_v xm_315 xm_316 xm_317 xm_3 xm_318) rfl rfl rfl ⟨rfl, xh_St_put⟩ ⟨Nat.le_of_ble_eq_true rfl, Nat.le_of_ble_eq_true rfl⟩) (pv_w hK hPc hDc (ci := 2) (q0 := 0) rfl rfl) rfl rfl hl.1 rfl (lv_room (Nat.le_of_ble_eq_true rfl)) xd_St_takeAway_27 ⟨Nat.le_of_ble_eq_true rfl, Nat.le_of_ble_eq_true rfl⟩) hS (fun q _ h => hFc q h) hFc (fun u9 t9 H1 locs ht hvm q_6 hB hz1 hk1 hS => ?_)
        obtain ⟨hP1, hD1⟩ := hB
        rw [ht] at hP1
        obtain ⟨hP, hD⟩ := va_join (wr := [(a1, .inl (cA 0, 40, .inl (upd st n (nI 0))))]) (w1 := [(o, .inr (2, [.ref a1, .ref a2, .ref a3])), (a2, .inl (cA 0, 40, .inl (sp_kc (upd (sp_cl ce n i) (n * 26 + i) (nI 0))))), (a3, .inl (cA 0, 1040, .inl (upd (sp_cl ce n i) (n * 26 + i) (nI 0))))]) hP hD [0, 2, 3] [1] rfl rfl (by decide) (by decide) hk1 hFc hP1 hD1
        generalize H1 = H at hP hS ⊢
        have hP : va_P G xk_cl [(a1, .inl (cA 0, 40, .inl (upd st n (nI 0)))), (o, .inr (2, [.ref a1, .ref a2, .ref a3])), (a2, .inl (cA 0, 40, .inl (sp_kc (upd (sp_cl ce n i) (n * 26 + i) (nI 0))))), (a3, .inl (cA 0, 1040, .inl (upd (sp_cl ce n i) (n * 26 + i) (nI 0))))] H := hP
        have hD : va_D A [(a1, .inl (cA 0, 40, .inl (upd st n (nI 0)))), (o, .inr (2, [.ref a1, .ref a2, .ref a3])), (a2, .inl (cA 0, 40, .inl (sp_kc (upd (sp_cl ce n i) (n * 26 + i) (nI 0))))), (a3, .inl (cA 0, 1040, .inl (upd (sp_cl ce n i) (n * 26 + i) (nI 0))))] := hD
        refine lv_iinc (v := nI (i + 1)) (lv' := [(2, .int (nI (i + 1))), (0, .ref o), (1, .int (nI n))]) hx hb xd_St_takeAway_30 hl (k := 2) rfl (nI_inc _) (by decide) rfl (fun ls hl => ?_)
        refine lv_goto (tgt := 17) hx hb xd_St_takeAway_33 (by decide) ?_
        have hP : va_P G xk_cl [(a1, .inl (cA 0, 40, .inl (upd st n (nI 0)))), (o, .inr (2, [.ref a1, .ref a2, .ref a3])), (a2, .inl (cA 0, 40, .inl (sp_kc (sp_cl ce n (i + 1))))), (a3, .inl (cA 0, 1040, .inl (sp_cl ce n (i + 1))))] H := by rw [sp_cl_s]; exact hP
        have hD : va_D A [(a1, .inl (cA 0, 40, .inl (upd st n (nI 0)))), (o, .inr (2, [.ref a1, .ref a2, .ref a3])), (a2, .inl (cA 0, 40, .inl (sp_kc (sp_cl ce n (i + 1))))), (a3, .inl (cA 0, 1040, .inl (sp_cl ce n (i + 1))))] := by rw [sp_cl_s]; exact hD
        exact ih_lp (i + 1) (by omega) (by omega) _ _ (hP.sub [1, 0, 2, 3] rfl) (hD.sub [1, 0, 2, 3] (by decide) rfl) hS ls (lv_sub hl [1, 2, 0] rfl)
  exact lp ((26 - 0) + 1) 0 (by omega) (Nat.lt_succ_self _) _ _ (hP.sub [0, 1, 2, 3] rfl) (hD.sub [0, 1, 2, 3] (by decide) rfl) hS ls (lv_sub hl [1, 2, 0] rfl)
set_option maxHeartbeats 4000000 in
set_option maxRecDepth 100000 in
theorem ct_St_countThere (l : Launch) (G : va_G) (cA : Nat → ClassId) (o : Nat) (a1 : Nat) (a2 : Nat) (a3 : Nat) (st : Nat → Int32) : Met l xy_St_countThere (.code xy_St_countThere xb_St_countThere 3 (some .int) :: tw_W) ({ frames := 0, cells := 0, slots := 0, locals := 0 }) (pc_r G cA [(o, .inr (2, [.ref a1, .ref a2, .ref a3])), (a1, .inl (cA 0, 40, .inl st))] [.ref o]) (vp_Si (fun r : Int32 => r = nI (ct_N (fun j => !(st j == 0)) 40))) 0 0 (fun _ => False) := by
  refine Met.ofW (cc := xb_St_countThere) (maxL := 3) (ret := (some .int)) (by decide) rfl ?_
  intro p e s m args below meth c s₁ B hml hv
  obtain ⟨rfl, hK, hP⟩ := hv
  have hx := B.exec
  have hb := B.bytes
  have hr := B.returns
  have hts0 := atoms_spec (ws := .code xy_St_countThere xb_St_countThere 3 (some .int) :: tw_W) B.pre
  have hts : ∀ w9 ∈ tw_W, w9.before [.ref o].toArray s = true := fun w9 h9 => hts0 w9 (List.mem_cons_of_mem _ h9)
  have hown : s.vm.findClass xc_St = some m.cls := findClass_of_methodNamed B.named
  have hlocks := B.notSynchronized
  have hP : va_P G xk_cl [(o, .inr (2, [.ref a1, .ref a2, .ref a3])), (a1, .inl (cA 0, 40, .inl st))] s.heap := hP
  have hl := lv_entry ([.ref o]) (n := 3) (Nat.le_of_ble_eq_true rfl)
  rw [lg_entry_eq]
  generalize (lg_sl ([.ref o]) ++ List.replicate (3 - (lg_sl ([.ref o])).length) Slot.unset).toArray = ls at hl ⊢
  have hl : lv_has ls 3 [(0, .ref o)] := hl
  refine lv_iconst (v := nI 0) hx hb xd_St_countThere_0 (by decide) ?_
  refine lv_istore_n (lv' := [(1, .int (nI 0)), (0, .ref o)]) hx hb xd_St_countThere_1 rfl hl (by decide) rfl (fun ls hl => ?_)
  refine lv_iconst (v := nI 0) hx hb xd_St_countThere_2 (by decide) ?_
  refine lv_istore_n (lv' := [(2, .int (nI 0)), (1, .int (nI 0)), (0, .ref o)]) hx hb xd_St_countThere_3 rfl hl (by decide) rfl (fun ls hl => ?_)
  have hl : lv_has ls 3 [(2, .int (nI 0)), (1, .int (nI (ct_N (fun j => !(st j == 0)) 0))), (0, .ref o)] := by rw [ct_N]; exact hl
  have lp : ∀ (k_lp : Nat) (i : Nat), (i ≤ 40) → 40 - i < k_lp → ∀ (ls : Array Slot), lv_has ls 3 [(0, .ref o), (1, .int (nI (ct_N (fun j => !(st j == 0)) i))), (2, .int (nI i))] → W p l e (headSpec (.code xy_St_countThere xb_St_countThere 3 (some .int) :: tw_W) ({ frames := 0, cells := 0, slots := 0, locals := 0 })).room s m ([.ref o] : List Value).toArray below meth c s.heap [] 0 0 (MQ below (vp_Si (fun r : Int32 => r = nI (ct_N (fun j => !(st j == 0)) 40))) ([.ref o] : List Value).toArray s 0 0 (fun _ => False)) (F0 m 4 ls []) := by
    intro k_lp
    induction k_lp with
    | zero =>
      intro i hi hk_lp
      exact absurd hk_lp (Nat.not_lt_zero _)
    | succ k_lp ih_lp =>
      intro i hi hk_lp ls hl
      refine lv_iload_n hx hb xd_St_countThere_4 rfl (lv_at hl 2 rfl) ?_
      refine lv_bipush (v := nI 40) hx hb xd_St_countThere_5 (by decide) ?_
      refine lv_icmp_ge (tgt := 28) hx hb xd_St_countThere_7 (by decide) (fun c_7_0 => ?_) (fun c_7_0 => ?_)
      · have e_i : i = 40 := Nat.le_antisymm hi (nI_gle (by decide) (by omega) c_7_0)
        subst e_i
        refine lv_iload_n hx hb xd_St_countThere_28 rfl (lv_at hl 1 rfl) ?_
        exact W.iret (v := nI (ct_N (fun j => !(st j == 0)) 40)) hx hb hr (fun T9 ht _ => ⟨_, rfl, rfl, ht⟩) (fun _ h => absurd h List.not_mem_nil) xd_St_countThere_29
      · have e_i := nI_gnl (by decide) (by omega) c_7_0
        refine lv_aload_n hx hb xd_St_countThere_10 rfl (lv_at hl 0 rfl) ?_
        refine va_get (D := G) (ci := 2) (v := .ref a1) (C := xc_St) (T := xf_St) (N := 3) hx hb hts xw_St hown hK.1 hP 0 rfl rfl 0 (by decide) (hts _ xm_47) (fun _ h9 => h9) rfl xd_St_countThere_11 ?_
        refine lv_iload_n hx hb xd_St_countThere_14 rfl (lv_at hl 2 rfl) ?_
        refine wx_iald hx hb hK.1 hP 1 0 rfl rfl (k := i) (by omega) (by decide) xd_St_countThere_15 ?_
        refine lv_if_eq (tgt := 22) hx hb xd_St_countThere_16 (by decide) (fun c_16_1 => ?_) (fun c_16_1 => ?_)
        · refine lv_iinc (v := nI (i + 1)) (lv' := [(2, .int (nI (i + 1))), (0, .ref o), (1, .int (nI (ct_N (fun j => !(st j == 0)) i)))]) hx hb xd_St_countThere_22 hl (k := 2) rfl (nI_inc _) (by decide) rfl (fun ls hl => ?_)
          refine lv_goto (tgt := 4) hx hb xd_St_countThere_25 (by decide) ?_
          have hl : lv_has ls 3 [(2, .int (nI (i + 1))), (0, .ref o), (1, .int (nI (ct_N (fun j => !(st j == 0)) (i + 1))))] := by rw [ct_N_f (by simp [c_16_1])]; exact hl
          exact ih_lp (i + 1) (by omega) (by omega) ls (lv_sub hl [1, 2, 0] rfl)
        · refine lv_iinc (v := nI (ct_N (fun j => !(st j == 0)) i + 1)) (lv' := [(1, .int (nI (ct_N (fun j => !(st j == 0)) i + 1))), (0, .ref o), (2, .int (nI i))]) hx hb xd_St_countThere_19 hl (k := 1) rfl (nI_inc _) (by decide) rfl (fun ls hl => ?_)
          refine lv_iinc (v := nI (i + 1)) (lv' := [(2, .int (nI (i + 1))), (1, .int (nI (ct_N (fun j => !(st j == 0)) i + 1))), (0, .ref o)]) hx hb xd_St_countThere_22 hl (k := 2) rfl (nI_inc _) (by decide) rfl (fun ls hl => ?_)
          refine lv_goto (tgt := 4) hx hb xd_St_countThere_25 (by decide) ?_
          have hl : lv_has ls 3 [(2, .int (nI (i + 1))), (1, .int (nI (ct_N (fun j => !(st j == 0)) (i + 1)))), (0, .ref o)] := by rw [ct_N_t (by simp [c_16_1])]; exact hl
          exact ih_lp (i + 1) (by omega) (by omega) ls (lv_sub hl [2, 1, 0] rfl)
  exact lp ((40 - 0) + 1) 0 (by omega) (Nat.lt_succ_self _) ls (lv_sub hl [2, 1, 0] rfl)
