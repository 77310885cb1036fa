def rd_K (ce : Nat → Int32) (n : Nat) (x y : Int32) (i : Nat) : Nat → Int32 := fun j => if (n * 26 ≤ j ∧ j < n * 26 + i) ∧ ce j = x then y else ce j
theorem rd_K_0 (ce : Nat → Int32) (n : Nat) (x y : Int32) : rd_K ce n x y 0 = ce := by
  funext j
  unfold rd_K
  rw [if_neg (by omega)]
theorem rd_K_at (ce : Nat → Int32) (n : Nat) (x y : Int32) (i : Nat) : rd_K ce n x y i (n * 26 + i) = ce (n * 26 + i) := by
  unfold rd_K
  rw [if_neg (by omega)]
theorem rd_K_t {ce : Nat → Int32} {n : Nat} {x y : Int32} {i : Nat} (h : rd_K ce n x y i (n * 26 + i) = x) : rd_K ce n x y (i + 1) = upd (rd_K ce n x y i) (n * 26 + i) y := by
  rw [rd_K_at] at h
  funext j
  by_cases e : j = n * 26 + i
  · subst e
    rw [pk_us]
    unfold rd_K
    rw [if_pos ⟨by omega, h⟩]
  · rw [pk_un e]
    unfold rd_K
    by_cases q : (n * 26 ≤ j ∧ j < n * 26 + i) ∧ ce j = x
    · rw [if_pos q, if_pos ⟨by omega, q.2⟩]
    · rw [if_neg q, if_neg (fun z => q ⟨by omega, z.2⟩)]
theorem rd_K_f {ce : Nat → Int32} {n : Nat} {x y : Int32} {i : Nat} (h : ¬ rd_K ce n x y i (n * 26 + i) = x) : rd_K ce n x y (i + 1) = rd_K ce n x y i := by
  rw [rd_K_at] at h
  funext j
  unfold rd_K
  by_cases q : (n * 26 ≤ j ∧ j < n * 26 + i) ∧ ce j = x
  · rw [if_pos q, if_pos ⟨by omega, q.2⟩]
  · rw [if_neg q, if_neg (fun z => ?_)]
    by_cases e : j = n * 26 + i
    · subst e; exact h z.2
    · exact q ⟨by omega, z.2⟩
def rd_A (ce : Nat → Int32) (x y : Int32) (i : Nat) : Nat → Int32 := fun j => if j < i * 26 ∧ ce j = x then y else ce j
theorem rd_A_0 (ce : Nat → Int32) (x y : Int32) : rd_A ce x y 0 = ce := by
  funext j
  unfold rd_A
  rw [if_neg (by omega)]
theorem rd_A_s (ce : Nat → Int32) (x y : Int32) (i : Nat) : rd_A ce x y (i + 1) = rd_K (rd_A ce x y i) i x y 26 := by
  funext j
  unfold rd_A rd_K
  dsimp only
  by_cases q : i * 26 ≤ j ∧ j < i * 26 + 26
  · have e : ¬ (j < i * 26 ∧ ce j = x) := by omega
    by_cases z : ce j = x
    · rw [if_pos ⟨by omega, z⟩, if_pos ⟨q, by rw [if_neg e]; exact z⟩]
    · rw [if_neg (fun w => z w.2), if_neg (fun w => z (by have := w.2; rw [if_neg e] at this; exact this)), if_neg e]
  · rw [if_neg (c := (i * 26 ≤ j ∧ j < i * 26 + 26) ∧ _) (fun w => q w.1)]
    by_cases z : j < i * 26 ∧ ce j = x
    · rw [if_pos z, if_pos ⟨by omega, z.2⟩]
    · rw [if_neg z, if_neg (fun w => z ⟨by omega, w.2⟩)]
theorem rd_A_z {ce : Nat → Int32} {x y : Int32} {i : Nat} (hx : ¬ x = 0) (h : sp_kc (rd_A ce x y i) i ≤ 0) : rd_A ce x y (i + 1) = rd_A ce x y i := by
  have h0 : sp_kc (rd_A ce x y i) i = 0 := by
    have q : ct_N (fun k => !(rd_A ce x y i (i * 26 + k) == 0)) 26 ≤ 0 := nI_gle (Nat.lt_of_le_of_lt (ct_N_le _ _) (by decide)) (by decide) h
    unfold sp_kc
    rw [Nat.le_zero.mp q]
    rfl
  have hz := sp_kc_z h0
  rw [rd_A_s]
  funext j
  unfold rd_K
  rw [if_neg]
  intro w
  have := hz (j - i * 26) (by omega)
  rw [show i * 26 + (j - i * 26) = j by omega] at this
  exact hx (w.2.symm.trans this)

set_option maxHeartbeats 4000000 in
set_option maxRecDepth 100000 in
theorem ct_St_redirectKeys (l : Launch) (G : va_G) (cA : Nat → ClassId) (sz : Nat) (o : Nat) (a1 : Nat) (a2 : Nat) (a3 : Nat) (ce : Nat → Int32) (n : Nat) (x : Int32) (y : Int32) (hn : n < 40) : Met l xy_St_redirectKeys (.code xy_St_redirectKeys xb_St_redirectKeys 5 none :: tw_W) ({ frames := 2, cells := 0, slots := 0, locals := 44 }) (pc_w G cA [(o, .inr (2, [.ref a1, .ref a2, .ref a3])), (a2, .inl (cA 0, 40, .inl (sp_kc ce))), (a3, .inl (cA 0, 1040, .inl ce))] sz [.ref o, .int (nI n), .int x, .int y]) (va_Qv (fun _ : Unit => True) (fun _ T9 => at_w G (va_A [(o, .inr (2, [.ref a1, .ref a2, .ref a3])), (a2, .inl (cA 0, 40, .inl (sp_kc ce))), (a3, .inl (cA 0, 1040, .inl ce))] sz) [(o, .inr (2, [.ref a1, .ref a2, .ref a3])), (a2, .inl (cA 0, 40, .inl (sp_kc (rd_K ce n x y 26)))), (a3, .inl (cA 0, 1040, .inl (rd_K ce n x y 26)))] T9) (va_A [(o, .inr (2, [.ref a1, .ref a2, .ref a3])), (a2, .inl (cA 0, 40, .inl (sp_kc ce))), (a3, .inl (cA 0, 1040, .inl ce))] sz)) 0 0 (va_A [(o, .inr (2, [.ref a1, .ref a2, .ref a3])), (a2, .inl (cA 0, 40, .inl (sp_kc ce))), (a3, .inl (cA 0, 1040, .inl ce))] sz) := by
  refine Met.ofW (cc := xb_St_redirectKeys) (maxL := 5) (ret := none) (by decide) rfl ?_
  intro p e s m args below meth c s₁ B hml hv
  obtain ⟨rfl, hsz, hK, hP, hD0⟩ := hv
  have hx := B.exec
  have hb := B.bytes
  have hr := B.returns
  have hts0 := atoms_spec (ws := .code xy_St_redirectKeys xb_St_redirectKeys 5 none :: tw_W) B.pre
  have hts : ∀ w9 ∈ tw_W, w9.before [.ref o, .int (nI n), .int x, .int y].toArray s = true := fun w9 h9 => hts0 w9 (List.mem_cons_of_mem _ h9)
  have hown : s.vm.findClass xc_St = some m.cls := findClass_of_methodNamed B.named
  have hlocks := B.notSynchronized
  subst hsz
  have hD := hD0.self (sz := s.heap.size)
  generalize hAe : va_A [(o, .inr (2, [.ref a1, .ref a2, .ref a3])), (a2, .inl (cA 0, 40, .inl (sp_kc ce))), (a3, .inl (cA 0, 1040, .inl ce))] s.heap.size = A at hD ⊢
  have hA : ∀ q : Nat, s.heap.size ≤ q → A q := fun q h => by rw [← hAe]; exact Or.inr h
  have hS : va_S A s.heap s.heap [] := va_S.rf
  have hP : va_P G xk_cl [(o, .inr (2, [.ref a1, .ref a2, .ref a3])), (a2, .inl (cA 0, 40, .inl (sp_kc ce))), (a3, .inl (cA 0, 1040, .inl ce))] s.heap := hP
  have hl := lv_entry ([.ref o, .int (nI n), .int x, .int y]) (n := 5) (Nat.le_of_ble_eq_true rfl)
  rw [lg_entry_eq]
  generalize (lg_sl ([.ref o, .int (nI n), .int x, .int y]) ++ List.replicate (5 - (lg_sl ([.ref o, .int (nI n), .int x, .int y])).length) Slot.unset).toArray = ls at hl ⊢
  have hl : lv_has ls 5 [(0, .ref o), (1, .int (nI n)), (2, .int x), (3, .int y)] := hl
  refine lv_iconst (v := nI 0) hx hb xd_St_redirectKeys_0 (by decide) ?_
  refine lv_istore (lv' := [(4, .int (nI 0)), (0, .ref o), (1, .int (nI n)), (2, .int x), (3, .int y)]) hx hb xd_St_redirectKeys_1 hl (by decide) rfl (fun ls hl => ?_)
  have hP : va_P G xk_cl [(o, .inr (2, [.ref a1, .ref a2, .ref a3])), (a2, .inl (cA 0, 40, .inl (sp_kc (rd_K ce n x y 0)))), (a3, .inl (cA 0, 1040, .inl (rd_K ce n x y 0)))] s.heap := by rw [rd_K_0]; exact hP
  have hD : va_D A [(o, .inr (2, [.ref a1, .ref a2, .ref a3])), (a2, .inl (cA 0, 40, .inl (sp_kc (rd_K ce n x y 0)))), (a3, .inl (cA 0, 1040, .inl (rd_K ce n x y 0)))] := by rw [rd_K_0]; exact hD
  have lp : ∀ (k_lp : Nat) (i : Nat), (i ≤ 26) → 26 - i < k_lp → ∀ (H : Heap) (locs : List Loc), va_P G xk_cl [(o, .inr (2, [.ref a1, .ref a2, .ref a3])), (a2, .inl (cA 0, 40, .inl (sp_kc (rd_K ce n x y i)))), (a3, .inl (cA 0, 1040, .inl (rd_K ce n x y i)))] H → va_D A [(o, .inr (2, [.ref a1, .ref a2, .ref a3])), (a2, .inl (cA 0, 40, .inl (sp_kc (rd_K ce n x y i)))), (a3, .inl (cA 0, 1040, .inl (rd_K ce n x y i)))] → va_S A s.heap H locs → ∀ (ls : Array Slot), lv_has ls 5 [(0, .ref o), (1, .int (nI n)), (2, .int x), (3, .int y), (4, .int (nI i))] → W p l e (headSpec (.code xy_St_redirectKeys xb_St_redirectKeys 5 none :: tw_W) ({ frames := 2, cells := 0, slots := 0, locals := 44 })).room s m ([.ref o, .int (nI n), .int x, .int y] : List Value).toArray below meth c H locs 0 0 (MQ below (va_Qv (fun _ : Unit => True) (fun _ T9 => at_w G A [(o, .inr (2, [.ref a1, .ref a2, .ref a3])), (a2, .inl (cA 0, 40, .inl (sp_kc (rd_K ce n x y 26)))), (a3, .inl (cA 0, 1040, .inl (rd_K ce n x y 26)))] T9) A) ([.ref o, .int (nI n), .int x, .int y] : List Value).toArray s 0 0 A) (F0 m 3 ls []) := by
    intro k_lp
    induction k_lp with
    | zero =>
      intro i hi hk_lp
      exact absurd hk_lp (Nat.not_lt_zero _)
    | succ k_lp ih_lp =>
      intro i hi hk_lp H locs hP hD hS ls hl
      refine lv_iload hx hb xd_St_redirectKeys_3 (lv_at hl 4 rfl) ?_
      refine lv_bipush (v := nI 26) hx hb xd_St_redirectKeys_5 (by decide) ?_
      refine lv_icmp_ge (tgt := 35) hx hb xd_St_redirectKeys_7 (by decide) (fun c_7_0 => ?_) (fun c_7_0 => ?_)
      · have e_i : i = 26 := Nat.le_antisymm hi (nI_gle (by decide) (by omega) c_7_0)
        subst e_i
        have hP9 : va_P G xk_cl [(o, .inr (2, [.ref a1, .ref a2, .ref a3])), (a2, .inl (cA 0, 40, .inl (sp_kc (rd_K ce n x y 26)))), (a3, .inl (cA 0, 1040, .inl (rd_K ce n x y 26)))] _ := hP.sub [0, 1, 2] rfl
        have hD9 : va_D A [(o, .inr (2, [.ref a1, .ref a2, .ref a3])), (a2, .inl (cA 0, 40, .inl (sp_kc (rd_K ce n x y 26)))), (a3, .inl (cA 0, 1040, .inl (rd_K ce n x y 26)))] := hD.sub [0, 1, 2] (by decide) rfl
        exact W.vret hx hb hr (fun T9 ht hW => ⟨⟨(), rfl, trivial, by rw [ht]; exact hP9, hD9⟩, hS.F ht⟩) hS.2.2 xd_St_redirectKeys_35
      · have e_i := nI_gnl (by decide) (by omega) c_7_0
        refine lv_aload_n hx hb xd_St_redirectKeys_10 rfl (lv_at hl 0 rfl) ?_
        refine lv_iload_n hx hb xd_St_redirectKeys_11 rfl (lv_at hl 1 rfl) ?_
        refine lv_iload hx hb xd_St_redirectKeys_12 (lv_at hl 4 rfl) ?_
        have hPc := hP.sub (ws' := [(o, .inr (2, [.ref a1, .ref a2, .ref a3])), (a3, .inl (cA 0, 1040, .inl (rd_K ce n x y i)))]) [0, 2] rfl
        refine vp_callSi (va_Run.run (va_runV (As := [.int (nI n), .int (nI i)]) (rest := []) ⟨hx, hb, hml, hown, hts⟩ (ct_St_cellAt l G cA o a1 a2 a3 (rd_K ce n x y i) n i (by omega) (by omega)) (cwV 2 hts (gi_v xm_405 xm_347 xm_348 xm_3 xm_349) rfl rfl rfl ⟨rfl, xh_St_cellAt⟩ ⟨Nat.le_of_ble_eq_true rfl, Nat.le_of_ble_eq_true rfl⟩) (pv_r hK hPc (ci := 2) (q0 := 0) rfl rfl) rfl rfl hl.1 rfl (lv_room (Nat.le_of_ble_eq_true rfl)) xd_St_redirectKeys_14 ⟨Nat.le_of_ble_eq_true rfl, Nat.le_of_ble_eq_true rfl⟩)) (fun r_2 q_3 => ?_)
        refine lx_top (z := (rd_K ce n x y i) (n * 26 + i)) (q_3) ?_
        refine lv_iload_n hx hb xd_St_redirectKeys_17 rfl (lv_at hl 2 rfl) ?_
        refine lv_icmp_ne (tgt := 29) hx hb xd_St_redirectKeys_18 (by decide) (fun c_18_3 => ?_) (fun c_18_3 => ?_)
        · refine lv_iinc (v := nI (i + 1)) (lv' := [(4, .int (nI (i + 1))), (0, .ref o), (1, .int (nI n)), (2, .int x), (3, .int y)]) hx hb xd_St_redirectKeys_29 hl (k := 4) rfl (nI_inc _) (by decide) rfl (fun ls hl => ?_)
          refine lv_goto (tgt := 3) hx hb xd_St_redirectKeys_32 (by decide) ?_
          have hP : va_P G xk_cl [(o, .inr (2, [.ref a1, .ref a2, .ref a3])), (a2, .inl (cA 0, 40, .inl (sp_kc (rd_K ce n x y (i + 1))))), (a3, .inl (cA 0, 1040, .inl (rd_K ce n x y (i + 1))))] H := by rw [rd_K_f c_18_3]; exact hP
          have hD : va_D A [(o, .inr (2, [.ref a1, .ref a2, .ref a3])), (a2, .inl (cA 0, 40, .inl (sp_kc (rd_K ce n x y (i + 1))))), (a3, .inl (cA 0, 1040, .inl (rd_K ce n x y (i + 1))))] := by rw [rd_K_f c_18_3]; exact hD
          exact ih_lp (i + 1) (by omega) (by omega) _ _ (hP.sub [0, 1, 2] rfl) (hD.sub [0, 1, 2] (by decide) rfl) hS ls (lv_sub hl [1, 2, 3, 4, 0] rfl)
        · refine lv_aload_n hx hb xd_St_redirectKeys_21 rfl (lv_at hl 0 rfl) ?_
          refine lv_iload_n hx hb xd_St_redirectKeys_22 rfl (lv_at hl 1 rfl) ?_
          refine lv_iload hx hb xd_St_redirectKeys_23 (lv_at hl 4 rfl) ?_
          refine lv_iload_n hx hb xd_St_redirectKeys_25 rfl (lv_at hl 3 rfl) ?_
          have hPc := hP
          have hDc := hD.sub (ws' := [(o, .inr (2, [.ref a1, .ref a2, .ref a3])), (a2, .inl (cA 0, 40, .inl (sp_kc (rd_K ce n x y i)))), (a3, .inl (cA 0, 1040, .inl (rd_K ce n x y i)))]) [0, 1, 2] (by decide) rfl
          have hFc := va_free (wc := [(o, .inr (2, [.ref a1, .ref a2, .ref a3])), (a2, .inl (cA 0, 40, .inl (sp_kc (rd_K ce n x y i)))), (a3, .inl (cA 0, 1040, .inl (rd_K ce n x y i)))]) hD hS hA [0, 1, 2] rfl
          refine va_callv (va_runV (As := [.int (nI n), .int (nI i), .int y]) (rest := []) ⟨hx, hb, hml, hown, hts⟩ (ct_St_put l G cA H.size o a1 a2 a3 (rd_K ce n x y i) n i y (by omega) (by omega)) (cwV 3 hts (gi_v xm_315 xm_316 xm_317 xm_3 xm_318) rfl rfl rfl ⟨rfl, xh_St_put⟩ ⟨Nat.le_of_ble_eq_true rfl, Nat.le_of_ble_eq_true rfl⟩) (pv_w hK hPc hDc (ci := 2) (q0 := 0) rfl rfl) rfl rfl hl.1 rfl (lv_room (Nat.le_of_ble_eq_true rfl)) xd_St_redirectKeys_26 ⟨Nat.le_of_ble_eq_true rfl, Nat.le_of_ble_eq_true rfl⟩) hS (fun q _ h => hFc q h) hFc (fun u9 t9 H1 locs ht hvm q_6 hB hz1 hk1 hS => ?_)
          obtain ⟨hP1, hD1⟩ := hB
          rw [ht] at hP1
          obtain ⟨hP, hD⟩ := va_join (wr := []) (w1 := [(o, .inr (2, [.ref a1, .ref a2, .ref a3])), (a2, .inl (cA 0, 40, .inl (sp_kc (upd (rd_K ce n x y i) (n * 26 + i) y)))), (a3, .inl (cA 0, 1040, .inl (upd (rd_K ce n x y i) (n * 26 + i) y)))]) hP hD [0, 1, 2] [] rfl rfl (by decide) (by decide) hk1 hFc hP1 hD1
          generalize H1 = H at hP hS ⊢
          have hP : va_P G xk_cl [(o, .inr (2, [.ref a1, .ref a2, .ref a3])), (a2, .inl (cA 0, 40, .inl (sp_kc (upd (rd_K ce n x y i) (n * 26 + i) y)))), (a3, .inl (cA 0, 1040, .inl (upd (rd_K ce n x y i) (n * 26 + i) y)))] H := hP
          have hD : va_D A [(o, .inr (2, [.ref a1, .ref a2, .ref a3])), (a2, .inl (cA 0, 40, .inl (sp_kc (upd (rd_K ce n x y i) (n * 26 + i) y)))), (a3, .inl (cA 0, 1040, .inl (upd (rd_K ce n x y i) (n * 26 + i) y)))] := hD
          refine lv_iinc (v := nI (i + 1)) (lv' := [(4, .int (nI (i + 1))), (0, .ref o), (1, .int (nI n)), (2, .int x), (3, .int y)]) hx hb xd_St_redirectKeys_29 hl (k := 4) rfl (nI_inc _) (by decide) rfl (fun ls hl => ?_)
          refine lv_goto (tgt := 3) hx hb xd_St_redirectKeys_32 (by decide) ?_
          have hP : va_P G xk_cl [(o, .inr (2, [.ref a1, .ref a2, .ref a3])), (a2, .inl (cA 0, 40, .inl (sp_kc (rd_K ce n x y (i + 1))))), (a3, .inl (cA 0, 1040, .inl (rd_K ce n x y (i + 1))))] H := by rw [rd_K_t c_18_3]; exact hP
          have hD : va_D A [(o, .inr (2, [.ref a1, .ref a2, .ref a3])), (a2, .inl (cA 0, 40, .inl (sp_kc (rd_K ce n x y (i + 1))))), (a3, .inl (cA 0, 1040, .inl (rd_K ce n x y (i + 1))))] := by rw [rd_K_t c_18_3]; exact hD
          exact ih_lp (i + 1) (by omega) (by omega) _ _ (hP.sub [0, 1, 2] rfl) (hD.sub [0, 1, 2] (by decide) rfl) hS ls (lv_sub hl [1, 2, 3, 4, 0] rfl)
  exact lp ((26 - 0) + 1) 0 (by omega) (Nat.lt_succ_self _) _ _ (hP.sub [0, 1, 2] rfl) (hD.sub [0, 1, 2] (by decide) rfl) hS ls (lv_sub hl [1, 2, 3, 4, 0] rfl)
set_option maxHeartbeats 4000000 in
set_option maxRecDepth 100000 in
theorem ct_St_redirect (l : Launch) (G : va_G) (cA : Nat → ClassId) (sz : Nat) (o : Nat) (a1 : Nat) (a2 : Nat) (a3 : Nat) (ce : Nat → Int32) (u : Nat) (v : Nat) (hu : u < 40) : Met l xy_St_redirect (.code xy_St_redirect xb_St_redirect 4 none :: tw_W) ({ frames := 3, cells := 0, slots := 0, locals := 68 }) (pc_w G cA [(o, .inr (2, [.ref a1, .ref a2, .ref a3])), (a2, .inl (cA 0, 40, .inl (sp_kc ce))), (a3, .inl (cA 0, 1040, .inl ce))] sz [.ref o, .int (nI u), .int (nI v)]) (va_Qv (fun _ : Unit => True) (fun _ T9 => at_w G (va_A [(o, .inr (2, [.ref a1, .ref a2, .ref a3])), (a2, .inl (cA 0, 40, .inl (sp_kc ce))), (a3, .inl (cA 0, 1040, .inl ce))] sz) [(o, .inr (2, [.ref a1, .ref a2, .ref a3])), (a2, .inl (cA 0, 40, .inl (sp_kc (rd_A ce (en_C (nI 2) (nI u)) (en_C (nI 2) (nI v)) 40)))), (a3, .inl (cA 0, 1040, .inl (rd_A ce (en_C (nI 2) (nI u)) (en_C (nI 2) (nI v)) 40)))] T9) (va_A [(o, .inr (2, [.ref a1, .ref a2, .ref a3])), (a2, .inl (cA 0, 40, .inl (sp_kc ce))), (a3, .inl (cA 0, 1040, .inl ce))] sz)) 0 0 (va_A [(o, .inr (2, [.ref a1, .ref a2, .ref a3])), (a2, .inl (cA 0, 40, .inl (sp_kc ce))), (a3, .inl (cA 0, 1040, .inl ce))] sz) := by
  refine Met.ofW (cc := xb_St_redirect) (maxL := 4) (ret := none) (by decide) rfl ?_
  intro p e s m args below meth c s₁ B hml hv
  obtain ⟨rfl, hsz, hK, hP, hD0⟩ := hv
  have hx := B.exec
  have hb := B.bytes
  have hr := B.returns
  have hts0 := atoms_spec (ws := .code xy_St_redirect xb_St_redirect 4 none :: tw_W) B.pre
  have hts : ∀ w9 ∈ tw_W, w9.before [.ref o, .int (nI u), .int (nI v)].toArray s = true := fun w9 h9 => hts0 w9 (List.mem_cons_of_mem _ h9)
  have hown : s.vm.findClass xc_St = some m.cls := findClass_of_methodNamed B.named
  have hlocks := B.notSynchronized
  subst hsz
  have hD := hD0.self (sz := s.heap.size)
  generalize hAe : va_A [(o, .inr (2, [.ref a1, .ref a2, .ref a3])), (a2, .inl (cA 0, 40, .inl (sp_kc ce))), (a3, .inl (cA 0, 1040, .inl ce))] s.heap.size = A at hD ⊢
  have hA : ∀ q : Nat, s.heap.size ≤ q → A q := fun q h => by rw [← hAe]; exact Or.inr h
  have hS : va_S A s.heap s.heap [] := va_S.rf
  have hP : va_P G xk_cl [(o, .inr (2, [.ref a1, .ref a2, .ref a3])), (a2, .inl (cA 0, 40, .inl (sp_kc ce))), (a3, .inl (cA 0, 1040, .inl ce))] s.heap := hP
  have hl := lv_entry ([.ref o, .int (nI u), .int (nI v)]) (n := 4) (Nat.le_of_ble_eq_true rfl)
  rw [lg_entry_eq]
  generalize (lg_sl ([.ref o, .int (nI u), .int (nI v)]) ++ List.replicate (4 - (lg_sl ([.ref o, .int (nI u), .int (nI v)])).length) Slot.unset).toArray = ls at hl ⊢
  have hl : lv_has ls 4 [(0, .ref o), (1, .int (nI u)), (2, .int (nI v))] := hl
  refine lv_iconst (v := nI 0) hx hb xd_St_redirect_0 (by decide) ?_
  refine lv_istore_n (lv' := [(3, .int (nI 0)), (0, .ref o), (1, .int (nI u)), (2, .int (nI v))]) hx hb xd_St_redirect_1 rfl hl (by decide) rfl (fun ls hl => ?_)
  have hP : va_P G xk_cl [(o, .inr (2, [.ref a1, .ref a2, .ref a3])), (a2, .inl (cA 0, 40, .inl (sp_kc (rd_A ce (en_C (nI 2) (nI u)) (en_C (nI 2) (nI v)) 0)))), (a3, .inl (cA 0, 1040, .inl (rd_A ce (en_C (nI 2) (nI u)) (en_C (nI 2) (nI v)) 0)))] s.heap := by rw [rd_A_0]; exact hP
  have hD : va_D A [(o, .inr (2, [.ref a1, .ref a2, .ref a3])), (a2, .inl (cA 0, 40, .inl (sp_kc (rd_A ce (en_C (nI 2) (nI u)) (en_C (nI 2) (nI v)) 0)))), (a3, .inl (cA 0, 1040, .inl (rd_A ce (en_C (nI 2) (nI u)) (en_C (nI 2) (nI v)) 0)))] := by rw [rd_A_0]; exact hD
  have lp : ∀ (k_lp : Nat) (i : Nat), (i ≤ 40) → 40 - i < k_lp → ∀ (H : Heap) (locs : List Loc), va_P G xk_cl [(o, .inr (2, [.ref a1, .ref a2, .ref a3])), (a2, .inl (cA 0, 40, .inl (sp_kc (rd_A ce (en_C (nI 2) (nI u)) (en_C (nI 2) (nI v)) i)))), (a3, .inl (cA 0, 1040, .inl (rd_A ce (en_C (nI 2) (nI u)) (en_C (nI 2) (nI v)) i)))] H → va_D A [(o, .inr (2, [.ref a1, .ref a2, .ref a3])), (a2, .inl (cA 0, 40, .inl (sp_kc (rd_A ce (en_C (nI 2) (nI u)) (en_C (nI 2) (nI v)) i)))), (a3, .inl (cA 0, 1040, .inl (rd_A ce (en_C (nI 2) (nI u)) (en_C (nI 2) (nI v)) i)))] → va_S A s.heap H locs → ∀ (ls : Array Slot), lv_has ls 4 [(0, .ref o), (1, .int (nI u)), (2, .int (nI v)), (3, .int (nI i))] → W p l e (headSpec (.code xy_St_redirect xb_St_redirect 4 none :: tw_W) ({ frames := 3, cells := 0, slots := 0, locals := 68 })).room s m ([.ref o, .int (nI u), .int (nI v)] : List Value).toArray below meth c H locs 0 0 (MQ below (va_Qv (fun _ : Unit => True) (fun _ T9 => at_w G A [(o, .inr (2, [.ref a1, .ref a2, .ref a3])), (a2, .inl (cA 0, 40, .inl (sp_kc (rd_A ce (en_C (nI 2) (nI u)) (en_C (nI 2) (nI v)) 40)))), (a3, .inl (cA 0, 1040, .inl (rd_A ce (en_C (nI 2) (nI u)) (en_C (nI 2) (nI v)) 40)))] T9) A) ([.ref o, .int (nI u), .int (nI v)] : List Value).toArray s 0 0 A) (F0 m 2 ls []) := by
    intro k_lp
    induction k_lp with
    | zero =>
      intro i hi hk_lp
      exact absurd hk_lp (Nat.not_lt_zero _)
    | succ k_lp ih_lp =>
      intro i hi hk_lp H locs hP hD hS ls hl
      refine lv_iload_n hx hb xd_St_redirect_2 rfl (lv_at hl 3 rfl) ?_
      refine lv_bipush (v := nI 40) hx hb xd_St_redirect_3 (by decide) ?_
      refine lv_icmp_ge (tgt := 38) hx hb xd_St_redirect_5 (by decide) (fun c_5_0 => ?_) (fun c_5_0 => ?_)
      · have e_i : i = 40 := Nat.le_antisymm hi (nI_gle (by decide) (by omega) c_5_0)
        subst e_i
        have hP9 : va_P G xk_cl [(o, .inr (2, [.ref a1, .ref a2, .ref a3])), (a2, .inl (cA 0, 40, .inl (sp_kc (rd_A ce (en_C (nI 2) (nI u)) (en_C (nI 2) (nI v)) 40)))), (a3, .inl (cA 0, 1040, .inl (rd_A ce (en_C (nI 2) (nI u)) (en_C (nI 2) (nI v)) 40)))] _ := hP.sub [0, 1, 2] rfl
        have hD9 : va_D A [(o, .inr (2, [.ref a1, .ref a2, .ref a3])), (a2, .inl (cA 0, 40, .inl (sp_kc (rd_A ce (en_C (nI 2) (nI u)) (en_C (nI 2) (nI v)) 40)))), (a3, .inl (cA 0, 1040, .inl (rd_A ce (en_C (nI 2) (nI u)) (en_C (nI 2) (nI v)) 40)))] := hD.sub [0, 1, 2] (by decide) rfl
        exact W.vret hx hb hr (fun T9 ht hW => ⟨⟨(), rfl, trivial, by rw [ht]; exact hP9, hD9⟩, hS.F ht⟩) hS.2.2 xd_St_redirect_38
      · have e_i := nI_gnl (by decide) (by omega) c_5_0
        refine lv_aload_n hx hb xd_St_redirect_8 rfl (lv_at hl 0 rfl) ?_
        refine va_get (D := G) (ci := 2) (v := .ref a2) (C := xc_St) (T := xf_St) (N := 3) hx hb hts xw_St hown hK.1 hP 0 rfl rfl 1 (by decide) (hts _ xm_48) (fun _ h9 => h9) rfl xd_St_redirect_9 ?_
        refine lv_iload_n hx hb xd_St_redirect_12 rfl (lv_at hl 3 rfl) ?_
        refine wx_iald hx hb hK.1 hP 1 0 rfl rfl (k := i) (by omega) (by decide) xd_St_redirect_13 ?_
        refine lv_if_le (tgt := 32) hx hb xd_St_redirect_14 (by decide) (fun c_14_1 => ?_) (fun c_14_1 => ?_)
        · refine lv_iinc (v := nI (i + 1)) (lv' := [(3, .int (nI (i + 1))), (0, .ref o), (1, .int (nI u)), (2, .int (nI v))]) hx hb xd_St_redirect_32 hl (k := 3) rfl (nI_inc _) (by decide) rfl (fun ls hl => ?_)
          refine lv_goto (tgt := 2) hx hb xd_St_redirect_35 (by decide) ?_
          have hP : va_P G xk_cl [(o, .inr (2, [.ref a1, .ref a2, .ref a3])), (a2, .inl (cA 0, 40, .inl (sp_kc (rd_A ce (en_C (nI 2) (nI u)) (en_C (nI 2) (nI v)) (i + 1))))), (a3, .inl (cA 0, 1040, .inl (rd_A ce (en_C (nI 2) (nI u)) (en_C (nI 2) (nI v)) (i + 1))))] H := by rw [rd_A_z (en_nz u hu) c_14_1]; exact hP
          have hD : va_D A [(o, .inr (2, [.ref a1, .ref a2, .ref a3])), (a2, .inl (cA 0, 40, .inl (sp_kc (rd_A ce (en_C (nI 2) (nI u)) (en_C (nI 2) (nI v)) (i + 1))))), (a3, .inl (cA 0, 1040, .inl (rd_A ce (en_C (nI 2) (nI u)) (en_C (nI 2) (nI v)) (i + 1))))] := by rw [rd_A_z (en_nz u hu) c_14_1]; exact hD
          exact ih_lp (i + 1) (by omega) (by omega) _ _ (hP.sub [0, 1, 2] rfl) (hD.sub [0, 1, 2] (by decide) rfl) hS ls (lv_sub hl [1, 2, 3, 0] rfl)
        · refine lv_aload_n hx hb xd_St_redirect_17 rfl (lv_at hl 0 rfl) ?_
          refine lv_iload_n hx hb xd_St_redirect_18 rfl (lv_at hl 3 rfl) ?_
          refine lv_iconst (v := nI 2) hx hb xd_St_redirect_19 (by decide) ?_
          refine lv_iload_n hx hb xd_St_redirect_20 rfl (lv_at hl 1 rfl) ?_
          have hPc := hP.sub (ws' := []) [] rfl
          refine vp_callSi (va_Run.run (va_runSN (As := [.int (nI 2), .int (nI u)]) (rest := [.int (nI i), .ref o]) ⟨hx, hb, hml, hown, hts⟩ (ct_X_cellOf l G cA (nI 2) (nI u)) ⟨va_cnB 2 hts (tw_g xm_261) rfl rfl rfl (nw_m hK.2 16 rfl) (hts _ xm_1) xh_X_cellOf ⟨Nat.le_of_ble_eq_true rfl, Nat.le_of_ble_eq_true rfl⟩, hts _ xm_260, trivial⟩ (ps_r hK hPc) rfl rfl hl.1 rfl (lv_room (Nat.le_of_ble_eq_true rfl)) xd_St_redirect_21 ⟨Nat.le_of_ble_eq_true rfl, Nat.le_of_ble_eq_true rfl⟩)) (fun r_3 q_4 => ?_)
          refine lx_top (z := en_C (nI 2) (nI u)) (q_4) ?_
          refine lv_iconst (v := nI 2) hx hb xd_St_redirect_24 (by decide) ?_
          refine lv_iload_n hx hb xd_St_redirect_25 rfl (lv_at hl 2 rfl) ?_
          have hPc := hP.sub (ws' := []) [] rfl
          refine vp_callSi (va_Run.run (va_runSN (As := [.int (nI 2), .int (nI v)]) (rest := [.int (en_C (nI 2) (nI u)), .int (nI i), .ref o]) ⟨hx, hb, hml, hown, hts⟩ (ct_X_cellOf l G cA (nI 2) (nI v)) ⟨va_cnB 2 hts (tw_g xm_261) rfl rfl rfl (nw_m hK.2 16 rfl) (hts _ xm_1) xh_X_cellOf ⟨Nat.le_of_ble_eq_true rfl, Nat.le_of_ble_eq_true rfl⟩, hts _ xm_260, trivial⟩ (ps_r hK hPc) rfl rfl hl.1 rfl (lv_room (Nat.le_of_ble_eq_true rfl)) xd_St_redirect_26 ⟨Nat.le_of_ble_eq_true rfl, Nat.le_of_ble_eq_true rfl⟩)) (fun r_5 q_6 => ?_)
          refine lx_top (z := en_C (nI 2) (nI v)) (q_6) ?_
          have hPc := hP
          have hDc := hD.sub (ws' := [(o, .inr (2, [.ref a1, .ref a2, .ref a3])), (a2, .inl (cA 0, 40, .inl (sp_kc (rd_A ce (en_C (nI 2) (nI u)) (en_C (nI 2) (nI v)) i)))), (a3, .inl (cA 0, 1040, .inl (rd_A ce (en_C (nI 2) (nI u)) (en_C (nI 2) (nI v)) i)))]) [0, 1, 2] (by decide) rfl
          have hFc := va_free (wc := [(o, .inr (2, [.ref a1, .ref a2, .ref a3])), (a2, .inl (cA 0, 40, .inl (sp_kc (rd_A ce (en_C (nI 2) (nI u)) (en_C (nI 2) (nI v)) i)))), (a3, .inl (cA 0, 1040, .inl (rd_A ce (en_C (nI 2) (nI u)) (en_C (nI 2) (nI v)) i)))]) hD hS hA [0, 1, 2] rfl
          refine va_callv (va_runV (As := [.int (nI i), .int (en_C (nI 2) (nI u)), .int (en_C (nI 2) (nI v))]) (rest := []) ⟨hx, hb, hml, hown, hts⟩ (ct_St_redirectKeys l G cA H.size o a1 a2 a3 (rd_A ce (en_C (nI 2) (nI u)) (en_C (nI 2) (nI v)) i) i (en_C (nI 2) (nI u)) (en_C (nI 2) (nI v)) (by omega)) (cwV 3 hts (gi_v xm_471 xm_473 xs_St_redirectKeys xm_3 xm_474) rfl rfl rfl ⟨rfl, xh_St_redirectKeys⟩ ⟨Nat.le_of_ble_eq_true rfl, Nat.le_of_ble_eq_true rfl⟩) (pv_w hK hPc hDc (ci := 2) (q0 := 0) rfl rfl) rfl rfl hl.1 rfl (lv_room (Nat.le_of_ble_eq_true rfl)) xd_St_redirect_29 ⟨Nat.le_of_ble_eq_true rfl, Nat.le_of_ble_eq_true rfl⟩) hS (fun q _ h => hFc q h) hFc (fun u9 t9 H1 locs ht hvm q_8 hB hz1 hk1 hS => ?_)
          obtain ⟨hP1, hD1⟩ := hB
          rw [ht] at hP1
          obtain ⟨hP, hD⟩ := va_join (wr := []) (w1 := [(o, .inr (2, [.ref a1, .ref a2, .ref a3])), (a2, .inl (cA 0, 40, .inl (sp_kc (rd_K (rd_A ce (en_C (nI 2) (nI u)) (en_C (nI 2) (nI v)) i) i (en_C (nI 2) (nI u)) (en_C (nI 2) (nI v)) 26)))), (a3, .inl (cA 0, 1040, .inl (rd_K (rd_A ce (en_C (nI 2) (nI u)) (en_C (nI 2) (nI v)) i) i (en_C (nI 2) (nI u)) (en_C (nI 2) (nI v)) 26)))]) hP hD [0, 1, 2] [] rfl rfl (by decide) (by decide) hk1 hFc hP1 hD1
          generalize H1 = H at hP hS ⊢
          have hP : va_P G xk_cl [(o, .inr (2, [.ref a1, .ref a2, .ref a3])), (a2, .inl (cA 0, 40, .inl (sp_kc (rd_K (rd_A ce (en_C (nI 2) (nI u)) (en_C (nI 2) (nI v)) i) i (en_C (nI 2) (nI u)) (en_C (nI 2) (nI v)) 26)))), (a3, .inl (cA 0, 1040, .inl (rd_K (rd_A ce (en_C (nI 2) (nI u)) (en_C (nI 2) (nI v)) i) i (en_C (nI 2) (nI u)) (en_C (nI 2) (nI v)) 26)))] H := hP
          have hD : va_D A [(o, .inr (2, [.ref a1, .ref a2, .ref a3])), (a2, .inl (cA 0, 40, .inl (sp_kc (rd_K (rd_A ce (en_C (nI 2) (nI u)) (en_C (nI 2) (nI v)) i) i (en_C (nI 2) (nI u)) (en_C (nI 2) (nI v)) 26)))), (a3, .inl (cA 0, 1040, .inl (rd_K (rd_A ce (en_C (nI 2) (nI u)) (en_C (nI 2) (nI v)) i) i (en_C (nI 2) (nI u)) (en_C (nI 2) (nI v)) 26)))] := hD
          refine lv_iinc (v := nI (i + 1)) (lv' := [(3, .int (nI (i + 1))), (0, .ref o), (1, .int (nI u)), (2, .int (nI v))]) hx hb xd_St_redirect_32 hl (k := 3) rfl (nI_inc _) (by decide) rfl (fun ls hl => ?_)
          refine lv_goto (tgt := 2) hx hb xd_St_redirect_35 (by decide) ?_
          have hP : va_P G xk_cl [(o, .inr (2, [.ref a1, .ref a2, .ref a3])), (a2, .inl (cA 0, 40, .inl (sp_kc (rd_A ce (en_C (nI 2) (nI u)) (en_C (nI 2) (nI v)) (i + 1))))), (a3, .inl (cA 0, 1040, .inl (rd_A ce (en_C (nI 2) (nI u)) (en_C (nI 2) (nI v)) (i + 1))))] H := by rw [rd_A_s]; exact hP
          have hD : va_D A [(o, .inr (2, [.ref a1, .ref a2, .ref a3])), (a2, .inl (cA 0, 40, .inl (sp_kc (rd_A ce (en_C (nI 2) (nI u)) (en_C (nI 2) (nI v)) (i + 1))))), (a3, .inl (cA 0, 1040, .inl (rd_A ce (en_C (nI 2) (nI u)) (en_C (nI 2) (nI v)) (i + 1))))] := by rw [rd_A_s]; exact hD
          exact ih_lp (i + 1) (by omega) (by omega) _ _ (hP.sub [0, 1, 2] rfl) (hD.sub [0, 1, 2] (by decide) rfl) hS ls (lv_sub hl [1, 2, 3, 0] rfl)
  exact lp ((40 - 0) + 1) 0 (by omega) (Nat.lt_succ_self _) _ _ (hP.sub [0, 1, 2] rfl) (hD.sub [0, 1, 2] (by decide) rfl) hS ls (lv_sub hl [1, 2, 3, 0] rfl)
