def pt_n (tn : Nat → Nat) (cnt a : Nat) : Nat → Nat
  | 0 => 0
  | m + 1 => if pt_n tn cnt a m = m ∧ lt_P tn cnt (a + m) then m + 1 else pt_n tn cnt a m
theorem pt_n_t {tn : Nat → Nat} {cnt a m : Nat} (h : pt_n tn cnt a m = m) (hd : lt_P tn cnt (a + m)) : pt_n tn cnt a (m + 1) = m + 1 := by rw [pt_n, if_pos ⟨h, hd⟩]
theorem pt_n_f {tn : Nat → Nat} {cnt a m : Nat} (h : pt_n tn cnt a m = m) (hd : ¬ lt_P tn cnt (a + m)) : ∀ k, m ≤ k → pt_n tn cnt a k = m := by
  intro k hk
  induction k with
  | zero => rw [show m = 0 by omega]; rfl
  | succ k ih =>
    by_cases e : m = k + 1
    · rw [← e]; exact h
    · have e2 := ih (by omega)
      rw [pt_n, e2, if_neg]
      intro z
      have : m = k := z.1
      rw [← this] at z
      exact hd z.2
theorem pt_n_le (tn : Nat → Nat) (cnt a : Nat) : ∀ m, pt_n tn cnt a m ≤ m
  | 0 => Nat.le_refl _
  | m + 1 => by
    have := pt_n_le tn cnt a m
    unfold pt_n
    split <;> omega
theorem pt_n_cnt (tn : Nat → Nat) (cnt a : Nat) (h : a ≤ cnt) : ∀ m, a + pt_n tn cnt a m ≤ cnt
  | 0 => h
  | m + 1 => by
    have := pt_n_cnt tn cnt a h m
    unfold pt_n
    split
    · rename_i q; have := q.2.1; omega
    · exact this
def pk_K (kn tn : Nat → Nat) (a i : Nat) : Nat → Nat := fun j => if j < i then tn (a + j) - 97 else kn j
theorem pk_K_0 (kn tn : Nat → Nat) (a : Nat) : pk_K kn tn a 0 = kn := by
  funext j
  unfold pk_K
  rw [if_neg (by omega)]
theorem pk_K_s (kn tn : Nat → Nat) (a i : Nat) : pk_K kn tn a (i + 1) = un_N (pk_K kn tn a i) i (tn (a + i) - 97) := by
  funext j
  unfold pk_K un_N
  dsimp only
  by_cases e : j = i
  · rw [if_pos (by omega), if_pos e, e]
  · rw [if_neg e]
    by_cases q : j < i
    · rw [if_pos (by omega), if_pos q]
    · rw [if_neg (by omega), if_neg q]
set_option maxHeartbeats 4000000 in
set_option maxRecDepth 100000 in
theorem ct_Pa_length (l : Launch) (G : va_G) (cA : Nat → ClassId) (pa : Nat) (pk : Nat) (pn : Nat) (kn : Nat → Nat) : Met l xy_Pa_length (.code xy_Pa_length xb_Pa_length 1 (some .int) :: tw_W) ({ frames := 0, cells := 0, slots := 0, locals := 0 }) (pc_r G cA [(pa, .inr (5, [.ref pk, .int (nI pn)])), (pk, .inl (cA 0, 8, .inl (tx_A kn)))] [.ref pa]) (vp_Si (fun r : Int32 => r = nI pn)) 0 0 (fun _ => False) := by
  refine Met.ofW (cc := xb_Pa_length) (maxL := 1) (ret := (some .int)) (by decide) rfl ?_
  intro p e s m args below meth c s₁ B hml hv
  obtain ⟨rfl, hK, hP⟩ := hv
  have hx := B.exec
  have hb := B.bytes
  have hr := B.returns
  have hts0 := atoms_spec (ws := .code xy_Pa_length xb_Pa_length 1 (some .int) :: tw_W) B.pre
  have hts : ∀ w9 ∈ tw_W, w9.before [.ref pa].toArray s = true := fun w9 h9 => hts0 w9 (List.mem_cons_of_mem _ h9)
  have hown : s.vm.findClass xc_Pa = some m.cls := findClass_of_methodNamed B.named
  have hlocks := B.notSynchronized
  have hP : va_P G xk_cl [(pa, .inr (5, [.ref pk, .int (nI pn)])), (pk, .inl (cA 0, 8, .inl (tx_A kn)))] s.heap := hP
  have hl := lv_entry ([.ref pa]) (n := 1) (Nat.le_of_ble_eq_true rfl)
  rw [lg_entry_eq]
  generalize (lg_sl ([.ref pa]) ++ List.replicate (1 - (lg_sl ([.ref pa])).length) Slot.unset).toArray = ls at hl ⊢
  have hl : lv_has ls 1 [(0, .ref pa)] := hl
  refine lv_aload_n hx hb xd_Pa_length_0 rfl (lv_at hl 0 rfl) ?_
  refine va_get (D := G) (ci := 5) (v := .int (nI pn)) (C := xc_Pa) (T := xf_Pa) (N := 2) hx hb hts xw_Pa hown hK.1 hP 0 rfl rfl 1 (by decide) (hts _ xm_77) (fun _ h9 => h9) rfl xd_Pa_length_1 ?_
  exact W.iret (v := nI pn) hx hb hr (fun T9 ht _ => ⟨_, rfl, rfl, ht⟩) (fun _ h => absurd h List.not_mem_nil) xd_Pa_length_4
set_option maxHeartbeats 4000000 in
set_option maxRecDepth 100000 in
theorem ct_Pa_keyAt (l : Launch) (G : va_G) (cA : Nat → ClassId) (pa : Nat) (pk : Nat) (pn : Nat) (kn : Nat → Nat) (i : Nat) (hi : i < pn) (hn : pn ≤ 8) : Met l xy_Pa_keyAt (.code xy_Pa_keyAt xb_Pa_keyAt 2 (some .int) :: tw_W) ({ frames := 0, cells := 0, slots := 0, locals := 0 }) (pc_r G cA [(pa, .inr (5, [.ref pk, .int (nI pn)])), (pk, .inl (cA 0, 8, .inl (tx_A kn)))] [.ref pa, .int (nI i)]) (vp_Si (fun r : Int32 => r = nI (kn i))) 0 0 (fun _ => False) := by
  refine Met.ofW (cc := xb_Pa_keyAt) (maxL := 2) (ret := (some .int)) (by decide) rfl ?_
  intro p e s m args below meth c s₁ B hml hv
  obtain ⟨rfl, hK, hP⟩ := hv
  have hx := B.exec
  have hb := B.bytes
  have hr := B.returns
  have hts0 := atoms_spec (ws := .code xy_Pa_keyAt xb_Pa_keyAt 2 (some .int) :: tw_W) B.pre
  have hts : ∀ w9 ∈ tw_W, w9.before [.ref pa, .int (nI i)].toArray s = true := fun w9 h9 => hts0 w9 (List.mem_cons_of_mem _ h9)
  have hown : s.vm.findClass xc_Pa = some m.cls := findClass_of_methodNamed B.named
  have hlocks := B.notSynchronized
  have hP : va_P G xk_cl [(pa, .inr (5, [.ref pk, .int (nI pn)])), (pk, .inl (cA 0, 8, .inl (tx_A kn)))] s.heap := hP
  have hl := lv_entry ([.ref pa, .int (nI i)]) (n := 2) (Nat.le_of_ble_eq_true rfl)
  rw [lg_entry_eq]
  generalize (lg_sl ([.ref pa, .int (nI i)]) ++ List.replicate (2 - (lg_sl ([.ref pa, .int (nI i)])).length) Slot.unset).toArray = ls at hl ⊢
  have hl : lv_has ls 2 [(0, .ref pa), (1, .int (nI i))] := hl
  refine lv_iload_n hx hb xd_Pa_keyAt_0 rfl (lv_at hl 1 rfl) ?_
  refine lv_if_lt (tgt := 30) hx hb xd_Pa_keyAt_1 (by decide) (fun c_1_0 => absurd c_1_0 (nI_pos (by omega))) (fun c_1_0 => ?_)
  refine lv_iload_n hx hb xd_Pa_keyAt_4 rfl (lv_at hl 1 rfl) ?_
  refine lv_aload_n hx hb xd_Pa_keyAt_5 rfl (lv_at hl 0 rfl) ?_
  refine va_get (D := G) (ci := 5) (v := .int (nI pn)) (C := xc_Pa) (T := xf_Pa) (N := 2) hx hb hts xw_Pa hown hK.1 hP 0 rfl rfl 1 (by decide) (hts _ xm_77) (fun _ h9 => h9) rfl xd_Pa_keyAt_6 ?_
  refine lv_icmp_ge (tgt := 30) hx hb xd_Pa_keyAt_9 (by decide) (fun c_9_1 => absurd c_9_1 (nI_ge hi (by omega))) (fun c_9_1 => ?_)
  refine lv_iload_n hx hb xd_Pa_keyAt_12 rfl (lv_at hl 1 rfl) ?_
  refine lv_aload_n hx hb xd_Pa_keyAt_13 rfl (lv_at hl 0 rfl) ?_
  refine va_get (D := G) (ci := 5) (v := .ref pk) (C := xc_Pa) (T := xf_Pa) (N := 2) hx hb hts xw_Pa hown hK.1 hP 0 rfl rfl 0 (by decide) (hts _ xm_76) (fun _ h9 => h9) rfl xd_Pa_keyAt_14 ?_
  refine va_alen hx hb hK.1 hP 1 0 rfl rfl (v := nI 8) rfl xd_Pa_keyAt_17 ?_
  refine lv_icmp_ge (tgt := 30) hx hb xd_Pa_keyAt_18 (by decide) (fun c_18_2 => absurd c_18_2 (nI_ge (by omega) (by decide))) (fun c_18_2 => ?_)
  refine lv_aload_n hx hb xd_Pa_keyAt_21 rfl (lv_at hl 0 rfl) ?_
  refine va_get (D := G) (ci := 5) (v := .ref pk) (C := xc_Pa) (T := xf_Pa) (N := 2) hx hb hts xw_Pa hown hK.1 hP 0 rfl rfl 0 (by decide) (hts _ xm_76) (fun _ h9 => h9) rfl xd_Pa_keyAt_22 ?_
  refine lv_iload_n hx hb xd_Pa_keyAt_25 rfl (lv_at hl 1 rfl) ?_
  refine wx_iald hx hb hK.1 hP 1 0 rfl rfl (k := i) (by omega) (by decide) xd_Pa_keyAt_26 ?_
  refine lx_top (z := nI (kn i)) (rfl) ?_
  refine lv_goto (tgt := 31) hx hb xd_Pa_keyAt_27 (by decide) ?_
  exact W.iret (v := nI (kn i)) hx hb hr (fun T9 ht _ => ⟨_, rfl, rfl, ht⟩) (fun _ h => absurd h List.not_mem_nil) xd_Pa_keyAt_31
set_option maxHeartbeats 4000000 in
set_option maxRecDepth 100000 in
theorem ct_Pa_lastKey (l : Launch) (G : va_G) (cA : Nat → ClassId) (pa : Nat) (pk : Nat) (pn : Nat) (kn : Nat → Nat) (h0 : 0 < pn) (hn : pn ≤ 8) : Met l xy_Pa_lastKey (.code xy_Pa_lastKey xb_Pa_lastKey 1 (some .int) :: tw_W) ({ frames := 1, cells := 0, slots := 0, locals := 21 }) (pc_r G cA [(pa, .inr (5, [.ref pk, .int (nI pn)])), (pk, .inl (cA 0, 8, .inl (tx_A kn)))] [.ref pa]) (vp_Si (fun r : Int32 => r = nI (kn (pn - 1)))) 0 0 (fun _ => False) := by
  refine Met.ofW (cc := xb_Pa_lastKey) (maxL := 1) (ret := (some .int)) (by decide) rfl ?_
  intro p e s m args below meth c s₁ B hml hv
  obtain ⟨rfl, hK, hP⟩ := hv
  have hx := B.exec
  have hb := B.bytes
  have hr := B.returns
  have hts0 := atoms_spec (ws := .code xy_Pa_lastKey xb_Pa_lastKey 1 (some .int) :: tw_W) B.pre
  have hts : ∀ w9 ∈ tw_W, w9.before [.ref pa].toArray s = true := fun w9 h9 => hts0 w9 (List.mem_cons_of_mem _ h9)
  have hown : s.vm.findClass xc_Pa = some m.cls := findClass_of_methodNamed B.named
  have hlocks := B.notSynchronized
  have hP : va_P G xk_cl [(pa, .inr (5, [.ref pk, .int (nI pn)])), (pk, .inl (cA 0, 8, .inl (tx_A kn)))] s.heap := hP
  have hl := lv_entry ([.ref pa]) (n := 1) (Nat.le_of_ble_eq_true rfl)
  rw [lg_entry_eq]
  generalize (lg_sl ([.ref pa]) ++ List.replicate (1 - (lg_sl ([.ref pa])).length) Slot.unset).toArray = ls at hl ⊢
  have hl : lv_has ls 1 [(0, .ref pa)] := hl
  refine lv_aload_n hx hb xd_Pa_lastKey_0 rfl (lv_at hl 0 rfl) ?_
  refine lv_aload_n hx hb xd_Pa_lastKey_1 rfl (lv_at hl 0 rfl) ?_
  refine va_get (D := G) (ci := 5) (v := .int (nI pn)) (C := xc_Pa) (T := xf_Pa) (N := 2) hx hb hts xw_Pa hown hK.1 hP 0 rfl rfl 1 (by decide) (hts _ xm_77) (fun _ h9 => h9) rfl xd_Pa_lastKey_2 ?_
  refine lv_iconst (v := nI 1) hx hb xd_Pa_lastKey_5 (by decide) ?_
  refine lx_isub (z := nI (pn - 1)) hx hb xd_Pa_lastKey_6 (pk_sub (by omega)) ?_
  have hPc := hP
  refine vp_callSi (va_Run.run (va_runV (As := [.int (nI (pn - 1))]) (rest := []) ⟨hx, hb, hml, hown, hts⟩ (ct_Pa_keyAt l G cA pa pk pn kn (pn - 1) (by omega) (by omega)) (cwV 1 hts (gi_v xm_356 xm_343 xm_344 xm_6 xm_345) rfl rfl rfl ⟨rfl, xh_Pa_keyAt⟩ ⟨Nat.le_of_ble_eq_true rfl, Nat.le_of_ble_eq_true rfl⟩) (pv_r hK hPc (ci := 5) (q0 := 0) rfl rfl) rfl rfl hl.1 rfl (lv_room (Nat.le_of_ble_eq_true rfl)) xd_Pa_lastKey_7 ⟨Nat.le_of_ble_eq_true rfl, Nat.le_of_ble_eq_true rfl⟩)) (fun r_1 q_2 => ?_)
  refine lx_top (z := nI (kn (pn - 1))) (q_2) ?_
  exact W.iret (v := nI (kn (pn - 1))) hx hb hr (fun T9 ht _ => ⟨_, rfl, rfl, ht⟩) (fun _ h => absurd h List.not_mem_nil) xd_Pa_lastKey_10
set_option maxHeartbeats 4000000 in
set_option maxRecDepth 100000 in
theorem ct_Pa_readFrom (l : Launch) (G : va_G) (cA : Nat → ClassId) (sz : Nat) (pa : Nat) (pk : Nat) (pn : Nat) (kn : Nat → Nat) (t : Nat) (tc : Nat) (tn : Nat → Nat) (cnt : Nat) (at_ : Nat) (hc : cnt ≤ 300) (ha : at_ ≤ 300) (hv : ∀ j, tn j < 128) (hac : at_ ≤ cnt) : Met l xy_Pa_readFrom (.code xy_Pa_readFrom xb_Pa_readFrom 4 (some .boolean) :: tw_W) ({ frames := 2, cells := 0, slots := 0, locals := 41 }) (pc_w G cA [(pa, .inr (5, [.ref pk, .int (nI pn)])), (pk, .inl (cA 0, 8, .inl (tx_A kn))), (t, .inr (1, [.ref tc, .int (nI cnt), .int (nI at_)])), (tc, .inl (cA 1, 300, .inl (tx_A tn)))] sz [.ref pa, .ref t]) (va_Qi (fun (r : Int32) (_ : Unit) => r = if pt_n tn cnt at_ 8 = 0 then nI 0 else nI 1) (fun _ T9 => at_w G (va_A [(pa, .inr (5, [.ref pk, .int (nI pn)])), (pk, .inl (cA 0, 8, .inl (tx_A kn))), (t, .inr (1, [.ref tc, .int (nI cnt), .int (nI at_)])), (tc, .inl (cA 1, 300, .inl (tx_A tn)))] sz) [(pa, .inr (5, [.ref pk, .int (nI (pt_n tn cnt at_ 8))])), (pk, .inl (cA 0, 8, .inl (tx_A (pk_K kn tn at_ (pt_n tn cnt at_ 8))))), (t, .inr (1, [.ref tc, .int (nI cnt), .int (nI (at_ + pt_n tn cnt at_ 8))])), (tc, .inl (cA 1, 300, .inl (tx_A tn)))] T9) (va_A [(pa, .inr (5, [.ref pk, .int (nI pn)])), (pk, .inl (cA 0, 8, .inl (tx_A kn))), (t, .inr (1, [.ref tc, .int (nI cnt), .int (nI at_)])), (tc, .inl (cA 1, 300, .inl (tx_A tn)))] sz)) 0 0 (va_A [(pa, .inr (5, [.ref pk, .int (nI pn)])), (pk, .inl (cA 0, 8, .inl (tx_A kn))), (t, .inr (1, [.ref tc, .int (nI cnt), .int (nI at_)])), (tc, .inl (cA 1, 300, .inl (tx_A tn)))] sz) := by
  refine Met.ofW (cc := xb_Pa_readFrom) (maxL := 4) (ret := (some .boolean)) (by decide) rfl ?_
  intro p e s m args below meth c s₁ B hml hv
  obtain ⟨rfl, hsz, hK, hP, hD0⟩ := hv
  have hx := B.exec
  have hb := B.bytes
  have hr := B.returns
  have hts0 := atoms_spec (ws := .code xy_Pa_readFrom xb_Pa_readFrom 4 (some .boolean) :: tw_W) B.pre
  have hts : ∀ w9 ∈ tw_W, w9.before [.ref pa, .ref t].toArray s = true := fun w9 h9 => hts0 w9 (List.mem_cons_of_mem _ h9)
  have hown : s.vm.findClass xc_Pa = some m.cls := findClass_of_methodNamed B.named
  have hlocks := B.notSynchronized
  subst hsz
  have hD := hD0.self (sz := s.heap.size)
  generalize hAe : va_A [(pa, .inr (5, [.ref pk, .int (nI pn)])), (pk, .inl (cA 0, 8, .inl (tx_A kn))), (t, .inr (1, [.ref tc, .int (nI cnt), .int (nI at_)])), (tc, .inl (cA 1, 300, .inl (tx_A tn)))] s.heap.size = A at hD ⊢
  have hA : ∀ q : Nat, s.heap.size ≤ q → A q := fun q h => by rw [← hAe]; exact Or.inr h
  have hS : va_S A s.heap s.heap [] := va_S.rf
  have hP : va_P G xk_cl [(pa, .inr (5, [.ref pk, .int (nI pn)])), (pk, .inl (cA 0, 8, .inl (tx_A kn))), (t, .inr (1, [.ref tc, .int (nI cnt), .int (nI at_)])), (tc, .inl (cA 1, 300, .inl (tx_A tn)))] s.heap := hP
  have hl := lv_entry ([.ref pa, .ref t]) (n := 4) (Nat.le_of_ble_eq_true rfl)
  rw [lg_entry_eq]
  generalize (lg_sl ([.ref pa, .ref t]) ++ List.replicate (4 - (lg_sl ([.ref pa, .ref t])).length) Slot.unset).toArray = ls at hl ⊢
  have hl : lv_has ls 4 [(0, .ref pa), (1, .ref t)] := hl
  refine lv_aload_n hx hb xd_Pa_readFrom_0 rfl (lv_at hl 0 rfl) ?_
  refine lv_iconst (v := nI 0) hx hb xd_Pa_readFrom_1 (by decide) ?_
  refine va_put (D := G) (ci := 5) (v := .int (nI 0)) (ty := .int) (C := xc_Pa) (T := xf_Pa) (N := 2) hx hb hts xw_Pa xt_Pa xt_Pa_ok xn_Pa hown hK.1 hP hD hS 0 rfl rfl 1 (by decide) (hts _ xm_77) (fun _ h9 => h9) rfl (by decide +kernel) rfl rfl (Nat.le_of_ble_eq_true rfl) xd_Pa_readFrom_2 (fun H locs hP hD hS => ?_)
  have hP : va_P G xk_cl [(pa, .inr (5, [.ref pk, .int (nI 0)])), (pk, .inl (cA 0, 8, .inl (tx_A kn))), (t, .inr (1, [.ref tc, .int (nI cnt), .int (nI at_)])), (tc, .inl (cA 1, 300, .inl (tx_A tn)))] H := hP
  have hD : va_D A [(pa, .inr (5, [.ref pk, .int (nI 0)])), (pk, .inl (cA 0, 8, .inl (tx_A kn))), (t, .inr (1, [.ref tc, .int (nI cnt), .int (nI at_)])), (tc, .inl (cA 1, 300, .inl (tx_A tn)))] := hD
  refine lv_iconst (v := nI 0) hx hb xd_Pa_readFrom_5 (by decide) ?_
  refine lv_istore_n (lv' := [(2, .int (nI 0)), (0, .ref pa), (1, .ref t)]) hx hb xd_Pa_readFrom_6 rfl hl (by decide) rfl (fun ls hl => ?_)
  have hP : va_P G xk_cl [(pa, .inr (5, [.ref pk, .int (nI 0)])), (pk, .inl (cA 0, 8, .inl (tx_A (pk_K kn tn at_ 0)))), (t, .inr (1, [.ref tc, .int (nI cnt), .int (nI (at_ + 0))])), (tc, .inl (cA 1, 300, .inl (tx_A tn)))] H := by rw [pk_K_0, Nat.add_zero]; exact hP
  have hD : va_D A [(pa, .inr (5, [.ref pk, .int (nI 0)])), (pk, .inl (cA 0, 8, .inl (tx_A (pk_K kn tn at_ 0)))), (t, .inr (1, [.ref tc, .int (nI cnt), .int (nI (at_ + 0))])), (tc, .inl (cA 1, 300, .inl (tx_A tn)))] := by rw [pk_K_0, Nat.add_zero]; exact hD
  have lp : ∀ (k_lp : Nat) (i : Nat), (i ≤ 8) → (at_ + i ≤ cnt) → (pt_n tn cnt at_ i = i) → 8 - i < k_lp → ∀ (H : Heap) (locs : List Loc), va_P G xk_cl [(pa, .inr (5, [.ref pk, .int (nI i)])), (pk, .inl (cA 0, 8, .inl (tx_A (pk_K kn tn at_ i)))), (t, .inr (1, [.ref tc, .int (nI cnt), .int (nI (at_ + i))])), (tc, .inl (cA 1, 300, .inl (tx_A tn)))] H → va_D A [(pa, .inr (5, [.ref pk, .int (nI i)])), (pk, .inl (cA 0, 8, .inl (tx_A (pk_K kn tn at_ i)))), (t, .inr (1, [.ref tc, .int (nI cnt), .int (nI (at_ + i))])), (tc, .inl (cA 1, 300, .inl (tx_A tn)))] → va_S A s.heap H locs → ∀ (ls : Array Slot), lv_has ls 4 [(0, .ref pa), (1, .ref t), (2, .int (nI i))] → W p l e (headSpec (.code xy_Pa_readFrom xb_Pa_readFrom 4 (some .boolean) :: tw_W) ({ frames := 2, cells := 0, slots := 0, locals := 41 })).room s m ([.ref pa, .ref t] : List Value).toArray below meth c H locs 0 0 (MQ below (va_Qi (fun (r : Int32) (_ : Unit) => r = if pt_n tn cnt at_ 8 = 0 then nI 0 else nI 1) (fun _ T9 => at_w G A [(pa, .inr (5, [.ref pk, .int (nI (pt_n tn cnt at_ 8))])), (pk, .inl (cA 0, 8, .inl (tx_A (pk_K kn tn at_ (pt_n tn cnt at_ 8))))), (t, .inr (1, [.ref tc, .int (nI cnt), .int (nI (at_ + pt_n tn cnt at_ 8))])), (tc, .inl (cA 1, 300, .inl (tx_A tn)))] T9) A) ([.ref pa, .ref t] : List Value).toArray s 0 0 A) (F0 m 7 ls []) := by
    intro k_lp
    induction k_lp with
    | zero =>
      intro i hi hic hn hk_lp
      exact absurd hk_lp (Nat.not_lt_zero _)
    | succ k_lp ih_lp =>
      intro i hi hic hn hk_lp H locs hP hD hS ls hl
      refine lv_iload_n hx hb xd_Pa_readFrom_7 rfl (lv_at hl 2 rfl) ?_
      refine lv_aload_n hx hb xd_Pa_readFrom_8 rfl (lv_at hl 0 rfl) ?_
      refine va_get (D := G) (ci := 5) (v := .ref pk) (C := xc_Pa) (T := xf_Pa) (N := 2) hx hb hts xw_Pa hown hK.1 hP 0 rfl rfl 0 (by decide) (hts _ xm_76) (fun _ h9 => h9) rfl xd_Pa_readFrom_9 ?_
      refine va_alen hx hb hK.1 hP 1 0 rfl rfl (v := nI 8) rfl xd_Pa_readFrom_12 ?_
      refine lv_icmp_ge (tgt := 52) hx hb xd_Pa_readFrom_13 (by decide) (fun c_13_0 => ?_) (fun c_13_0 => ?_)
      · have e_i : i = 8 := Nat.le_antisymm hi (nI_gle (by omega) (by omega) c_13_0)
        have q_n : pt_n tn cnt at_ 8 = i := by rw [← e_i]; exact hn
        have hP : va_P G xk_cl [(pa, .inr (5, [.ref pk, .int (nI (pt_n tn cnt at_ 8))])), (pk, .inl (cA 0, 8, .inl (tx_A (pk_K kn tn at_ (pt_n tn cnt at_ 8))))), (t, .inr (1, [.ref tc, .int (nI cnt), .int (nI (at_ + pt_n tn cnt at_ 8))])), (tc, .inl (cA 1, 300, .inl (tx_A tn)))] H := by rw [q_n]; exact hP
        have hD : va_D A [(pa, .inr (5, [.ref pk, .int (nI (pt_n tn cnt at_ 8))])), (pk, .inl (cA 0, 8, .inl (tx_A (pk_K kn tn at_ (pt_n tn cnt at_ 8))))), (t, .inr (1, [.ref tc, .int (nI cnt), .int (nI (at_ + pt_n tn cnt at_ 8))])), (tc, .inl (cA 1, 300, .inl (tx_A tn)))] := by rw [q_n]; exact hD
        refine lv_aload_n hx hb xd_Pa_readFrom_52 rfl (lv_at hl 0 rfl) ?_
        refine va_get (D := G) (ci := 5) (v := .int (nI (pt_n tn cnt at_ 8))) (C := xc_Pa) (T := xf_Pa) (N := 2) hx hb hts xw_Pa hown hK.1 hP 0 rfl rfl 1 (by decide) (hts _ xm_77) (fun _ h9 => h9) rfl xd_Pa_readFrom_53 ?_
        refine lv_if_le (tgt := 63) hx hb xd_Pa_readFrom_56 (by decide) (fun c_56_1 => ?_) (fun c_56_1 => ?_)
        · have q_l : pt_n tn cnt at_ 8 = 0 := Nat.le_zero.mp (nI_gle (by rw [q_n]; omega) (by decide) c_56_1)
          refine lv_iconst (v := nI 0) hx hb xd_Pa_readFrom_63 (by decide) ?_
          have hP9 : va_P G xk_cl [(pa, .inr (5, [.ref pk, .int (nI (pt_n tn cnt at_ 8))])), (pk, .inl (cA 0, 8, .inl (tx_A (pk_K kn tn at_ (pt_n tn cnt at_ 8))))), (t, .inr (1, [.ref tc, .int (nI cnt), .int (nI (at_ + pt_n tn cnt at_ 8))])), (tc, .inl (cA 1, 300, .inl (tx_A tn)))] _ := hP.sub [0, 1, 2, 3] rfl
          have hD9 : va_D A [(pa, .inr (5, [.ref pk, .int (nI (pt_n tn cnt at_ 8))])), (pk, .inl (cA 0, 8, .inl (tx_A (pk_K kn tn at_ (pt_n tn cnt at_ 8))))), (t, .inr (1, [.ref tc, .int (nI cnt), .int (nI (at_ + pt_n tn cnt at_ 8))])), (tc, .inl (cA 1, 300, .inl (tx_A tn)))] := hD.sub [0, 1, 2, 3] (by decide) rfl
          exact W.zret (v := nI 0) (ty := .boolean) hx hb hr (by decide) (fun T9 ht hW => ⟨⟨_, (), rfl, by rw [if_pos q_l], by rw [ht]; exact hP9, hD9⟩, hS.F ht⟩) hS.2.2 xd_Pa_readFrom_64
        · have q_l : ¬ pt_n tn cnt at_ 8 = 0 := fun z => c_56_1 (by rw [z]; decide)
          refine lv_iconst (v := nI 1) hx hb xd_Pa_readFrom_59 (by decide) ?_
          refine lv_goto (tgt := 64) hx hb xd_Pa_readFrom_60 (by decide) ?_
          have hP9 : va_P G xk_cl [(pa, .inr (5, [.ref pk, .int (nI (pt_n tn cnt at_ 8))])), (pk, .inl (cA 0, 8, .inl (tx_A (pk_K kn tn at_ (pt_n tn cnt at_ 8))))), (t, .inr (1, [.ref tc, .int (nI cnt), .int (nI (at_ + pt_n tn cnt at_ 8))])), (tc, .inl (cA 1, 300, .inl (tx_A tn)))] _ := hP.sub [0, 1, 2, 3] rfl
          have hD9 : va_D A [(pa, .inr (5, [.ref pk, .int (nI (pt_n tn cnt at_ 8))])), (pk, .inl (cA 0, 8, .inl (tx_A (pk_K kn tn at_ (pt_n tn cnt at_ 8))))), (t, .inr (1, [.ref tc, .int (nI cnt), .int (nI (at_ + pt_n tn cnt at_ 8))])), (tc, .inl (cA 1, 300, .inl (tx_A tn)))] := hD.sub [0, 1, 2, 3] (by decide) rfl
          exact W.zret (v := nI 1) (ty := .boolean) hx hb hr (by decide) (fun T9 ht hW => ⟨⟨_, (), rfl, by rw [if_neg q_l], by rw [ht]; exact hP9, hD9⟩, hS.F ht⟩) hS.2.2 xd_Pa_readFrom_64
      · have e_i := nI_gnl (by omega) (by omega) c_13_0
        refine lv_aload_n hx hb xd_Pa_readFrom_16 rfl (lv_at hl 1 rfl) ?_
        have hPc := hP.sub (ws' := [(t, .inr (1, [.ref tc, .int (nI cnt), .int (nI (at_ + i))])), (tc, .inl (cA 1, 300, .inl (tx_A tn)))]) [2, 3] rfl
        have hDc := hD.sub (ws' := [(t, .inr (1, [.ref tc, .int (nI cnt), .int (nI (at_ + i))])), (tc, .inl (cA 1, 300, .inl (tx_A tn)))]) [2, 3] (by decide) rfl
        have hFc := va_free (wc := [(t, .inr (1, [.ref tc, .int (nI cnt), .int (nI (at_ + i))])), (tc, .inl (cA 1, 300, .inl (tx_A tn)))]) hD hS hA [2, 3] rfl
        refine va_calli (va_runV (As := []) (rest := []) ⟨hx, hb, hml, hown, hts⟩ (ct_Te_takeLetter l G cA H.size t tc tn cnt (at_ + i) (by omega) (by omega) (by omega)) (cwV 0 hts (gi_v xm_245 xm_246 xm_247 xm_2 xm_248) rfl rfl rfl ⟨rfl, xh_Te_takeLetter⟩ ⟨Nat.le_of_ble_eq_true rfl, Nat.le_of_ble_eq_true rfl⟩) (pv_w hK hPc hDc (ci := 1) (q0 := 0) rfl rfl) rfl rfl hl.1 rfl (lv_room (Nat.le_of_ble_eq_true rfl)) xd_Pa_readFrom_17 ⟨Nat.le_of_ble_eq_true rfl, Nat.le_of_ble_eq_true rfl⟩) hS (fun q _ h => hFc q h) hFc (fun r_3 u9 t9 H1 locs ht hvm q_4 hB hz1 hk1 hS => ?_)
        obtain ⟨hP1, hD1⟩ := hB
        rw [ht] at hP1
        obtain ⟨hP, hD⟩ := va_join (wr := [(pa, .inr (5, [.ref pk, .int (nI i)])), (pk, .inl (cA 0, 8, .inl (tx_A (pk_K kn tn at_ i))))]) (w1 := [(t, .inr (1, [.ref tc, .int (nI cnt), .int (nI (lt_A tn cnt (at_ + i)))])), (tc, .inl (cA 1, 300, .inl (tx_A tn)))]) hP hD [2, 3] [0, 1] rfl rfl (by decide) (by decide) hk1 hFc hP1 hD1
        generalize H1 = H at hP hS ⊢
        have hP : va_P G xk_cl [(pa, .inr (5, [.ref pk, .int (nI i)])), (pk, .inl (cA 0, 8, .inl (tx_A (pk_K kn tn at_ i)))), (t, .inr (1, [.ref tc, .int (nI cnt), .int (nI (lt_A tn cnt (at_ + i)))])), (tc, .inl (cA 1, 300, .inl (tx_A tn)))] H := hP
        have hD : va_D A [(pa, .inr (5, [.ref pk, .int (nI i)])), (pk, .inl (cA 0, 8, .inl (tx_A (pk_K kn tn at_ i)))), (t, .inr (1, [.ref tc, .int (nI cnt), .int (nI (lt_A tn cnt (at_ + i)))])), (tc, .inl (cA 1, 300, .inl (tx_A tn)))] := hD
        refine lx_top (z := lt_R tn cnt (at_ + i)) (q_4) ?_
        by_cases q_d : lt_P tn cnt (at_ + i)
        · refine lx_top (z := nI (tn (at_ + i) - 97)) (by rw [lt_R, if_pos q_d]) ?_
          rw [lt_A, if_pos q_d] at hP hD
          refine lv_istore_n (lv' := [(3, .int (nI (tn (at_ + i) - 97))), (0, .ref pa), (1, .ref t), (2, .int (nI i))]) hx hb xd_Pa_readFrom_20 rfl hl (by decide) rfl (fun ls hl => ?_)
          refine lv_iload_n hx hb xd_Pa_readFrom_21 rfl (lv_at hl 0 rfl) ?_
          refine lv_iconst (v := (-1)) hx hb xd_Pa_readFrom_22 (by decide) ?_
          refine lv_icmp_ne (tgt := 29) hx hb xd_Pa_readFrom_23 (by decide) (fun c_23_4 => ?_) (fun c_23_4 => absurd c_23_4 (nI_nm (by have := hv (at_ + i); omega)))
          refine lv_aload_n hx hb xd_Pa_readFrom_29 rfl (lv_at hl 1 rfl) ?_
          refine va_get (D := G) (ci := 5) (v := .ref pk) (C := xc_Pa) (T := xf_Pa) (N := 2) hx hb hts xw_Pa hown hK.1 hP 0 rfl rfl 0 (by decide) (hts _ xm_76) (fun _ h9 => h9) rfl xd_Pa_readFrom_30 ?_
          refine lv_iload_n hx hb xd_Pa_readFrom_33 rfl (lv_at hl 3 rfl) ?_
          refine lv_iload_n hx hb xd_Pa_readFrom_34 rfl (lv_at hl 0 rfl) ?_
          refine wx_iast hx hb hK.1 hP hD hS 1 0 rfl rfl (k := i) (z := nI (tn (at_ + i) - 97)) (rfl) (by omega) (by decide) xd_Pa_readFrom_35 (fun H locs hP hD hS => ?_)
          have hP : va_P G xk_cl [(pa, .inr (5, [.ref pk, .int (nI i)])), (pk, .inl (cA 0, 8, .inl (upd (tx_A (pk_K kn tn at_ i)) i (nI (tn (at_ + i) - 97))))), (t, .inr (1, [.ref tc, .int (nI cnt), .int (nI (at_ + i + 1))])), (tc, .inl (cA 1, 300, .inl (tx_A tn)))] H := hP
          have hD : va_D A [(pa, .inr (5, [.ref pk, .int (nI i)])), (pk, .inl (cA 0, 8, .inl (upd (tx_A (pk_K kn tn at_ i)) i (nI (tn (at_ + i) - 97))))), (t, .inr (1, [.ref tc, .int (nI cnt), .int (nI (at_ + i + 1))])), (tc, .inl (cA 1, 300, .inl (tx_A tn)))] := hD
          have hP : va_P G xk_cl [(pa, .inr (5, [.ref pk, .int (nI i)])), (pk, .inl (cA 0, 8, .inl (tx_A (pk_K kn tn at_ (i + 1))))), (t, .inr (1, [.ref tc, .int (nI cnt), .int (nI (at_ + (i + 1)))])), (tc, .inl (cA 1, 300, .inl (tx_A tn)))] H := by rw [pk_K_s, ← tx_up, ← Nat.add_assoc]; exact hP
          have hD : va_D A [(pa, .inr (5, [.ref pk, .int (nI i)])), (pk, .inl (cA 0, 8, .inl (tx_A (pk_K kn tn at_ (i + 1))))), (t, .inr (1, [.ref tc, .int (nI cnt), .int (nI (at_ + (i + 1)))])), (tc, .inl (cA 1, 300, .inl (tx_A tn)))] := by rw [pk_K_s, ← tx_up, ← Nat.add_assoc]; exact hD
          refine lv_aload_n hx hb xd_Pa_readFrom_36 rfl (lv_at hl 1 rfl) ?_
          refine lv_dup hx hb xd_Pa_readFrom_37 rfl ?_
          refine va_get (D := G) (ci := 5) (v := .int (nI i)) (C := xc_Pa) (T := xf_Pa) (N := 2) hx hb hts xw_Pa hown hK.1 hP 0 rfl rfl 1 (by decide) (hts _ xm_77) (fun _ h9 => h9) rfl xd_Pa_readFrom_38 ?_
          refine lv_iconst (v := nI 1) hx hb xd_Pa_readFrom_41 (by decide) ?_
          refine lx_iadd (z := nI (i + 1)) hx hb xd_Pa_readFrom_42 (nI_add _ _) ?_
          refine va_put (D := G) (ci := 5) (v := .int (nI (i + 1))) (ty := .int) (C := xc_Pa) (T := xf_Pa) (N := 2) hx hb hts xw_Pa xt_Pa xt_Pa_ok xn_Pa hown hK.1 hP hD hS 0 rfl rfl 1 (by decide) (hts _ xm_77) (fun _ h9 => h9) rfl (by decide +kernel) rfl rfl (Nat.le_of_ble_eq_true rfl) xd_Pa_readFrom_43 (fun H locs hP hD hS => ?_)
          have hP : va_P G xk_cl [(pa, .inr (5, [.ref pk, .int (nI (i + 1))])), (pk, .inl (cA 0, 8, .inl (tx_A (pk_K kn tn at_ (i + 1))))), (t, .inr (1, [.ref tc, .int (nI cnt), .int (nI (at_ + (i + 1)))])), (tc, .inl (cA 1, 300, .inl (tx_A tn)))] H := hP
          have hD : va_D A [(pa, .inr (5, [.ref pk, .int (nI (i + 1))])), (pk, .inl (cA 0, 8, .inl (tx_A (pk_K kn tn at_ (i + 1))))), (t, .inr (1, [.ref tc, .int (nI cnt), .int (nI (at_ + (i + 1)))])), (tc, .inl (cA 1, 300, .inl (tx_A tn)))] := hD
          refine lv_iinc (v := nI (i + 1)) (lv' := [(2, .int (nI (i + 1))), (3, .int (nI (tn (at_ + i) - 97))), (0, .ref pa), (1, .ref t)]) hx hb xd_Pa_readFrom_46 hl (k := 3) rfl (nI_inc _) (by decide) rfl (fun ls hl => ?_)
          refine lv_goto (tgt := 7) hx hb xd_Pa_readFrom_49 (by decide) ?_
          exact ih_lp (i + 1) (by omega) (by omega) (pt_n_t hn q_d) (by omega) _ _ (hP.sub [0, 1, 2, 3] rfl) (hD.sub [0, 1, 2, 3] (by decide) rfl) hS ls (lv_sub hl [2, 3, 0] rfl)
        · refine lx_top (z := (-1)) (by rw [lt_R, if_neg q_d]) ?_
          rw [lt_A, if_neg q_d] at hP hD
          have q_n := pt_n_f hn q_d 8 (by omega)
          refine lv_istore_n (lv' := [(3, .int (-1)), (0, .ref pa), (1, .ref t), (2, .int (nI i))]) hx hb xd_Pa_readFrom_20 rfl hl (by decide) rfl (fun ls hl => ?_)
          refine lv_iload_n hx hb xd_Pa_readFrom_21 rfl (lv_at hl 0 rfl) ?_
          refine lv_iconst (v := (-1)) hx hb xd_Pa_readFrom_22 (by decide) ?_
          refine lv_icmp_ne (tgt := 29) hx hb xd_Pa_readFrom_23 (by decide) (fun c_23_5 => absurd (by decide) c_23_5) (fun c_23_5 => ?_)
          refine lv_goto (tgt := 52) hx hb xd_Pa_readFrom_26 (by decide) ?_
          have hP : va_P G xk_cl [(pa, .inr (5, [.ref pk, .int (nI (pt_n tn cnt at_ 8))])), (pk, .inl (cA 0, 8, .inl (tx_A (pk_K kn tn at_ (pt_n tn cnt at_ 8))))), (t, .inr (1, [.ref tc, .int (nI cnt), .int (nI (at_ + pt_n tn cnt at_ 8))])), (tc, .inl (cA 1, 300, .inl (tx_A tn)))] H := by rw [q_n]; exact hP
          have hD : va_D A [(pa, .inr (5, [.ref pk, .int (nI (pt_n tn cnt at_ 8))])), (pk, .inl (cA 0, 8, .inl (tx_A (pk_K kn tn at_ (pt_n tn cnt at_ 8))))), (t, .inr (1, [.ref tc, .int (nI cnt), .int (nI (at_ + pt_n tn cnt at_ 8))])), (tc, .inl (cA 1, 300, .inl (tx_A tn)))] := by rw [q_n]; exact hD
          refine lv_aload_n hx hb xd_Pa_readFrom_52 rfl (lv_at hl 1 rfl) ?_
          refine va_get (D := G) (ci := 5) (v := .int (nI (pt_n tn cnt at_ 8))) (C := xc_Pa) (T := xf_Pa) (N := 2) hx hb hts xw_Pa hown hK.1 hP 0 rfl rfl 1 (by decide) (hts _ xm_77) (fun _ h9 => h9) rfl xd_Pa_readFrom_53 ?_
          refine lv_if_le (tgt := 63) hx hb xd_Pa_readFrom_56 (by decide) (fun c_56_6 => ?_) (fun c_56_6 => ?_)
          · have q_l : pt_n tn cnt at_ 8 = 0 := Nat.le_zero.mp (nI_gle (by rw [q_n]; omega) (by decide) c_56_6)
            refine lv_iconst (v := nI 0) hx hb xd_Pa_readFrom_63 (by decide) ?_
            have hP9 : va_P G xk_cl [(pa, .inr (5, [.ref pk, .int (nI (pt_n tn cnt at_ 8))])), (pk, .inl (cA 0, 8, .inl (tx_A (pk_K kn tn at_ (pt_n tn cnt at_ 8))))), (t, .inr (1, [.ref tc, .int (nI cnt), .int (nI (at_ + pt_n tn cnt at_ 8))])), (tc, .inl (cA 1, 300, .inl (tx_A tn)))] _ := hP.sub [0, 1, 2, 3] rfl
            have hD9 : va_D A [(pa, .inr (5, [.ref pk, .int (nI (pt_n tn cnt at_ 8))])), (pk, .inl (cA 0, 8, .inl (tx_A (pk_K kn tn at_ (pt_n tn cnt at_ 8))))), (t, .inr (1, [.ref tc, .int (nI cnt), .int (nI (at_ + pt_n tn cnt at_ 8))])), (tc, .inl (cA 1, 300, .inl (tx_A tn)))] := hD.sub [0, 1, 2, 3] (by decide) rfl
            exact W.zret (v := nI 0) (ty := .boolean) hx hb hr (by decide) (fun T9 ht hW => ⟨⟨_, (), rfl, by rw [if_pos q_l], by rw [ht]; exact hP9, hD9⟩, hS.F ht⟩) hS.2.2 xd_Pa_readFrom_64
          · have q_l : ¬ pt_n tn cnt at_ 8 = 0 := fun z => c_56_6 (by rw [z]; decide)
            refine lv_iconst (v := nI 1) hx hb xd_Pa_readFrom_59 (by decide) ?_
            refine lv_goto (tgt := 64) hx hb xd_Pa_readFrom_60 (by decide) ?_
            have hP9 : va_P G xk_cl [(pa, .inr (5, [.ref pk, .int (nI (pt_n tn cnt at_ 8))])), (pk, .inl (cA 0, 8, .inl (tx_A (pk_K kn tn at_ (pt_n tn cnt at_ 8))))), (t, .inr (1, [.ref tc, .int (nI cnt), .int (nI (at_ + pt_n tn cnt at_ 8))])), (tc, .inl (cA 1, 300, .inl (tx_A tn)))] _ := hP.sub [0, 1, 2, 3] rfl
            have hD9 : va_D A [(pa, .inr (5, [.ref pk, .int (nI (pt_n tn cnt at_ 8))])), (pk, .inl (cA 0, 8, .inl (tx_A (pk_K kn tn at_ (pt_n tn cnt at_ 8))))), (t, .inr (1, [.ref tc, .int (nI cnt), .int (nI (at_ + pt_n tn cnt at_ 8))])), (tc, .inl (cA 1, 300, .inl (tx_A tn)))] := hD.sub [0, 1, 2, 3] (by decide) rfl
            exact W.zret (v := nI 1) (ty := .boolean) hx hb hr (by decide) (fun T9 ht hW => ⟨⟨_, (), rfl, by rw [if_neg q_l], by rw [ht]; exact hP9, hD9⟩, hS.F ht⟩) hS.2.2 xd_Pa_readFrom_64
  exact lp ((8 - 0) + 1) 0 (by omega) (by omega) rfl (Nat.lt_succ_self _) _ _ (hP.sub [0, 1, 2, 3] rfl) (hD.sub [0, 1, 2, 3] (by decide) rfl) hS ls (lv_sub hl [1, 2, 0] rfl)
