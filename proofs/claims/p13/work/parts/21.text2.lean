abbrev dg_D (tn : Nat → Nat) (cnt a : Nat) : Prop := a < cnt ∧ 48 ≤ tn a ∧ tn a ≤ 57
def dg_n (tn : Nat → Nat) (cnt a : Nat) : Nat → Nat
  | 0 => 0
  | m + 1 => if dg_n tn cnt a m = m ∧ dg_D tn cnt (a + m) then m + 1 else dg_n tn cnt a m
def dg_v (tn : Nat → Nat) (a : Nat) : Nat → Nat
  | 0 => 0
  | n + 1 => dg_v tn a n * 10 + (tn (a + n) - 48)
theorem dg_n_t {tn : Nat → Nat} {cnt a m : Nat} (h : dg_n tn cnt a m = m) (hd : dg_D tn cnt (a + m)) : dg_n tn cnt a (m + 1) = m + 1 := by rw [dg_n, if_pos ⟨h, hd⟩]
theorem dg_n_f {tn : Nat → Nat} {cnt a m : Nat} (h : dg_n tn cnt a m = m) (hd : ¬ dg_D tn cnt (a + m)) : ∀ k, m ≤ k → dg_n tn cnt a k = m := by
  intro k hk
  induction k with
  | zero => rw [show m = 0 by omega]; rfl
  | succ k ih =>
    by_cases e : m = k + 1
    · rw [← e]; exact h
    · have e2 := ih (by omega)
      rw [dg_n, e2, if_neg]
      intro z
      have : m = k := z.1
      rw [← this] at z
      exact hd z.2
theorem dg_n_le (tn : Nat → Nat) (cnt a : Nat) : ∀ m, dg_n tn cnt a m ≤ m
  | 0 => Nat.le_refl _
  | m + 1 => by
    have := dg_n_le tn cnt a m
    unfold dg_n
    split <;> omega
theorem dg_n_cnt (tn : Nat → Nat) (cnt a : Nat) (h : a ≤ cnt) : ∀ m, a + dg_n tn cnt a m ≤ cnt
  | 0 => h
  | m + 1 => by
    have := dg_n_cnt tn cnt a h m
    unfold dg_n
    split
    · rename_i q; have := q.2.1; omega
    · exact this
theorem dg_v_le (tn : Nat → Nat) (a : Nat) (hv : ∀ j, tn j < 128) : ∀ n, dg_v tn a n < 100 ^ n
  | 0 => Nat.one_pos
  | n + 1 => by
    have h1 := dg_v_le tn a hv n
    have h2 := hv (a + n)
    unfold dg_v
    rw [Nat.pow_succ]
    omega
def dg_R (tn : Nat → Nat) (cnt a m : Nat) : Int32 := if dg_n tn cnt a m = 0 then -1 else nI (dg_v tn a (dg_n tn cnt a m))
def dg_s (tn : Nat → Nat) (a i : Nat) : Int32 := if i = 0 then -1 else nI (dg_v tn a i)
def cl_A (tn : Nat → Nat) (cnt a : Nat) : Nat := if tk_P tn cnt a 35 then a + 1 + dg_n tn cnt (a + 1) 2 else if tk_P tn cnt a 45 then a + 1 + dg_n tn cnt (a + 1) 5 else a + dg_n tn cnt a 5
def cl_R (tn : Nat → Nat) (cnt a : Nat) : Int32 := if tk_P tn cnt a 35 then (if dg_n tn cnt (a + 1) 2 = 0 then nI 0 else en_C (nI 2) (nI (dg_v tn (a + 1) (dg_n tn cnt (a + 1) 2)))) else if tk_P tn cnt a 45 then (if dg_n tn cnt (a + 1) 5 = 0 then nI 0 else en_C (nI 1) (-nI (dg_v tn (a + 1) (dg_n tn cnt (a + 1) 5)))) else (if dg_n tn cnt a 5 = 0 then nI 0 else en_C (nI 1) (nI (dg_v tn a (dg_n tn cnt a 5))))
def ap_R (cnt : Nat) (x : Int32) : Int32 := if ¬ x < nI 32 ∧ ¬ nI 126 < x ∧ cnt < 300 then nI 1 else nI 0
def ap_C (cnt : Nat) (x : Int32) : Nat := if ¬ x < nI 32 ∧ ¬ nI 126 < x ∧ cnt < 300 then cnt + 1 else cnt
def ap_T (tn : Nat → Nat) (cnt : Nat) (x : Int32) : Nat → Nat := if ¬ x < nI 32 ∧ ¬ nI 126 < x ∧ cnt < 300 then un_N tn cnt x.toNatClampNeg else tn
theorem ap_N {x : Int32} (h1 : ¬ x < nI 32) (h2 : ¬ nI 126 < x) : x = nI x.toNatClampNeg ∧ 32 ≤ x.toNatClampNeg ∧ x.toNatClampNeg ≤ 126 := by
  have h0 : ¬ x < 0 := fun z => h1 (Int32.lt_trans z (by decide))
  obtain ⟨j, hj, rfl⟩ := nI_of h0
  rw [nI_clamp hj]
  exact ⟨rfl, nI_gnlt hj (by decide) h1, nI_gnlt (by decide) hj h2⟩
theorem ap_ch {n : Nat} (h : n ≤ 126) : ((nI n).toUInt32 % 65536).toInt32 = nI n := by
  rw [pk_char, pk_tn (by omega), Nat.mod_eq_of_lt (by omega)]

set_option maxHeartbeats 4000000 in
set_option maxRecDepth 100000 in
theorem ct_Te_takeDigits (l : Launch) (G : va_G) (cA : Nat → ClassId) (sz : Nat) (t : Nat) (tc : Nat) (tn : Nat → Nat) (cnt : Nat) (at_ : Nat) (hc : cnt ≤ 300) (ha : at_ ≤ 300) (hv : ∀ j, tn j < 128) (mo : Nat) (hm : mo ≤ 5) (hac : at_ ≤ cnt) : Met l xy_Te_takeDigits (.code xy_Te_takeDigits xb_Te_takeDigits 5 (some .int) :: tw_W) ({ frames := 1, cells := 0, slots := 0, locals := 20 }) (pc_w G cA [(t, .inr (1, [.ref tc, .int (nI cnt), .int (nI at_)])), (tc, .inl (cA 1, 300, .inl (tx_A tn)))] sz [.ref t, .int (nI mo)]) (va_Qi (fun (r : Int32) (_ : Unit) => r = dg_R tn cnt at_ mo) (fun _ T9 => at_w G (va_A [(t, .inr (1, [.ref tc, .int (nI cnt), .int (nI at_)])), (tc, .inl (cA 1, 300, .inl (tx_A tn)))] sz) [(t, .inr (1, [.ref tc, .int (nI cnt), .int (nI (at_ + dg_n tn cnt at_ mo))])), (tc, .inl (cA 1, 300, .inl (tx_A tn)))] T9) (va_A [(t, .inr (1, [.ref tc, .int (nI cnt), .int (nI at_)])), (tc, .inl (cA 1, 300, .inl (tx_A tn)))] sz)) 0 0 (va_A [(t, .inr (1, [.ref tc, .int (nI cnt), .int (nI at_)])), (tc, .inl (cA 1, 300, .inl (tx_A tn)))] sz) := by
  refine Met.ofW (cc := xb_Te_takeDigits) (maxL := 5) (ret := (some .int)) (by decide) rfl ?_
  intro p e s m args below meth c s₁ B hml hv
  obtain ⟨rfl, hsz, hK, hP, hD0⟩ := hv
  have hx := B.exec
  have hb := B.bytes
  have hr := B.returns
  have hts0 := atoms_spec (ws := .code xy_Te_takeDigits xb_Te_takeDigits 5 (some .int) :: tw_W) B.pre
  have hts : ∀ w9 ∈ tw_W, w9.before [.ref t, .int (nI mo)].toArray s = true := fun w9 h9 => hts0 w9 (List.mem_cons_of_mem _ h9)
  have hown : s.vm.findClass xc_Te = some m.cls := findClass_of_methodNamed B.named
  have hlocks := B.notSynchronized
  subst hsz
  have hD := hD0.self (sz := s.heap.size)
  generalize hAe : va_A [(t, .inr (1, [.ref tc, .int (nI cnt), .int (nI at_)])), (tc, .inl (cA 1, 300, .inl (tx_A tn)))] s.heap.size = A at hD ⊢
  have hA : ∀ q : Nat, s.heap.size ≤ q → A q := fun q h => by rw [← hAe]; exact Or.inr h
  have hS : va_S A s.heap s.heap [] := va_S.rf
  have hP : va_P G xk_cl [(t, .inr (1, [.ref tc, .int (nI cnt), .int (nI at_)])), (tc, .inl (cA 1, 300, .inl (tx_A tn)))] s.heap := hP
  have hl := lv_entry ([.ref t, .int (nI mo)]) (n := 5) (Nat.le_of_ble_eq_true rfl)
  rw [lg_entry_eq]
  generalize (lg_sl ([.ref t, .int (nI mo)]) ++ List.replicate (5 - (lg_sl ([.ref t, .int (nI mo)])).length) Slot.unset).toArray = ls at hl ⊢
  have hl : lv_has ls 5 [(0, .ref t), (1, .int (nI mo))] := hl
  refine lv_iconst (v := (-1)) hx hb xd_Te_takeDigits_0 (by decide) ?_
  refine lv_istore_n (lv' := [(2, .int (-1)), (0, .ref t), (1, .int (nI mo))]) hx hb xd_Te_takeDigits_1 rfl hl (by decide) rfl (fun ls hl => ?_)
  refine lv_iconst (v := nI 0) hx hb xd_Te_takeDigits_2 (by decide) ?_
  refine lv_istore_n (lv' := [(3, .int (nI 0)), (2, .int (-1)), (0, .ref t), (1, .int (nI mo))]) hx hb xd_Te_takeDigits_3 rfl hl (by decide) rfl (fun ls hl => ?_)
  have hl : lv_has ls 5 [(3, .int (nI 0)), (2, .int (dg_s tn at_ 0)), (0, .ref t), (1, .int (nI mo))] := hl
  have hP : va_P G xk_cl [(t, .inr (1, [.ref tc, .int (nI cnt), .int (nI (at_ + 0))])), (tc, .inl (cA 1, 300, .inl (tx_A tn)))] s.heap := by rw [Nat.add_zero]; exact hP
  have hD : va_D A [(t, .inr (1, [.ref tc, .int (nI cnt), .int (nI (at_ + 0))])), (tc, .inl (cA 1, 300, .inl (tx_A tn)))] := by rw [Nat.add_zero]; exact hD
  have lp : ∀ (k_lp : Nat) (i : Nat), (i ≤ mo) → (at_ + i ≤ cnt) → (dg_n tn cnt at_ i = i) → mo - i < k_lp → ∀ (H : Heap) (locs : List Loc), va_P G xk_cl [(t, .inr (1, [.ref tc, .int (nI cnt), .int (nI (at_ + i))])), (tc, .inl (cA 1, 300, .inl (tx_A tn)))] H → va_D A [(t, .inr (1, [.ref tc, .int (nI cnt), .int (nI (at_ + i))])), (tc, .inl (cA 1, 300, .inl (tx_A tn)))] → va_S A s.heap H locs → ∀ (ls : Array Slot), lv_has ls 5 [(0, .ref t), (1, .int (nI mo)), (2, .int (dg_s tn at_ i)), (3, .int (nI i))] → W p l e (headSpec (.code xy_Te_takeDigits xb_Te_takeDigits 5 (some .int) :: tw_W) ({ frames := 1, cells := 0, slots := 0, locals := 20 })).room s m ([.ref t, .int (nI mo)] : List Value).toArray below meth c H locs 0 0 (MQ below (va_Qi (fun (r : Int32) (_ : Unit) => r = dg_R tn cnt at_ mo) (fun _ T9 => at_w G A [(t, .inr (1, [.ref tc, .int (nI cnt), .int (nI (at_ + dg_n tn cnt at_ mo))])), (tc, .inl (cA 1, 300, .inl (tx_A tn)))] T9) A) ([.ref t, .int (nI mo)] : List Value).toArray s 0 0 A) (F0 m 4 ls []) := by
    intro k_lp
    induction k_lp with
    | zero =>
      intro i hi hic hn hk_lp
      exact absurd hk_lp (Nat.not_lt_zero _)
    | succ k_lp ih_lp =>
      intro i hi hic hn hk_lp H locs hP hD hS ls hl
      refine lv_iload_n hx hb xd_Te_takeDigits_4 rfl (lv_at hl 3 rfl) ?_
      refine lv_iload_n hx hb xd_Te_takeDigits_5 rfl (lv_at hl 1 rfl) ?_
      refine lv_icmp_ge (tgt := 68) hx hb xd_Te_takeDigits_6 (by decide) (fun c_6_0 => ?_) (fun c_6_0 => ?_)
      · have e_i : i = mo := Nat.le_antisymm hi (nI_gle (by omega) (by omega) c_6_0)
        have q_n : dg_n tn cnt at_ mo = i := by rw [← e_i]; exact hn
        have hP : va_P G xk_cl [(t, .inr (1, [.ref tc, .int (nI cnt), .int (nI (at_ + dg_n tn cnt at_ mo))])), (tc, .inl (cA 1, 300, .inl (tx_A tn)))] H := by rw [q_n]; exact hP
        have hD : va_D A [(t, .inr (1, [.ref tc, .int (nI cnt), .int (nI (at_ + dg_n tn cnt at_ mo))])), (tc, .inl (cA 1, 300, .inl (tx_A tn)))] := by rw [q_n]; exact hD
        refine lv_iload_n hx hb xd_Te_takeDigits_68 rfl (lv_at hl 2 rfl) ?_
        have hP9 : va_P G xk_cl [(t, .inr (1, [.ref tc, .int (nI cnt), .int (nI (at_ + dg_n tn cnt at_ mo))])), (tc, .inl (cA 1, 300, .inl (tx_A tn)))] _ := hP.sub [0, 1] rfl
        have hD9 : va_D A [(t, .inr (1, [.ref tc, .int (nI cnt), .int (nI (at_ + dg_n tn cnt at_ mo))])), (tc, .inl (cA 1, 300, .inl (tx_A tn)))] := hD.sub [0, 1] (by decide) rfl
        exact W.iret (v := dg_s tn at_ i) hx hb hr (fun T9 ht hW => ⟨⟨_, (), rfl, by rw [dg_R, q_n, dg_s], by rw [ht]; exact hP9, hD9⟩, hS.F ht⟩) hS.2.2 xd_Te_takeDigits_69
      · have e_i := nI_gnl (by omega) (by omega) c_6_0
        refine lv_aload_n hx hb xd_Te_takeDigits_9 rfl (lv_at hl 0 rfl) ?_
        have hPc := hP
        refine vp_callSi (va_Run.run (va_runV (As := []) (rest := []) ⟨hx, hb, hml, hown, hts⟩ (ct_Te_peek l G cA t tc tn cnt (at_ + i) (by omega) (by omega)) (cwV 0 hts (gi_v xm_221 xm_223 xs_Te_peek xm_2 xm_224) rfl rfl rfl ⟨rfl, xh_Te_peek⟩ ⟨Nat.le_of_ble_eq_true rfl, Nat.le_of_ble_eq_true rfl⟩) (pv_r hK hPc (ci := 1) (q0 := 0) rfl rfl) rfl rfl hl.1 rfl (lv_room (Nat.le_of_ble_eq_true rfl)) xd_Te_takeDigits_10 ⟨Nat.le_of_ble_eq_true rfl, Nat.le_of_ble_eq_true rfl⟩)) (fun r_2 q_3 => ?_)
        refine lx_top (z := sp_pk tn cnt (at_ + i)) (q_3) ?_
        by_cases q_a : at_ + i < cnt
        · refine lx_top (z := nI (tn (at_ + i))) (sp_pk_t q_a) ?_
          refine lv_istore (lv' := [(4, .int (nI (tn (at_ + i)))), (0, .ref t), (1, .int (nI mo)), (2, .int (dg_s tn at_ i)), (3, .int (nI i))]) hx hb xd_Te_takeDigits_13 hl (by decide) rfl (fun ls hl => ?_)
          refine lv_iload hx hb xd_Te_takeDigits_15 (lv_at hl 0 rfl) ?_
          refine lv_bipush (v := nI 48) hx hb xd_Te_takeDigits_17 (by decide) ?_
          refine lv_icmp_lt (tgt := 68) hx hb xd_Te_takeDigits_19 (by decide) (fun c_19_3 => ?_) (fun c_19_3 => ?_)
          · have q_c := nI_gl (by have := hv (at_ + i); omega) (by decide) c_19_3
            have q_d : ¬ dg_D tn cnt (at_ + i) := fun z => by omega
            have q_n := dg_n_f hn q_d mo (by omega)
            have hP : va_P G xk_cl [(t, .inr (1, [.ref tc, .int (nI cnt), .int (nI (at_ + dg_n tn cnt at_ mo))])), (tc, .inl (cA 1, 300, .inl (tx_A tn)))] H := by rw [q_n]; exact hP
            have hD : va_D A [(t, .inr (1, [.ref tc, .int (nI cnt), .int (nI (at_ + dg_n tn cnt at_ mo))])), (tc, .inl (cA 1, 300, .inl (tx_A tn)))] := by rw [q_n]; exact hD
            refine lv_iload_n hx hb xd_Te_takeDigits_68 rfl (lv_at hl 3 rfl) ?_
            have hP9 : va_P G xk_cl [(t, .inr (1, [.ref tc, .int (nI cnt), .int (nI (at_ + dg_n tn cnt at_ mo))])), (tc, .inl (cA 1, 300, .inl (tx_A tn)))] _ := hP.sub [0, 1] rfl
            have hD9 : va_D A [(t, .inr (1, [.ref tc, .int (nI cnt), .int (nI (at_ + dg_n tn cnt at_ mo))])), (tc, .inl (cA 1, 300, .inl (tx_A tn)))] := hD.sub [0, 1] (by decide) rfl
            exact W.iret (v := dg_s tn at_ i) hx hb hr (fun T9 ht hW => ⟨⟨_, (), rfl, by rw [dg_R, q_n, dg_s], by rw [ht]; exact hP9, hD9⟩, hS.F ht⟩) hS.2.2 xd_Te_takeDigits_69
          · have q_c := nI_gnlt (by have := hv (at_ + i); omega) (by decide) c_19_3
            refine lv_iload hx hb xd_Te_takeDigits_22 (lv_at hl 0 rfl) ?_
            refine lv_bipush (v := nI 57) hx hb xd_Te_takeDigits_24 (by decide) ?_
            refine lv_icmp_le (tgt := 32) hx hb xd_Te_takeDigits_26 (by decide) (fun c_26_4 => ?_) (fun c_26_4 => ?_)
            · have q_e := nI_gle (by have := hv (at_ + i); omega) (by decide) c_26_4
              have q_d : dg_D tn cnt (at_ + i) := ⟨q_a, q_c, q_e⟩
              have q_v := dg_v_le tn at_ hv i
              have q_w : 100 ^ i ≤ 100 ^ 4 := Nat.pow_le_pow_right (by decide) (by omega)
              by_cases q_z : i = 0
              · have hl : lv_has ls 5 [(4, .int (nI (tn (at_ + i)))), (0, .ref t), (1, .int (nI mo)), (2, .int (-1)), (3, .int (nI i))] := by rw [show (-1 : Int32) = dg_s tn at_ i from (if_pos q_z).symm]; exact hl
                refine lv_iload_n hx hb xd_Te_takeDigits_32 rfl (lv_at hl 3 rfl) ?_
                refine lv_iconst (v := (-1)) hx hb xd_Te_takeDigits_33 (by decide) ?_
                refine lv_icmp_ne (tgt := 41) hx hb xd_Te_takeDigits_34 (by decide) (fun c_34_5 => absurd (by decide) c_34_5) (fun c_34_5 => ?_)
                refine lv_iconst (v := nI 0) hx hb xd_Te_takeDigits_37 (by decide) ?_
                refine lv_goto (tgt := 45) hx hb xd_Te_takeDigits_38 (by decide) ?_
                refine lv_iload hx hb xd_Te_takeDigits_45 (lv_at hl 0 rfl) ?_
                refine lv_bipush (v := nI 48) hx hb xd_Te_takeDigits_47 (by decide) ?_
                refine lx_isub (z := nI (tn (at_ + i) - 48)) hx hb xd_Te_takeDigits_49 (pk_sub (by omega)) ?_
                refine lx_iadd (z := nI (0 + (tn (at_ + i) - 48))) hx hb xd_Te_takeDigits_50 (nI_add _ _) ?_
                refine lx_top (z := dg_s tn at_ (i + 1)) (by subst q_z; rw [dg_s, if_neg (by omega), dg_v, dg_v]) ?_
                refine lv_istore_n (lv' := [(2, .int (dg_s tn at_ (i + 1))), (4, .int (nI (tn (at_ + i)))), (0, .ref t), (1, .int (nI mo)), (3, .int (nI i))]) hx hb xd_Te_takeDigits_51 rfl hl (by decide) rfl (fun ls hl => ?_)
                refine lv_aload_n hx hb xd_Te_takeDigits_52 rfl (lv_at hl 2 rfl) ?_
                refine lv_dup hx hb xd_Te_takeDigits_53 rfl ?_
                refine va_get (D := G) (ci := 1) (v := .int (nI (at_ + i))) (C := xc_Te) (T := xf_Te) (N := 3) hx hb hts xw_Te hown hK.1 hP 0 rfl rfl 2 (by decide) (hts _ xm_32) (fun _ h9 => h9) rfl xd_Te_takeDigits_54 ?_
                refine lv_iconst (v := nI 1) hx hb xd_Te_takeDigits_57 (by decide) ?_
                refine lx_iadd (z := nI (at_ + i + 1)) hx hb xd_Te_takeDigits_58 (nI_add _ _) ?_
                refine va_put (D := G) (ci := 1) (v := .int (nI (at_ + i + 1))) (ty := .int) (C := xc_Te) (T := xf_Te) (N := 3) hx hb hts xw_Te xt_Te xt_Te_ok xn_Te hown hK.1 hP hD hS 0 rfl rfl 2 (by decide) (hts _ xm_32) (fun _ h9 => h9) rfl (by decide +kernel) rfl rfl (Nat.le_of_ble_eq_true rfl) xd_Te_takeDigits_59 (fun H locs hP hD hS => ?_)
                have hP : va_P G xk_cl [(t, .inr (1, [.ref tc, .int (nI cnt), .int (nI (at_ + i + 1))])), (tc, .inl (cA 1, 300, .inl (tx_A tn)))] H := hP
                have hD : va_D A [(t, .inr (1, [.ref tc, .int (nI cnt), .int (nI (at_ + i + 1))])), (tc, .inl (cA 1, 300, .inl (tx_A tn)))] := hD
                have hP : va_P G xk_cl [(t, .inr (1, [.ref tc, .int (nI cnt), .int (nI (at_ + (i + 1)))])), (tc, .inl (cA 1, 300, .inl (tx_A tn)))] H := by rw [← Nat.add_assoc]; exact hP
                have hD : va_D A [(t, .inr (1, [.ref tc, .int (nI cnt), .int (nI (at_ + (i + 1)))])), (tc, .inl (cA 1, 300, .inl (tx_A tn)))] := by rw [← Nat.add_assoc]; exact hD
                refine lv_iinc (v := nI (i + 1)) (lv' := [(3, .int (nI (i + 1))), (2, .int (dg_s tn at_ (i + 1))), (4, .int (nI (tn (at_ + i)))), (0, .ref t), (1, .int (nI mo))]) hx hb xd_Te_takeDigits_62 hl (k := 4) rfl (nI_inc _) (by decide) rfl (fun ls hl => ?_)
                refine lv_goto (tgt := 4) hx hb xd_Te_takeDigits_65 (by decide) ?_
                exact ih_lp (i + 1) (by omega) (by omega) (dg_n_t hn q_d) (by omega) _ _ (hP.sub [0, 1] rfl) (hD.sub [0, 1] (by decide) rfl) hS ls (lv_sub hl [3, 4, 1, 0] rfl)
              · have hl : lv_has ls 5 [(4, .int (nI (tn (at_ + i)))), (0, .ref t), (1, .int (nI mo)), (2, .int (nI (dg_v tn at_ i))), (3, .int (nI i))] := by rw [show nI (dg_v tn at_ i) = dg_s tn at_ i from (if_neg q_z).symm]; exact hl
                refine lv_iload_n hx hb xd_Te_takeDigits_32 rfl (lv_at hl 3 rfl) ?_
                refine lv_iconst (v := (-1)) hx hb xd_Te_takeDigits_33 (by decide) ?_
                refine lv_icmp_ne (tgt := 41) hx hb xd_Te_takeDigits_34 (by decide) (fun c_34_6 => ?_) (fun c_34_6 => absurd c_34_6 (nI_nm (by omega)))
                refine lv_iload_n hx hb xd_Te_takeDigits_41 rfl (lv_at hl 3 rfl) ?_
                refine lv_bipush (v := nI 10) hx hb xd_Te_takeDigits_42 (by decide) ?_
                refine lx_imul (z := nI ((dg_v tn at_ i) * 10)) hx hb xd_Te_takeDigits_44 (pk_mul _ _) ?_
                refine lv_iload hx hb xd_Te_takeDigits_45 (lv_at hl 0 rfl) ?_
                refine lv_bipush (v := nI 48) hx hb xd_Te_takeDigits_47 (by decide) ?_
                refine lx_isub (z := nI (tn (at_ + i) - 48)) hx hb xd_Te_takeDigits_49 (pk_sub (by omega)) ?_
                refine lx_iadd (z := nI ((dg_v tn at_ i) * 10 + (tn (at_ + i) - 48))) hx hb xd_Te_takeDigits_50 (nI_add _ _) ?_
                refine lx_top (z := dg_s tn at_ (i + 1)) (by rw [dg_s, if_neg (by omega), dg_v]) ?_
                refine lv_istore_n (lv' := [(2, .int (dg_s tn at_ (i + 1))), (4, .int (nI (tn (at_ + i)))), (0, .ref t), (1, .int (nI mo)), (3, .int (nI i))]) hx hb xd_Te_takeDigits_51 rfl hl (by decide) rfl (fun ls hl => ?_)
                refine lv_aload_n hx hb xd_Te_takeDigits_52 rfl (lv_at hl 2 rfl) ?_
                refine lv_dup hx hb xd_Te_takeDigits_53 rfl ?_
                refine va_get (D := G) (ci := 1) (v := .int (nI (at_ + i))) (C := xc_Te) (T := xf_Te) (N := 3) hx hb hts xw_Te hown hK.1 hP 0 rfl rfl 2 (by decide) (hts _ xm_32) (fun _ h9 => h9) rfl xd_Te_takeDigits_54 ?_
                refine lv_iconst (v := nI 1) hx hb xd_Te_takeDigits_57 (by decide) ?_
                refine lx_iadd (z := nI (at_ + i + 1)) hx hb xd_Te_takeDigits_58 (nI_add _ _) ?_
                refine va_put (D := G) (ci := 1) (v := .int (nI (at_ + i + 1))) (ty := .int) (C := xc_Te) (T := xf_Te) (N := 3) hx hb hts xw_Te xt_Te xt_Te_ok xn_Te hown hK.1 hP hD hS 0 rfl rfl 2 (by decide) (hts _ xm_32) (fun _ h9 => h9) rfl (by decide +kernel) rfl rfl (Nat.le_of_ble_eq_true rfl) xd_Te_takeDigits_59 (fun H locs hP hD hS => ?_)
                have hP : va_P G xk_cl [(t, .inr (1, [.ref tc, .int (nI cnt), .int (nI (at_ + i + 1))])), (tc, .inl (cA 1, 300, .inl (tx_A tn)))] H := hP
                have hD : va_D A [(t, .inr (1, [.ref tc, .int (nI cnt), .int (nI (at_ + i + 1))])), (tc, .inl (cA 1, 300, .inl (tx_A tn)))] := hD
                have hP : va_P G xk_cl [(t, .inr (1, [.ref tc, .int (nI cnt), .int (nI (at_ + (i + 1)))])), (tc, .inl (cA 1, 300, .inl (tx_A tn)))] H := by rw [← Nat.add_assoc]; exact hP
                have hD : va_D A [(t, .inr (1, [.ref tc, .int (nI cnt), .int (nI (at_ + (i + 1)))])), (tc, .inl (cA 1, 300, .inl (tx_A tn)))] := by rw [← Nat.add_assoc]; exact hD
                refine lv_iinc (v := nI (i + 1)) (lv' := [(3, .int (nI (i + 1))), (2, .int (dg_s tn at_ (i + 1))), (4, .int (nI (tn (at_ + i)))), (0, .ref t), (1, .int (nI mo))]) hx hb xd_Te_takeDigits_62 hl (k := 4) rfl (nI_inc _) (by decide) rfl (fun ls hl => ?_)
                refine lv_goto (tgt := 4) hx hb xd_Te_takeDigits_65 (by decide) ?_
                exact ih_lp (i + 1) (by omega) (by omega) (dg_n_t hn q_d) (by omega) _ _ (hP.sub [0, 1] rfl) (hD.sub [0, 1] (by decide) rfl) hS ls (lv_sub hl [3, 4, 1, 0] rfl)
            · have q_e := nI_gnl (by have := hv (at_ + i); omega) (by decide) c_26_4
              have q_d : ¬ dg_D tn cnt (at_ + i) := fun z => by omega
              have q_n := dg_n_f hn q_d mo (by omega)
              refine lv_goto (tgt := 68) hx hb xd_Te_takeDigits_29 (by decide) ?_
              have hP : va_P G xk_cl [(t, .inr (1, [.ref tc, .int (nI cnt), .int (nI (at_ + dg_n tn cnt at_ mo))])), (tc, .inl (cA 1, 300, .inl (tx_A tn)))] H := by rw [q_n]; exact hP
              have hD : va_D A [(t, .inr (1, [.ref tc, .int (nI cnt), .int (nI (at_ + dg_n tn cnt at_ mo))])), (tc, .inl (cA 1, 300, .inl (tx_A tn)))] := by rw [q_n]; exact hD
              refine lv_iload_n hx hb xd_Te_takeDigits_68 rfl (lv_at hl 3 rfl) ?_
              have hP9 : va_P G xk_cl [(t, .inr (1, [.ref tc, .int (nI cnt), .int (nI (at_ + dg_n tn cnt at_ mo))])), (tc, .inl (cA 1, 300, .inl (tx_A tn)))] _ := hP.sub [0, 1] rfl
              have hD9 : va_D A [(t, .inr (1, [.ref tc, .int (nI cnt), .int (nI (at_ + dg_n tn cnt at_ mo))])), (tc, .inl (cA 1, 300, .inl (tx_A tn)))] := hD.sub [0, 1] (by decide) rfl
              exact W.iret (v := dg_s tn at_ i) hx hb hr (fun T9 ht hW => ⟨⟨_, (), rfl, by rw [dg_R, q_n, dg_s], by rw [ht]; exact hP9, hD9⟩, hS.F ht⟩) hS.2.2 xd_Te_takeDigits_69
        · refine lx_top (z := (-1)) (sp_pk_f q_a) ?_
          refine lv_istore (lv' := [(4, .int (-1)), (0, .ref t), (1, .int (nI mo)), (2, .int (dg_s tn at_ i)), (3, .int (nI i))]) hx hb xd_Te_takeDigits_13 hl (by decide) rfl (fun ls hl => ?_)
          refine lv_iload hx hb xd_Te_takeDigits_15 (lv_at hl 0 rfl) ?_
          refine lv_bipush (v := nI 48) hx hb xd_Te_takeDigits_17 (by decide) ?_
          refine lv_icmp_lt (tgt := 68) hx hb xd_Te_takeDigits_19 (by decide) (fun c_19_7 => ?_) (fun c_19_7 => absurd (by decide) c_19_7)
          have q_d : ¬ dg_D tn cnt (at_ + i) := fun z => by omega
          have q_n := dg_n_f hn q_d mo (by omega)
          have hP : va_P G xk_cl [(t, .inr (1, [.ref tc, .int (nI cnt), .int (nI (at_ + dg_n tn cnt at_ mo))])), (tc, .inl (cA 1, 300, .inl (tx_A tn)))] H := by rw [q_n]; exact hP
          have hD : va_D A [(t, .inr (1, [.ref tc, .int (nI cnt), .int (nI (at_ + dg_n tn cnt at_ mo))])), (tc, .inl (cA 1, 300, .inl (tx_A tn)))] := by rw [q_n]; exact hD
          refine lv_iload_n hx hb xd_Te_takeDigits_68 rfl (lv_at hl 3 rfl) ?_
          have hP9 : va_P G xk_cl [(t, .inr (1, [.ref tc, .int (nI cnt), .int (nI (at_ + dg_n tn cnt at_ mo))])), (tc, .inl (cA 1, 300, .inl (tx_A tn)))] _ := hP.sub [0, 1] rfl
          have hD9 : va_D A [(t, .inr (1, [.ref tc, .int (nI cnt), .int (nI (at_ + dg_n tn cnt at_ mo))])), (tc, .inl (cA 1, 300, .inl (tx_A tn)))] := hD.sub [0, 1] (by decide) rfl
          exact W.iret (v := dg_s tn at_ i) hx hb hr (fun T9 ht hW => ⟨⟨_, (), rfl, by rw [dg_R, q_n, dg_s], by rw [ht]; exact hP9, hD9⟩, hS.F ht⟩) hS.2.2 xd_Te_takeDigits_69
  exact lp ((mo - 0) + 1) 0 (by omega) (by omega) rfl (Nat.lt_succ_self _) _ _ (hP.sub [0, 1] rfl) (hD.sub [0, 1] (by decide) rfl) hS ls (lv_sub hl [2, 3, 1, 0] rfl)
theorem dg_v_9 (tn : Nat → Nat) (a cnt : Nat) : ∀ m, dg_v tn a (dg_n tn cnt a m) < 10 ^ m := by
  have key : ∀ n, (∀ i, i < n → 48 ≤ tn (a + i) ∧ tn (a + i) ≤ 57) → dg_v tn a n < 10 ^ n := by
    intro n
    induction n with
    | zero => intro _; exact Nat.one_pos
    | succ n ih =>
      intro h
      have h1 := ih (fun i hi => h i (by omega))
      have h2 := h n (by omega)
      unfold dg_v
      rw [Nat.pow_succ]
      omega
  have dig : ∀ m i, i < dg_n tn cnt a m → dg_D tn cnt (a + i) := by
    intro m
    induction m with
    | zero => intro i hi; exact absurd hi (Nat.not_lt_zero _)
    | succ m ih =>
      intro i hi
      unfold dg_n at hi
      by_cases q : dg_n tn cnt a m = m ∧ dg_D tn cnt (a + m)
      · rw [if_pos q] at hi
        by_cases e : i = m
        · rw [e]; exact q.2
        · exact ih i (by rw [q.1]; omega)
      · rw [if_neg q] at hi
        exact ih i hi
  intro m
  have h1 := key (dg_n tn cnt a m) (fun i hi => (dig m i hi).2)
  exact Nat.lt_of_lt_of_le h1 (Nat.pow_le_pow_right (by decide) (dg_n_le tn cnt a m))
theorem dg_v_5 (tn : Nat → Nat) (a cnt : Nat) : dg_v tn a (dg_n tn cnt a 5) < 2147483648 := Nat.lt_of_lt_of_le (dg_v_9 tn a cnt 5) (by decide)
set_option maxHeartbeats 4000000 in
set_option maxRecDepth 100000 in
theorem ct_Te_takeCell (l : Launch) (G : va_G) (cA : Nat → ClassId) (sz : Nat) (t : Nat) (tc : Nat) (tn : Nat → Nat) (cnt : Nat) (at_ : Nat) (hc : cnt ≤ 300) (ha : at_ ≤ 300) (hv : ∀ j, tn j < 128) (hac : at_ ≤ cnt) : Met l xy_Te_takeCell (.code xy_Te_takeCell xb_Te_takeCell 3 (some .int) :: tw_W) ({ frames := 2, cells := 0, slots := 0, locals := 44 }) (pc_w G cA [(t, .inr (1, [.ref tc, .int (nI cnt), .int (nI at_)])), (tc, .inl (cA 1, 300, .inl (tx_A tn)))] sz [.ref t]) (va_Qi (fun (r : Int32) (_ : Unit) => r = cl_R tn cnt at_) (fun _ T9 => at_w G (va_A [(t, .inr (1, [.ref tc, .int (nI cnt), .int (nI at_)])), (tc, .inl (cA 1, 300, .inl (tx_A tn)))] sz) [(t, .inr (1, [.ref tc, .int (nI cnt), .int (nI (cl_A tn cnt at_))])), (tc, .inl (cA 1, 300, .inl (tx_A tn)))] T9) (va_A [(t, .inr (1, [.ref tc, .int (nI cnt), .int (nI at_)])), (tc, .inl (cA 1, 300, .inl (tx_A tn)))] sz)) 0 0 (va_A [(t, .inr (1, [.ref tc, .int (nI cnt), .int (nI at_)])), (tc, .inl (cA 1, 300, .inl (tx_A tn)))] sz) := by
  refine Met.ofW (cc := xb_Te_takeCell) (maxL := 3) (ret := (some .int)) (by decide) rfl ?_
  intro p e s m args below meth c s₁ B hml hv
  obtain ⟨rfl, hsz, hK, hP, hD0⟩ := hv
  have hx := B.exec
  have hb := B.bytes
  have hr := B.returns
  have hts0 := atoms_spec (ws := .code xy_Te_takeCell xb_Te_takeCell 3 (some .int) :: tw_W) B.pre
  have hts : ∀ w9 ∈ tw_W, w9.before [.ref t].toArray s = true := fun w9 h9 => hts0 w9 (List.mem_cons_of_mem _ h9)
  have hown : s.vm.findClass xc_Te = some m.cls := findClass_of_methodNamed B.named
  have hlocks := B.notSynchronized
  subst hsz
  have hD := hD0.self (sz := s.heap.size)
  generalize hAe : va_A [(t, .inr (1, [.ref tc, .int (nI cnt), .int (nI at_)])), (tc, .inl (cA 1, 300, .inl (tx_A tn)))] s.heap.size = A at hD ⊢
  have hA : ∀ q : Nat, s.heap.size ≤ q → A q := fun q h => by rw [← hAe]; exact Or.inr h
  have hS : va_S A s.heap s.heap [] := va_S.rf
  have hP : va_P G xk_cl [(t, .inr (1, [.ref tc, .int (nI cnt), .int (nI at_)])), (tc, .inl (cA 1, 300, .inl (tx_A tn)))] s.heap := hP
  have hl := lv_entry ([.ref t]) (n := 3) (Nat.le_of_ble_eq_true rfl)
  rw [lg_entry_eq]
  generalize (lg_sl ([.ref t]) ++ List.replicate (3 - (lg_sl ([.ref t])).length) Slot.unset).toArray = ls at hl ⊢
  have hl : lv_has ls 3 [(0, .ref t)] := hl
  refine lv_aload_n hx hb xd_Te_takeCell_0 rfl (lv_at hl 0 rfl) ?_
  refine lv_bipush (v := nI 35) hx hb xd_Te_takeCell_1 (by decide) ?_
  have hPc := hP
  have hDc := hD.sub (ws' := [(t, .inr (1, [.ref tc, .int (nI cnt), .int (nI at_)])), (tc, .inl (cA 1, 300, .inl (tx_A tn)))]) [0, 1] (by decide) rfl
  have hFc := va_free (wc := [(t, .inr (1, [.ref tc, .int (nI cnt), .int (nI at_)])), (tc, .inl (cA 1, 300, .inl (tx_A tn)))]) hD hS hA [0, 1] rfl
  refine va_calli (va_runV (As := [.int (nI 35)]) (rest := []) ⟨hx, hb, hml, hown, hts⟩ (ct_Te_take l G cA s.heap.size t tc tn cnt at_ (by omega) (by omega) (by omega) 35 (by omega)) (cwV 1 hts (gi_v xm_257 xm_234 xm_235 xm_2 xm_236) rfl rfl rfl ⟨rfl, xh_Te_take⟩ ⟨Nat.le_of_ble_eq_true rfl, Nat.le_of_ble_eq_true rfl⟩) (pv_w hK hPc hDc (ci := 1) (q0 := 0) rfl rfl) rfl rfl hl.1 rfl (lv_room (Nat.le_of_ble_eq_true rfl)) xd_Te_takeCell_3 ⟨Nat.le_of_ble_eq_true rfl, Nat.le_of_ble_eq_true rfl⟩) hS (fun q _ h => hFc q h) hFc (fun r_1 u9 t9 H1 locs ht hvm q_2 hB hz1 hk1 hS => ?_)
  obtain ⟨hP1, hD1⟩ := hB
  rw [ht] at hP1
  obtain ⟨hP, hD⟩ := va_join (wr := []) (w1 := [(t, .inr (1, [.ref tc, .int (nI cnt), .int (nI (tk_A tn cnt at_ 35))])), (tc, .inl (cA 1, 300, .inl (tx_A tn)))]) hP hD [0, 1] [] rfl rfl (by decide) (by decide) hk1 hFc hP1 hD1
  generalize H1 = H at hP hS ⊢
  have hP : va_P G xk_cl [(t, .inr (1, [.ref tc, .int (nI cnt), .int (nI (tk_A tn cnt at_ 35))])), (tc, .inl (cA 1, 300, .inl (tx_A tn)))] H := hP
  have hD : va_D A [(t, .inr (1, [.ref tc, .int (nI cnt), .int (nI (tk_A tn cnt at_ 35))])), (tc, .inl (cA 1, 300, .inl (tx_A tn)))] := hD
  refine lx_top (z := tk_R tn cnt at_ 35) (q_2) ?_
  by_cases q_h : tk_P tn cnt at_ 35
  · refine lx_top (z := nI 1) (by rw [tk_R, if_pos q_h]) ?_
    rw [tk_A, if_pos q_h] at hP hD
    refine lv_if_eq (tgt := 30) hx hb xd_Te_takeCell_6 (by decide) (fun c_6_2 => absurd c_6_2 (by decide)) (fun c_6_2 => ?_)
    refine lv_aload_n hx hb xd_Te_takeCell_9 rfl (lv_at hl 0 rfl) ?_
    refine lv_iconst (v := nI 2) hx hb xd_Te_takeCell_10 (by decide) ?_
    have hPc := hP
    have hDc := hD.sub (ws' := [(t, .inr (1, [.ref tc, .int (nI cnt), .int (nI (at_ + 1))])), (tc, .inl (cA 1, 300, .inl (tx_A tn)))]) [0, 1] (by decide) rfl
    have hFc := va_free (wc := [(t, .inr (1, [.ref tc, .int (nI cnt), .int (nI (at_ + 1))])), (tc, .inl (cA 1, 300, .inl (tx_A tn)))]) hD hS hA [0, 1] rfl
    refine va_calli (va_runV (As := [.int (nI 2)]) (rest := []) ⟨hx, hb, hml, hown, hts⟩ (ct_Te_takeDigits l G cA H.size t tc tn cnt (at_ + 1) (by omega) (by omega) (by omega) 2 (by omega) (by omega)) (cwV 1 hts (gi_v xm_258 xm_238 xm_239 xm_2 xm_240) rfl rfl rfl ⟨rfl, xh_Te_takeDigits⟩ ⟨Nat.le_of_ble_eq_true rfl, Nat.le_of_ble_eq_true rfl⟩) (pv_w hK hPc hDc (ci := 1) (q0 := 0) rfl rfl) rfl rfl hl.1 rfl (lv_room (Nat.le_of_ble_eq_true rfl)) xd_Te_takeCell_11 ⟨Nat.le_of_ble_eq_true rfl, Nat.le_of_ble_eq_true rfl⟩) hS (fun q _ h => hFc q h) hFc (fun r_4 u9 t9 H1 locs ht hvm q_5 hB hz1 hk1 hS => ?_)
    obtain ⟨hP1, hD1⟩ := hB
    rw [ht] at hP1
    obtain ⟨hP, hD⟩ := va_join (wr := []) (w1 := [(t, .inr (1, [.ref tc, .int (nI cnt), .int (nI ((at_ + 1) + dg_n tn cnt (at_ + 1) 2))])), (tc, .inl (cA 1, 300, .inl (tx_A tn)))]) hP hD [0, 1] [] rfl rfl (by decide) (by decide) hk1 hFc hP1 hD1
    generalize H1 = H at hP hS ⊢
    have hP : va_P G xk_cl [(t, .inr (1, [.ref tc, .int (nI cnt), .int (nI ((at_ + 1) + dg_n tn cnt (at_ + 1) 2))])), (tc, .inl (cA 1, 300, .inl (tx_A tn)))] H := hP
    have hD : va_D A [(t, .inr (1, [.ref tc, .int (nI cnt), .int (nI ((at_ + 1) + dg_n tn cnt (at_ + 1) 2))])), (tc, .inl (cA 1, 300, .inl (tx_A tn)))] := hD
    refine lx_top (z := dg_R tn cnt (at_ + 1) 2) (q_5) ?_
    by_cases q_z : dg_n tn cnt (at_ + 1) 2 = 0
    · refine lx_top (z := (-1)) (by rw [dg_R, if_pos q_z]) ?_
      refine lv_istore_n (lv' := [(1, .int (-1)), (0, .ref t)]) hx hb xd_Te_takeCell_14 rfl hl (by decide) rfl (fun ls hl => ?_)
      refine lv_iload_n hx hb xd_Te_takeCell_15 rfl (lv_at hl 0 rfl) ?_
      refine lv_iconst (v := (-1)) hx hb xd_Te_takeCell_16 (by decide) ?_
      refine lv_icmp_ne (tgt := 24) hx hb xd_Te_takeCell_17 (by decide) (fun c_17_5 => absurd (by decide) c_17_5) (fun c_17_5 => ?_)
      refine lv_iconst (v := nI 0) hx hb xd_Te_takeCell_20 (by decide) ?_
      refine lv_goto (tgt := 29) hx hb xd_Te_takeCell_21 (by decide) ?_
      have hP : va_P G xk_cl [(t, .inr (1, [.ref tc, .int (nI cnt), .int (nI (cl_A tn cnt at_))])), (tc, .inl (cA 1, 300, .inl (tx_A tn)))] H := by rw [cl_A, if_pos q_h]; exact hP
      have hD : va_D A [(t, .inr (1, [.ref tc, .int (nI cnt), .int (nI (cl_A tn cnt at_))])), (tc, .inl (cA 1, 300, .inl (tx_A tn)))] := by rw [cl_A, if_pos q_h]; exact hD
      have hP9 : va_P G xk_cl [(t, .inr (1, [.ref tc, .int (nI cnt), .int (nI (cl_A tn cnt at_))])), (tc, .inl (cA 1, 300, .inl (tx_A tn)))] _ := hP.sub [0, 1] rfl
      have hD9 : va_D A [(t, .inr (1, [.ref tc, .int (nI cnt), .int (nI (cl_A tn cnt at_))])), (tc, .inl (cA 1, 300, .inl (tx_A tn)))] := hD.sub [0, 1] (by decide) rfl
      exact W.iret (v := nI 0) hx hb hr (fun T9 ht hW => ⟨⟨_, (), rfl, by rw [cl_R, if_pos q_h, if_pos q_z], by rw [ht]; exact hP9, hD9⟩, hS.F ht⟩) hS.2.2 xd_Te_takeCell_29
    · refine lx_top (z := nI (dg_v tn (at_ + 1) (dg_n tn cnt (at_ + 1) 2))) (by rw [dg_R, if_neg q_z]) ?_
      refine lv_istore_n (lv' := [(1, .int (nI (dg_v tn (at_ + 1) (dg_n tn cnt (at_ + 1) 2)))), (0, .ref t)]) hx hb xd_Te_takeCell_14 rfl hl (by decide) rfl (fun ls hl => ?_)
      refine lv_iload_n hx hb xd_Te_takeCell_15 rfl (lv_at hl 0 rfl) ?_
      refine lv_iconst (v := (-1)) hx hb xd_Te_takeCell_16 (by decide) ?_
      refine lv_icmp_ne (tgt := 24) hx hb xd_Te_takeCell_17 (by decide) (fun c_17_6 => ?_) (fun c_17_6 => absurd c_17_6 (nI_nm (by have h1 := dg_v_le tn (at_ + 1) hv (dg_n tn cnt (at_ + 1) 2); have h2 := dg_n_le tn cnt (at_ + 1) 2; have h3 : 100 ^ dg_n tn cnt (at_ + 1) 2 ≤ 100 ^ 2 := Nat.pow_le_pow_right (by decide) h2; omega)))
      refine lv_iconst (v := nI 2) hx hb xd_Te_takeCell_24 (by decide) ?_
      refine lv_iload_n hx hb xd_Te_takeCell_25 rfl (lv_at hl 0 rfl) ?_
      have hPc := hP.sub (ws' := []) [] rfl
      refine vp_callSi (va_Run.run (va_runSN (As := [.int (nI 2), .int (nI (dg_v tn (at_ + 1) (dg_n tn cnt (at_ + 1) 2)))]) (rest := []) ⟨hx, hb, hml, hown, hts⟩ (ct_X_cellOf l G cA (nI 2) (nI (dg_v tn (at_ + 1) (dg_n tn cnt (at_ + 1) 2)))) ⟨va_cnB 2 hts (tw_g xm_261) rfl rfl rfl (nw_m hK.2 5 rfl) (hts _ xm_1) xh_X_cellOf ⟨Nat.le_of_ble_eq_true rfl, Nat.le_of_ble_eq_true rfl⟩, hts _ xm_260, trivial⟩ (ps_r hK hPc) rfl rfl hl.1 rfl (lv_room (Nat.le_of_ble_eq_true rfl)) xd_Te_takeCell_26 ⟨Nat.le_of_ble_eq_true rfl, Nat.le_of_ble_eq_true rfl⟩)) (fun r_8 q_9 => ?_)
      refine lx_top (z := en_C (nI 2) (nI (dg_v tn (at_ + 1) (dg_n tn cnt (at_ + 1) 2)))) (q_9) ?_
      have hP : va_P G xk_cl [(t, .inr (1, [.ref tc, .int (nI cnt), .int (nI (cl_A tn cnt at_))])), (tc, .inl (cA 1, 300, .inl (tx_A tn)))] H := by rw [cl_A, if_pos q_h]; exact hP
      have hD : va_D A [(t, .inr (1, [.ref tc, .int (nI cnt), .int (nI (cl_A tn cnt at_))])), (tc, .inl (cA 1, 300, .inl (tx_A tn)))] := by rw [cl_A, if_pos q_h]; exact hD
      have hP9 : va_P G xk_cl [(t, .inr (1, [.ref tc, .int (nI cnt), .int (nI (cl_A tn cnt at_))])), (tc, .inl (cA 1, 300, .inl (tx_A tn)))] _ := hP.sub [0, 1] rfl
      have hD9 : va_D A [(t, .inr (1, [.ref tc, .int (nI cnt), .int (nI (cl_A tn cnt at_))])), (tc, .inl (cA 1, 300, .inl (tx_A tn)))] := hD.sub [0, 1] (by decide) rfl
      exact W.iret (v := en_C (nI 2) (nI (dg_v tn (at_ + 1) (dg_n tn cnt (at_ + 1) 2)))) hx hb hr (fun T9 ht hW => ⟨⟨_, (), rfl, by rw [cl_R, if_pos q_h, if_neg q_z], by rw [ht]; exact hP9, hD9⟩, hS.F ht⟩) hS.2.2 xd_Te_takeCell_29
  · refine lx_top (z := nI 0) (by rw [tk_R, if_neg q_h]) ?_
    rw [tk_A, if_neg q_h] at hP hD
    refine lv_if_eq (tgt := 30) hx hb xd_Te_takeCell_6 (by decide) (fun c_6_9 => ?_) (fun c_6_9 => absurd (by decide) c_6_9)
    refine lv_aload_n hx hb xd_Te_takeCell_30 rfl (lv_at hl 0 rfl) ?_
    refine lv_bipush (v := nI 45) hx hb xd_Te_takeCell_31 (by decide) ?_
    have hPc := hP
    have hDc := hD.sub (ws' := [(t, .inr (1, [.ref tc, .int (nI cnt), .int (nI at_)])), (tc, .inl (cA 1, 300, .inl (tx_A tn)))]) [0, 1] (by decide) rfl
    have hFc := va_free (wc := [(t, .inr (1, [.ref tc, .int (nI cnt), .int (nI at_)])), (tc, .inl (cA 1, 300, .inl (tx_A tn)))]) hD hS hA [0, 1] rfl
    refine va_calli (va_runV (As := [.int (nI 45)]) (rest := []) ⟨hx, hb, hml, hown, hts⟩ (ct_Te_take l G cA H.size t tc tn cnt at_ (by omega) (by omega) (by omega) 45 (by omega)) (cwV 1 hts (gi_v xm_257 xm_234 xm_235 xm_2 xm_236) rfl rfl rfl ⟨rfl, xh_Te_take⟩ ⟨Nat.le_of_ble_eq_true rfl, Nat.le_of_ble_eq_true rfl⟩) (pv_w hK hPc hDc (ci := 1) (q0 := 0) rfl rfl) rfl rfl hl.1 rfl (lv_room (Nat.le_of_ble_eq_true rfl)) xd_Te_takeCell_33 ⟨Nat.le_of_ble_eq_true rfl, Nat.le_of_ble_eq_true rfl⟩) hS (fun q _ h => hFc q h) hFc (fun r_11 u9 t9 H1 locs ht hvm q_12 hB hz1 hk1 hS => ?_)
    obtain ⟨hP1, hD1⟩ := hB
    rw [ht] at hP1
    obtain ⟨hP, hD⟩ := va_join (wr := []) (w1 := [(t, .inr (1, [.ref tc, .int (nI cnt), .int (nI (tk_A tn cnt at_ 45))])), (tc, .inl (cA 1, 300, .inl (tx_A tn)))]) hP hD [0, 1] [] rfl rfl (by decide) (by decide) hk1 hFc hP1 hD1
    generalize H1 = H at hP hS ⊢
    have hP : va_P G xk_cl [(t, .inr (1, [.ref tc, .int (nI cnt), .int (nI (tk_A tn cnt at_ 45))])), (tc, .inl (cA 1, 300, .inl (tx_A tn)))] H := hP
    have hD : va_D A [(t, .inr (1, [.ref tc, .int (nI cnt), .int (nI (tk_A tn cnt at_ 45))])), (tc, .inl (cA 1, 300, .inl (tx_A tn)))] := hD
    refine lx_top (z := tk_R tn cnt at_ 45) (q_12) ?_
    by_cases q_m : tk_P tn cnt at_ 45
    · refine lx_top (z := nI 1) (by rw [tk_R, if_pos q_m]) ?_
      rw [tk_A, if_pos q_m] at hP hD
      refine lv_istore_n (lv' := [(1, .int (nI 1)), (0, .ref t)]) hx hb xd_Te_takeCell_36 rfl hl (by decide) rfl (fun ls hl => ?_)
      refine lv_aload_n hx hb xd_Te_takeCell_37 rfl (lv_at hl 1 rfl) ?_
      refine lv_iconst (v := nI 5) hx hb xd_Te_takeCell_38 (by decide) ?_
      have hPc := hP
      have hDc := hD.sub (ws' := [(t, .inr (1, [.ref tc, .int (nI cnt), .int (nI (at_ + 1))])), (tc, .inl (cA 1, 300, .inl (tx_A tn)))]) [0, 1] (by decide) rfl
      have hFc := va_free (wc := [(t, .inr (1, [.ref tc, .int (nI cnt), .int (nI (at_ + 1))])), (tc, .inl (cA 1, 300, .inl (tx_A tn)))]) hD hS hA [0, 1] rfl
      refine va_calli (va_runV (As := [.int (nI 5)]) (rest := []) ⟨hx, hb, hml, hown, hts⟩ (ct_Te_takeDigits l G cA H.size t tc tn cnt (at_ + 1) (by omega) (by omega) (by omega) 5 (by omega) (by omega)) (cwV 1 hts (gi_v xm_258 xm_238 xm_239 xm_2 xm_240) rfl rfl rfl ⟨rfl, xh_Te_takeDigits⟩ ⟨Nat.le_of_ble_eq_true rfl, Nat.le_of_ble_eq_true rfl⟩) (pv_w hK hPc hDc (ci := 1) (q0 := 0) rfl rfl) rfl rfl hl.1 rfl (lv_room (Nat.le_of_ble_eq_true rfl)) xd_Te_takeCell_39 ⟨Nat.le_of_ble_eq_true rfl, Nat.le_of_ble_eq_true rfl⟩) hS (fun q _ h => hFc q h) hFc (fun r_13 u9 t9 H1 locs ht hvm q_14 hB hz1 hk1 hS => ?_)
      obtain ⟨hP1, hD1⟩ := hB
      rw [ht] at hP1
      obtain ⟨hP, hD⟩ := va_join (wr := []) (w1 := [(t, .inr (1, [.ref tc, .int (nI cnt), .int (nI ((at_ + 1) + dg_n tn cnt (at_ + 1) 5))])), (tc, .inl (cA 1, 300, .inl (tx_A tn)))]) hP hD [0, 1] [] rfl rfl (by decide) (by decide) hk1 hFc hP1 hD1
      generalize H1 = H at hP hS ⊢
      have hP : va_P G xk_cl [(t, .inr (1, [.ref tc, .int (nI cnt), .int (nI ((at_ + 1) + dg_n tn cnt (at_ + 1) 5))])), (tc, .inl (cA 1, 300, .inl (tx_A tn)))] H := hP
      have hD : va_D A [(t, .inr (1, [.ref tc, .int (nI cnt), .int (nI ((at_ + 1) + dg_n tn cnt (at_ + 1) 5))])), (tc, .inl (cA 1, 300, .inl (tx_A tn)))] := hD
      refine lx_top (z := dg_R tn cnt (at_ + 1) 5) (q_14) ?_
      by_cases q_z : dg_n tn cnt (at_ + 1) 5 = 0
      · refine lx_top (z := (-1)) (by rw [dg_R, if_pos q_z]) ?_
        refine lv_istore_n (lv' := [(2, .int (-1)), (1, .int (nI 1)), (0, .ref t)]) hx hb xd_Te_takeCell_42 rfl hl (by decide) rfl (fun ls hl => ?_)
        refine lv_iload_n hx hb xd_Te_takeCell_43 rfl (lv_at hl 0 rfl) ?_
        refine lv_iconst (v := (-1)) hx hb xd_Te_takeCell_44 (by decide) ?_
        refine lv_icmp_ne (tgt := 50) hx hb xd_Te_takeCell_45 (by decide) (fun c_45_14 => absurd (by decide) c_45_14) (fun c_45_14 => ?_)
        refine lv_iconst (v := nI 0) hx hb xd_Te_takeCell_48 (by decide) ?_
        have hP : va_P G xk_cl [(t, .inr (1, [.ref tc, .int (nI cnt), .int (nI (cl_A tn cnt at_))])), (tc, .inl (cA 1, 300, .inl (tx_A tn)))] H := by rw [cl_A, if_neg q_h, if_pos q_m]; exact hP
        have hD : va_D A [(t, .inr (1, [.ref tc, .int (nI cnt), .int (nI (cl_A tn cnt at_))])), (tc, .inl (cA 1, 300, .inl (tx_A tn)))] := by rw [cl_A, if_neg q_h, if_pos q_m]; exact hD
        have hP9 : va_P G xk_cl [(t, .inr (1, [.ref tc, .int (nI cnt), .int (nI (cl_A tn cnt at_))])), (tc, .inl (cA 1, 300, .inl (tx_A tn)))] _ := hP.sub [0, 1] rfl
        have hD9 : va_D A [(t, .inr (1, [.ref tc, .int (nI cnt), .int (nI (cl_A tn cnt at_))])), (tc, .inl (cA 1, 300, .inl (tx_A tn)))] := hD.sub [0, 1] (by decide) rfl
        exact W.iret (v := nI 0) hx hb hr (fun T9 ht hW => ⟨⟨_, (), rfl, by rw [cl_R, if_neg q_h, if_pos q_m, if_pos q_z], by rw [ht]; exact hP9, hD9⟩, hS.F ht⟩) hS.2.2 xd_Te_takeCell_49
      · refine lx_top (z := nI (dg_v tn (at_ + 1) (dg_n tn cnt (at_ + 1) 5))) (by rw [dg_R, if_neg q_z]) ?_
        refine lv_istore_n (lv' := [(2, .int (nI (dg_v tn (at_ + 1) (dg_n tn cnt (at_ + 1) 5)))), (1, .int (nI 1)), (0, .ref t)]) hx hb xd_Te_takeCell_42 rfl hl (by decide) rfl (fun ls hl => ?_)
        refine lv_iload_n hx hb xd_Te_takeCell_43 rfl (lv_at hl 0 rfl) ?_
        refine lv_iconst (v := (-1)) hx hb xd_Te_takeCell_44 (by decide) ?_
        refine lv_icmp_ne (tgt := 50) hx hb xd_Te_takeCell_45 (by decide) (fun c_45_15 => ?_) (fun c_45_15 => absurd c_45_15 (nI_nm (dg_v_5 tn (at_ + 1) cnt)))
        refine lv_iconst (v := nI 1) hx hb xd_Te_takeCell_50 (by decide) ?_
        refine lv_iload_n hx hb xd_Te_takeCell_51 rfl (lv_at hl 1 rfl) ?_
        refine lv_if_eq (tgt := 60) hx hb xd_Te_takeCell_52 (by decide) (fun c_52_16 => absurd c_52_16 (by decide)) (fun c_52_16 => ?_)
        refine lv_iload_n hx hb xd_Te_takeCell_55 rfl (lv_at hl 0 rfl) ?_
        refine lx_ineg (z := -(nI (dg_v tn (at_ + 1) (dg_n tn cnt (at_ + 1) 5)))) hx hb xd_Te_takeCell_56 (rfl) ?_
        refine lv_goto (tgt := 61) hx hb xd_Te_takeCell_57 (by decide) ?_
        have hPc := hP.sub (ws' := []) [] rfl
        refine vp_callSi (va_Run.run (va_runSN (As := [.int (nI 1), .int (-(nI (dg_v tn (at_ + 1) (dg_n tn cnt (at_ + 1) 5))))]) (rest := []) ⟨hx, hb, hml, hown, hts⟩ (ct_X_cellOf l G cA (nI 1) (-(nI (dg_v tn (at_ + 1) (dg_n tn cnt (at_ + 1) 5))))) ⟨va_cnB 2 hts (tw_g xm_261) rfl rfl rfl (nw_m hK.2 5 rfl) (hts _ xm_1) xh_X_cellOf ⟨Nat.le_of_ble_eq_true rfl, Nat.le_of_ble_eq_true rfl⟩, hts _ xm_260, trivial⟩ (ps_r hK hPc) rfl rfl hl.1 rfl (lv_room (Nat.le_of_ble_eq_true rfl)) xd_Te_takeCell_61 ⟨Nat.le_of_ble_eq_true rfl, Nat.le_of_ble_eq_true rfl⟩)) (fun r_18 q_19 => ?_)
        refine lx_top (z := en_C (nI 1) (-(nI (dg_v tn (at_ + 1) (dg_n tn cnt (at_ + 1) 5))))) (q_19) ?_
        have hP : va_P G xk_cl [(t, .inr (1, [.ref tc, .int (nI cnt), .int (nI (cl_A tn cnt at_))])), (tc, .inl (cA 1, 300, .inl (tx_A tn)))] H := by rw [cl_A, if_neg q_h, if_pos q_m]; exact hP
        have hD : va_D A [(t, .inr (1, [.ref tc, .int (nI cnt), .int (nI (cl_A tn cnt at_))])), (tc, .inl (cA 1, 300, .inl (tx_A tn)))] := by rw [cl_A, if_neg q_h, if_pos q_m]; exact hD
        have hP9 : va_P G xk_cl [(t, .inr (1, [.ref tc, .int (nI cnt), .int (nI (cl_A tn cnt at_))])), (tc, .inl (cA 1, 300, .inl (tx_A tn)))] _ := hP.sub [0, 1] rfl
        have hD9 : va_D A [(t, .inr (1, [.ref tc, .int (nI cnt), .int (nI (cl_A tn cnt at_))])), (tc, .inl (cA 1, 300, .inl (tx_A tn)))] := hD.sub [0, 1] (by decide) rfl
        exact W.iret (v := en_C (nI 1) (-(nI (dg_v tn (at_ + 1) (dg_n tn cnt (at_ + 1) 5))))) hx hb hr (fun T9 ht hW => ⟨⟨_, (), rfl, by rw [cl_R, if_neg q_h, if_pos q_m, if_neg q_z], by rw [ht]; exact hP9, hD9⟩, hS.F ht⟩) hS.2.2 xd_Te_takeCell_64
    · refine lx_top (z := nI 0) (by rw [tk_R, if_neg q_m]) ?_
      rw [tk_A, if_neg q_m] at hP hD
      refine lv_istore_n (lv' := [(1, .int (nI 0)), (0, .ref t)]) hx hb xd_Te_takeCell_36 rfl hl (by decide) rfl (fun ls hl => ?_)
      refine lv_aload_n hx hb xd_Te_takeCell_37 rfl (lv_at hl 1 rfl) ?_
      refine lv_iconst (v := nI 5) hx hb xd_Te_takeCell_38 (by decide) ?_
      have hPc := hP
      have hDc := hD.sub (ws' := [(t, .inr (1, [.ref tc, .int (nI cnt), .int (nI at_)])), (tc, .inl (cA 1, 300, .inl (tx_A tn)))]) [0, 1] (by decide) rfl
      have hFc := va_free (wc := [(t, .inr (1, [.ref tc, .int (nI cnt), .int (nI at_)])), (tc, .inl (cA 1, 300, .inl (tx_A tn)))]) hD hS hA [0, 1] rfl
      refine va_calli (va_runV (As := [.int (nI 5)]) (rest := []) ⟨hx, hb, hml, hown, hts⟩ (ct_Te_takeDigits l G cA H.size t tc tn cnt at_ (by omega) (by omega) (by omega) 5 (by omega) (by omega)) (cwV 1 hts (gi_v xm_258 xm_238 xm_239 xm_2 xm_240) rfl rfl rfl ⟨rfl, xh_Te_takeDigits⟩ ⟨Nat.le_of_ble_eq_true rfl, Nat.le_of_ble_eq_true rfl⟩) (pv_w hK hPc hDc (ci := 1) (q0 := 0) rfl rfl) rfl rfl hl.1 rfl (lv_room (Nat.le_of_ble_eq_true rfl)) xd_Te_takeCell_39 ⟨Nat.le_of_ble_eq_true rfl, Nat.le_of_ble_eq_true rfl⟩) hS (fun q _ h => hFc q h) hFc (fun r_20 u9 t9 H1 locs ht hvm q_21 hB hz1 hk1 hS => ?_)
      obtain ⟨hP1, hD1⟩ := hB
      rw [ht] at hP1
      obtain ⟨hP, hD⟩ := va_join (wr := []) (w1 := [(t, .inr (1, [.ref tc, .int (nI cnt), .int (nI (at_ + dg_n tn cnt at_ 5))])), (tc, .inl (cA 1, 300, .inl (tx_A tn)))]) hP hD [0, 1] [] rfl rfl (by decide) (by decide) hk1 hFc hP1 hD1
      generalize H1 = H at hP hS ⊢
      have hP : va_P G xk_cl [(t, .inr (1, [.ref tc, .int (nI cnt), .int (nI (at_ + dg_n tn cnt at_ 5))])), (tc, .inl (cA 1, 300, .inl (tx_A tn)))] H := hP
      have hD : va_D A [(t, .inr (1, [.ref tc, .int (nI cnt), .int (nI (at_ + dg_n tn cnt at_ 5))])), (tc, .inl (cA 1, 300, .inl (tx_A tn)))] := hD
      refine lx_top (z := dg_R tn cnt at_ 5) (q_21) ?_
      by_cases q_z : dg_n tn cnt at_ 5 = 0
      · refine lx_top (z := (-1)) (by rw [dg_R, if_pos q_z]) ?_
        refine lv_istore_n (lv' := [(2, .int (-1)), (1, .int (nI 0)), (0, .ref t)]) hx hb xd_Te_takeCell_42 rfl hl (by decide) rfl (fun ls hl => ?_)
        refine lv_iload_n hx hb xd_Te_takeCell_43 rfl (lv_at hl 0 rfl) ?_
        refine lv_iconst (v := (-1)) hx hb xd_Te_takeCell_44 (by decide) ?_
        refine lv_icmp_ne (tgt := 50) hx hb xd_Te_takeCell_45 (by decide) (fun c_45_21 => absurd (by decide) c_45_21) (fun c_45_21 => ?_)
        refine lv_iconst (v := nI 0) hx hb xd_Te_takeCell_48 (by decide) ?_
        have hP : va_P G xk_cl [(t, .inr (1, [.ref tc, .int (nI cnt), .int (nI (cl_A tn cnt at_))])), (tc, .inl (cA 1, 300, .inl (tx_A tn)))] H := by rw [cl_A, if_neg q_h, if_neg q_m]; exact hP
        have hD : va_D A [(t, .inr (1, [.ref tc, .int (nI cnt), .int (nI (cl_A tn cnt at_))])), (tc, .inl (cA 1, 300, .inl (tx_A tn)))] := by rw [cl_A, if_neg q_h, if_neg q_m]; exact hD
        have hP9 : va_P G xk_cl [(t, .inr (1, [.ref tc, .int (nI cnt), .int (nI (cl_A tn cnt at_))])), (tc, .inl (cA 1, 300, .inl (tx_A tn)))] _ := hP.sub [0, 1] rfl
        have hD9 : va_D A [(t, .inr (1, [.ref tc, .int (nI cnt), .int (nI (cl_A tn cnt at_))])), (tc, .inl (cA 1, 300, .inl (tx_A tn)))] := hD.sub [0, 1] (by decide) rfl
        exact W.iret (v := nI 0) hx hb hr (fun T9 ht hW => ⟨⟨_, (), rfl, by rw [cl_R, if_neg q_h, if_neg q_m, if_pos q_z], by rw [ht]; exact hP9, hD9⟩, hS.F ht⟩) hS.2.2 xd_Te_takeCell_49
      · refine lx_top (z := nI (dg_v tn at_ (dg_n tn cnt at_ 5))) (by rw [dg_R, if_neg q_z]) ?_
        refine lv_istore_n (lv' := [(2, .int (nI (dg_v tn at_ (dg_n tn cnt at_ 5)))), (1, .int (nI 0)), (0, .ref t)]) hx hb xd_Te_takeCell_42 rfl hl (by decide) rfl (fun ls hl => ?_)
        refine lv_iload_n hx hb xd_Te_takeCell_43 rfl (lv_at hl 0 rfl) ?_
        refine lv_iconst (v := (-1)) hx hb xd_Te_takeCell_44 (by decide) ?_
        refine lv_icmp_ne (tgt := 50) hx hb xd_Te_takeCell_45 (by decide) (fun c_45_22 => ?_) (fun c_45_22 => absurd c_45_22 (nI_nm (dg_v_5 tn at_ cnt)))
        refine lv_iconst (v := nI 1) hx hb xd_Te_takeCell_50 (by decide) ?_
        refine lv_iload_n hx hb xd_Te_takeCell_51 rfl (lv_at hl 1 rfl) ?_
        refine lv_if_eq (tgt := 60) hx hb xd_Te_takeCell_52 (by decide) (fun c_52_23 => ?_) (fun c_52_23 => absurd (by decide) c_52_23)
        refine lv_iload_n hx hb xd_Te_takeCell_60 rfl (lv_at hl 0 rfl) ?_
        have hPc := hP.sub (ws' := []) [] rfl
        refine vp_callSi (va_Run.run (va_runSN (As := [.int (nI 1), .int (nI (dg_v tn at_ (dg_n tn cnt at_ 5)))]) (rest := []) ⟨hx, hb, hml, hown, hts⟩ (ct_X_cellOf l G cA (nI 1) (nI (dg_v tn at_ (dg_n tn cnt at_ 5)))) ⟨va_cnB 2 hts (tw_g xm_261) rfl rfl rfl (nw_m hK.2 5 rfl) (hts _ xm_1) xh_X_cellOf ⟨Nat.le_of_ble_eq_true rfl, Nat.le_of_ble_eq_true rfl⟩, hts _ xm_260, trivial⟩ (ps_r hK hPc) rfl rfl hl.1 rfl (lv_room (Nat.le_of_ble_eq_true rfl)) xd_Te_takeCell_61 ⟨Nat.le_of_ble_eq_true rfl, Nat.le_of_ble_eq_true rfl⟩)) (fun r_25 q_26 => ?_)
        refine lx_top (z := en_C (nI 1) (nI (dg_v tn at_ (dg_n tn cnt at_ 5)))) (q_26) ?_
        have hP : va_P G xk_cl [(t, .inr (1, [.ref tc, .int (nI cnt), .int (nI (cl_A tn cnt at_))])), (tc, .inl (cA 1, 300, .inl (tx_A tn)))] H := by rw [cl_A, if_neg q_h, if_neg q_m]; exact hP
        have hD : va_D A [(t, .inr (1, [.ref tc, .int (nI cnt), .int (nI (cl_A tn cnt at_))])), (tc, .inl (cA 1, 300, .inl (tx_A tn)))] := by rw [cl_A, if_neg q_h, if_neg q_m]; exact hD
        have hP9 : va_P G xk_cl [(t, .inr (1, [.ref tc, .int (nI cnt), .int (nI (cl_A tn cnt at_))])), (tc, .inl (cA 1, 300, .inl (tx_A tn)))] _ := hP.sub [0, 1] rfl
        have hD9 : va_D A [(t, .inr (1, [.ref tc, .int (nI cnt), .int (nI (cl_A tn cnt at_))])), (tc, .inl (cA 1, 300, .inl (tx_A tn)))] := hD.sub [0, 1] (by decide) rfl
        exact W.iret (v := en_C (nI 1) (nI (dg_v tn at_ (dg_n tn cnt at_ 5)))) hx hb hr (fun T9 ht hW => ⟨⟨_, (), rfl, by rw [cl_R, if_neg q_h, if_neg q_m, if_neg q_z], by rw [ht]; exact hP9, hD9⟩, hS.F ht⟩) hS.2.2 xd_Te_takeCell_64
theorem ap_c2 {x : Int32} (e : x = nI x.toNatClampNeg) (h : x.toNatClampNeg ≤ 126) : (x.toUInt32 % 65536).toInt32 = nI x.toNatClampNeg := by
  generalize x.toNatClampNeg = n at e h ⊢
  rw [e]
  exact ap_ch h
theorem ap_c3 {n : Nat} (h : n ≤ 126) : vp_nar .char (nI n) = nI n := by
  have h1 := (pk_charN (q := n) (by omega)).1
  unfold vp_nar
  rw [h1]
set_option maxHeartbeats 4000000 in
set_option maxRecDepth 100000 in
theorem ct_Te_append (l : Launch) (G : va_G) (cA : Nat → ClassId) (sz : Nat) (t : Nat) (tc : Nat) (tn : Nat → Nat) (cnt : Nat) (at_ : Nat) (hc : cnt ≤ 300) (x : Int32) : Met l xy_Te_append (.code xy_Te_append xb_Te_append 2 (some .boolean) :: tw_W) ({ frames := 0, cells := 0, slots := 0, locals := 0 }) (pc_w G cA [(t, .inr (1, [.ref tc, .int (nI cnt), .int (nI at_)])), (tc, .inl (cA 1, 300, .inl (tx_A tn)))] sz [.ref t, .int x]) (va_Qi (fun (r : Int32) (_ : Unit) => r = ap_R cnt x) (fun _ T9 => at_w G (va_A [(t, .inr (1, [.ref tc, .int (nI cnt), .int (nI at_)])), (tc, .inl (cA 1, 300, .inl (tx_A tn)))] sz) [(t, .inr (1, [.ref tc, .int (nI (ap_C cnt x)), .int (nI at_)])), (tc, .inl (cA 1, 300, .inl (tx_A (ap_T tn cnt x))))] T9) (va_A [(t, .inr (1, [.ref tc, .int (nI cnt), .int (nI at_)])), (tc, .inl (cA 1, 300, .inl (tx_A tn)))] sz)) 0 0 (va_A [(t, .inr (1, [.ref tc, .int (nI cnt), .int (nI at_)])), (tc, .inl (cA 1, 300, .inl (tx_A tn)))] sz) := by
  refine Met.ofW (cc := xb_Te_append) (maxL := 2) (ret := (some .boolean)) (by decide) rfl ?_
  intro p e s m args below meth c s₁ B hml hv
  obtain ⟨rfl, hsz, hK, hP, hD0⟩ := hv
  have hx := B.exec
  have hb := B.bytes
  have hr := B.returns
  have hts0 := atoms_spec (ws := .code xy_Te_append xb_Te_append 2 (some .boolean) :: tw_W) B.pre
  have hts : ∀ w9 ∈ tw_W, w9.before [.ref t, .int x].toArray s = true := fun w9 h9 => hts0 w9 (List.mem_cons_of_mem _ h9)
  have hown : s.vm.findClass xc_Te = some m.cls := findClass_of_methodNamed B.named
  have hlocks := B.notSynchronized
  subst hsz
  have hD := hD0.self (sz := s.heap.size)
  generalize hAe : va_A [(t, .inr (1, [.ref tc, .int (nI cnt), .int (nI at_)])), (tc, .inl (cA 1, 300, .inl (tx_A tn)))] s.heap.size = A at hD ⊢
  have hA : ∀ q : Nat, s.heap.size ≤ q → A q := fun q h => by rw [← hAe]; exact Or.inr h
  have hS : va_S A s.heap s.heap [] := va_S.rf
  have hP : va_P G xk_cl [(t, .inr (1, [.ref tc, .int (nI cnt), .int (nI at_)])), (tc, .inl (cA 1, 300, .inl (tx_A tn)))] s.heap := hP
  have hl := lv_entry ([.ref t, .int x]) (n := 2) (Nat.le_of_ble_eq_true rfl)
  rw [lg_entry_eq]
  generalize (lg_sl ([.ref t, .int x]) ++ List.replicate (2 - (lg_sl ([.ref t, .int x])).length) Slot.unset).toArray = ls at hl ⊢
  have hl : lv_has ls 2 [(0, .ref t), (1, .int x)] := hl
  refine lv_iload_n hx hb xd_Te_append_0 rfl (lv_at hl 1 rfl) ?_
  refine lv_bipush (v := nI 32) hx hb xd_Te_append_1 (by decide) ?_
  refine lv_icmp_lt (tgt := 31) hx hb xd_Te_append_3 (by decide) (fun c_3_0 => ?_) (fun c_3_0 => ?_)
  · have q_n : ¬ (¬ x < nI 32 ∧ ¬ nI 126 < x ∧ cnt < 300) := fun z => z.1 c_3_0
    have hP : va_P G xk_cl [(t, .inr (1, [.ref tc, .int (nI (ap_C cnt x)), .int (nI at_)])), (tc, .inl (cA 1, 300, .inl (tx_A (ap_T tn cnt x))))] s.heap := by rw [ap_T, ap_C, if_neg q_n, if_neg q_n]; exact hP
    have hD : va_D A [(t, .inr (1, [.ref tc, .int (nI (ap_C cnt x)), .int (nI at_)])), (tc, .inl (cA 1, 300, .inl (tx_A (ap_T tn cnt x))))] := by rw [ap_T, ap_C, if_neg q_n, if_neg q_n]; exact hD
    refine lv_iconst (v := nI 0) hx hb xd_Te_append_31 (by decide) ?_
    have hP9 : va_P G xk_cl [(t, .inr (1, [.ref tc, .int (nI (ap_C cnt x)), .int (nI at_)])), (tc, .inl (cA 1, 300, .inl (tx_A (ap_T tn cnt x))))] _ := hP.sub [0, 1] rfl
    have hD9 : va_D A [(t, .inr (1, [.ref tc, .int (nI (ap_C cnt x)), .int (nI at_)])), (tc, .inl (cA 1, 300, .inl (tx_A (ap_T tn cnt x))))] := hD.sub [0, 1] (by decide) rfl
    exact W.zret (v := nI 0) (ty := .boolean) hx hb hr (by decide) (fun T9 ht hW => ⟨⟨_, (), rfl, by rw [ap_R, if_neg q_n], by rw [ht]; exact hP9, hD9⟩, hS.F ht⟩) hS.2.2 xd_Te_append_32
  · have q_1 := c_3_0
    refine lv_iload_n hx hb xd_Te_append_6 rfl (lv_at hl 1 rfl) ?_
    refine lv_bipush (v := nI 126) hx hb xd_Te_append_7 (by decide) ?_
    refine lv_icmp_gt (tgt := 31) hx hb xd_Te_append_9 (by decide) (fun c_9_1 => ?_) (fun c_9_1 => ?_)
    · have q_n : ¬ (¬ x < nI 32 ∧ ¬ nI 126 < x ∧ cnt < 300) := fun z => z.2.1 c_9_1
      have hP : va_P G xk_cl [(t, .inr (1, [.ref tc, .int (nI (ap_C cnt x)), .int (nI at_)])), (tc, .inl (cA 1, 300, .inl (tx_A (ap_T tn cnt x))))] s.heap := by rw [ap_T, ap_C, if_neg q_n, if_neg q_n]; exact hP
      have hD : va_D A [(t, .inr (1, [.ref tc, .int (nI (ap_C cnt x)), .int (nI at_)])), (tc, .inl (cA 1, 300, .inl (tx_A (ap_T tn cnt x))))] := by rw [ap_T, ap_C, if_neg q_n, if_neg q_n]; exact hD
      refine lv_iconst (v := nI 0) hx hb xd_Te_append_31 (by decide) ?_
      have hP9 : va_P G xk_cl [(t, .inr (1, [.ref tc, .int (nI (ap_C cnt x)), .int (nI at_)])), (tc, .inl (cA 1, 300, .inl (tx_A (ap_T tn cnt x))))] _ := hP.sub [0, 1] rfl
      have hD9 : va_D A [(t, .inr (1, [.ref tc, .int (nI (ap_C cnt x)), .int (nI at_)])), (tc, .inl (cA 1, 300, .inl (tx_A (ap_T tn cnt x))))] := hD.sub [0, 1] (by decide) rfl
      exact W.zret (v := nI 0) (ty := .boolean) hx hb hr (by decide) (fun T9 ht hW => ⟨⟨_, (), rfl, by rw [ap_R, if_neg q_n], by rw [ht]; exact hP9, hD9⟩, hS.F ht⟩) hS.2.2 xd_Te_append_32
    · have q_2 := c_9_1
      refine lv_aload_n hx hb xd_Te_append_12 rfl (lv_at hl 0 rfl) ?_
      refine va_get (D := G) (ci := 1) (v := .int (nI cnt)) (C := xc_Te) (T := xf_Te) (N := 3) hx hb hts xw_Te hown hK.1 hP 0 rfl rfl 1 (by decide) (hts _ xm_31) (fun _ h9 => h9) rfl xd_Te_append_13 ?_
      refine lv_if_lt (tgt := 31) hx hb xd_Te_append_16 (by decide) (fun c_16_2 => absurd c_16_2 (nI_pos (by omega))) (fun c_16_2 => ?_)
      refine lv_aload_n hx hb xd_Te_append_19 rfl (lv_at hl 0 rfl) ?_
      refine va_get (D := G) (ci := 1) (v := .int (nI cnt)) (C := xc_Te) (T := xf_Te) (N := 3) hx hb hts xw_Te hown hK.1 hP 0 rfl rfl 1 (by decide) (hts _ xm_31) (fun _ h9 => h9) rfl xd_Te_append_20 ?_
      refine lv_aload_n hx hb xd_Te_append_23 rfl (lv_at hl 0 rfl) ?_
      refine va_get (D := G) (ci := 1) (v := .ref tc) (C := xc_Te) (T := xf_Te) (N := 3) hx hb hts xw_Te hown hK.1 hP 0 rfl rfl 0 (by decide) (hts _ xm_30) (fun _ h9 => h9) rfl xd_Te_append_24 ?_
      refine va_alen hx hb hK.1 hP 1 1 rfl rfl (v := nI 300) rfl xd_Te_append_27 ?_
      refine lv_icmp_lt (tgt := 33) hx hb xd_Te_append_28 (by decide) (fun c_28_3 => ?_) (fun c_28_3 => ?_)
      · have q_3 := nI_gl (by omega) (by decide) c_28_3
        have q_y : (¬ x < nI 32 ∧ ¬ nI 126 < x ∧ cnt < 300) := ⟨q_1, q_2, q_3⟩
        obtain ⟨q_e, q_5, q_6⟩ := ap_N q_1 q_2
        refine lv_aload_n hx hb xd_Te_append_33 rfl (lv_at hl 0 rfl) ?_
        refine va_get (D := G) (ci := 1) (v := .ref tc) (C := xc_Te) (T := xf_Te) (N := 3) hx hb hts xw_Te hown hK.1 hP 0 rfl rfl 0 (by decide) (hts _ xm_30) (fun _ h9 => h9) rfl xd_Te_append_34 ?_
        refine lv_aload_n hx hb xd_Te_append_37 rfl (lv_at hl 0 rfl) ?_
        refine va_get (D := G) (ci := 1) (v := .int (nI cnt)) (C := xc_Te) (T := xf_Te) (N := 3) hx hb hts xw_Te hown hK.1 hP 0 rfl rfl 1 (by decide) (hts _ xm_31) (fun _ h9 => h9) rfl xd_Te_append_38 ?_
        refine lv_iload_n hx hb xd_Te_append_41 rfl (lv_at hl 1 rfl) ?_
        refine lv_i2c (v := nI x.toNatClampNeg) hx hb xd_Te_append_42 (ap_c2 q_e q_6) ?_
        refine wx_cast hx hb hK.1 hP hD hS 1 1 rfl rfl (k := cnt) (z := nI x.toNatClampNeg) (ap_c3 q_6) (by omega) (by decide) xd_Te_append_43 (fun H locs hP hD hS => ?_)
        have hP : va_P G xk_cl [(t, .inr (1, [.ref tc, .int (nI cnt), .int (nI at_)])), (tc, .inl (cA 1, 300, .inl (upd (tx_A tn) cnt (nI x.toNatClampNeg))))] H := hP
        have hD : va_D A [(t, .inr (1, [.ref tc, .int (nI cnt), .int (nI at_)])), (tc, .inl (cA 1, 300, .inl (upd (tx_A tn) cnt (nI x.toNatClampNeg))))] := hD
        refine lv_aload_n hx hb xd_Te_append_44 rfl (lv_at hl 0 rfl) ?_
        refine lv_dup hx hb xd_Te_append_45 rfl ?_
        refine va_get (D := G) (ci := 1) (v := .int (nI cnt)) (C := xc_Te) (T := xf_Te) (N := 3) hx hb hts xw_Te hown hK.1 hP 0 rfl rfl 1 (by decide) (hts _ xm_31) (fun _ h9 => h9) rfl xd_Te_append_46 ?_
        refine lv_iconst (v := nI 1) hx hb xd_Te_append_49 (by decide) ?_
        refine lx_iadd (z := nI (cnt + 1)) hx hb xd_Te_append_50 (nI_add _ _) ?_
        refine va_put (D := G) (ci := 1) (v := .int (nI (cnt + 1))) (ty := .int) (C := xc_Te) (T := xf_Te) (N := 3) hx hb hts xw_Te xt_Te xt_Te_ok xn_Te hown hK.1 hP hD hS 0 rfl rfl 1 (by decide) (hts _ xm_31) (fun _ h9 => h9) rfl (by decide +kernel) rfl rfl (Nat.le_of_ble_eq_true rfl) xd_Te_append_51 (fun H locs hP hD hS => ?_)
        have hP : va_P G xk_cl [(t, .inr (1, [.ref tc, .int (nI (cnt + 1)), .int (nI at_)])), (tc, .inl (cA 1, 300, .inl (upd (tx_A tn) cnt (nI x.toNatClampNeg))))] H := hP
        have hD : va_D A [(t, .inr (1, [.ref tc, .int (nI (cnt + 1)), .int (nI at_)])), (tc, .inl (cA 1, 300, .inl (upd (tx_A tn) cnt (nI x.toNatClampNeg))))] := hD
        have hP : va_P G xk_cl [(t, .inr (1, [.ref tc, .int (nI (ap_C cnt x)), .int (nI at_)])), (tc, .inl (cA 1, 300, .inl (tx_A (ap_T tn cnt x))))] H := by rw [ap_T, ap_C, if_pos q_y, if_pos q_y, ← tx_up]; exact hP
        have hD : va_D A [(t, .inr (1, [.ref tc, .int (nI (ap_C cnt x)), .int (nI at_)])), (tc, .inl (cA 1, 300, .inl (tx_A (ap_T tn cnt x))))] := by rw [ap_T, ap_C, if_pos q_y, if_pos q_y, ← tx_up]; exact hD
        refine lv_iconst (v := nI 1) hx hb xd_Te_append_54 (by decide) ?_
        have hP9 : va_P G xk_cl [(t, .inr (1, [.ref tc, .int (nI (ap_C cnt x)), .int (nI at_)])), (tc, .inl (cA 1, 300, .inl (tx_A (ap_T tn cnt x))))] _ := hP.sub [0, 1] rfl
        have hD9 : va_D A [(t, .inr (1, [.ref tc, .int (nI (ap_C cnt x)), .int (nI at_)])), (tc, .inl (cA 1, 300, .inl (tx_A (ap_T tn cnt x))))] := hD.sub [0, 1] (by decide) rfl
        exact W.zret (v := nI 1) (ty := .boolean) hx hb hr (by decide) (fun T9 ht hW => ⟨⟨_, (), rfl, by rw [ap_R, if_pos q_y], by rw [ht]; exact hP9, hD9⟩, hS.F ht⟩) hS.2.2 xd_Te_append_55
      · have q_3 := nI_gnlt (by omega) (by decide) c_28_3
        have q_n : ¬ (¬ x < nI 32 ∧ ¬ nI 126 < x ∧ cnt < 300) := fun z => by omega
        have hP : va_P G xk_cl [(t, .inr (1, [.ref tc, .int (nI (ap_C cnt x)), .int (nI at_)])), (tc, .inl (cA 1, 300, .inl (tx_A (ap_T tn cnt x))))] s.heap := by rw [ap_T, ap_C, if_neg q_n, if_neg q_n]; exact hP
        have hD : va_D A [(t, .inr (1, [.ref tc, .int (nI (ap_C cnt x)), .int (nI at_)])), (tc, .inl (cA 1, 300, .inl (tx_A (ap_T tn cnt x))))] := by rw [ap_T, ap_C, if_neg q_n, if_neg q_n]; exact hD
        refine lv_iconst (v := nI 0) hx hb xd_Te_append_31 (by decide) ?_
        have hP9 : va_P G xk_cl [(t, .inr (1, [.ref tc, .int (nI (ap_C cnt x)), .int (nI at_)])), (tc, .inl (cA 1, 300, .inl (tx_A (ap_T tn cnt x))))] _ := hP.sub [0, 1] rfl
        have hD9 : va_D A [(t, .inr (1, [.ref tc, .int (nI (ap_C cnt x)), .int (nI at_)])), (tc, .inl (cA 1, 300, .inl (tx_A (ap_T tn cnt x))))] := hD.sub [0, 1] (by decide) rfl
        exact W.zret (v := nI 0) (ty := .boolean) hx hb hr (by decide) (fun T9 ht hW => ⟨⟨_, (), rfl, by rw [ap_R, if_neg q_n], by rw [ht]; exact hP9, hD9⟩, hS.F ht⟩) hS.2.2 xd_Te_append_32
