def jn_p (st ce : Nat → Int32) (m : Nat) : Bool := decide (m / 40 < m % 40) && (sp_mj (m / 40) (st (m / 40)) == nI 1) && (sp_mj (m % 40) (st (m % 40)) == nI 1) && (sp_al ce (m / 40) (m % 40) == nI 1)
def jn_S (st ce : Nat → Int32) : Option Nat := (List.range 1600).find? (jn_p st ce)
def jn_st (st ce : Nat → Int32) : Nat → Int32 := match jn_S st ce with
  | none => st
  | some m => upd st (m % 40) (nI 0)
def jn_ce (st ce : Nat → Int32) : Nat → Int32 := match jn_S st ce with
  | none => ce
  | some m => rd_A (sp_cl ce (m % 40) 26) (en_C (nI 2) (nI (m % 40))) (en_C (nI 2) (nI (m / 40))) 40
def jn_r (st ce : Nat → Int32) : Int32 := match jn_S st ce with
  | none => nI 0
  | some _ => nI 1
theorem jn_none {st ce : Nat → Int32} (h : ∀ m, m < 1600 → jn_p st ce m = false) : jn_S st ce = none := by
  unfold jn_S
  rw [List.find?_eq_none]
  intro m hm
  rw [h m (List.mem_range.mp hm)]
  decide
theorem jn_some {st ce : Nat → Int32} {m : Nat} (hm : m < 1600) (hp : jn_p st ce m = true) (h : ∀ k, k < m → jn_p st ce k = false) : jn_S st ce = some m := by
  unfold jn_S
  rw [List.find?_range_eq_some]
  exact ⟨hp, List.mem_range.mpr hm, fun j hj => by rw [h j hj]; rfl⟩
theorem sp_mj_1 {n : Nat} {x : Int32} (h : ¬ sp_mj n x = 0) : sp_mj n x = nI 1 := by
  unfold sp_mj at h ⊢
  split
  · rename_i q; rw [if_pos q] at h; exact absurd rfl h
  · rfl
theorem sp_al_1 {ce : Nat → Int32} {a b : Nat} (h : ¬ sp_al ce a b = 0) : sp_al ce a b = nI 1 := by
  unfold sp_al at h ⊢
  split
  · rfl
  · rename_i q; rw [if_neg q] at h; exact absurd rfl h
theorem jn_f {st ce : Nat → Int32} {m i j : Nat} (e1 : m / 40 = i) (e2 : m % 40 = j) (h : ¬ i < j ∨ sp_mj i (st i) = 0 ∨ sp_mj j (st j) = 0 ∨ sp_al ce i j = 0) : jn_p st ce m = false := by
  unfold jn_p
  rw [e1, e2]
  rcases h with h | h | h | h
  · rw [decide_eq_false h]; rfl
  · rw [h, show ((0 : Int32) == nI 1) = false from rfl, Bool.and_false]; rfl
  · rw [h, show ((0 : Int32) == nI 1) = false from rfl, Bool.and_false]; rfl
  · rw [h, show ((0 : Int32) == nI 1) = false from rfl, Bool.and_false]
theorem jn_t {st ce : Nat → Int32} {m i j : Nat} (e1 : m / 40 = i) (e2 : m % 40 = j) (h1 : i < j) (h2 : ¬ sp_mj i (st i) = 0) (h3 : ¬ sp_mj j (st j) = 0) (h4 : ¬ sp_al ce i j = 0) : jn_p st ce m = true := by
  unfold jn_p
  rw [e1, e2, decide_eq_true h1, sp_mj_1 h2, sp_mj_1 h3, sp_al_1 h4]
  rfl
theorem jn_found {st ce : Nat → Int32} {i j : Nat} (hi : i < 40) (hj : j < 40) (h1 : i < j) (h2 : ¬ sp_mj i (st i) = 0) (h3 : ¬ sp_mj j (st j) = 0) (h4 : ¬ sp_al ce i j = 0) (h : ∀ k, k < i * 40 + j → jn_p st ce k = false) : jn_S st ce = some (i * 40 + j) := jn_some (by omega) (jn_t (by omega) (by omega) h1 h2 h3 h4) h
theorem jn_ext {st ce : Nat → Int32} {m : Nat} (h : ∀ k, k < m → jn_p st ce k = false) {n : Nat} (g : ∀ k, m ≤ k → k < n → jn_p st ce k = false) : ∀ k, k < n → jn_p st ce k = false := fun k hk => by
  by_cases q : k < m
  · exact h k q
  · exact g k (by omega) hk
theorem jn_st_s {st ce : Nat → Int32} {i j : Nat} (hj : j < 40) (h : jn_S st ce = some (i * 40 + j)) : jn_st st ce = upd st j (nI 0) := by
  unfold jn_st
  rw [h]
  dsimp only
  rw [show (i * 40 + j) % 40 = j by omega]
theorem jn_ce_s {st ce : Nat → Int32} {i j : Nat} (hj : j < 40) (h : jn_S st ce = some (i * 40 + j)) : jn_ce st ce = rd_A (sp_cl ce j 26) (en_C (nI 2) (nI j)) (en_C (nI 2) (nI i)) 40 := by
  unfold jn_ce
  rw [h]
  dsimp only
  rw [show (i * 40 + j) % 40 = j by omega, show (i * 40 + j) / 40 = i by omega]
theorem jn_st_n {st ce : Nat → Int32} (h : jn_S st ce = none) : jn_st st ce = st := by unfold jn_st; rw [h]
theorem jn_ce_n {st ce : Nat → Int32} (h : jn_S st ce = none) : jn_ce st ce = ce := by unfold jn_ce; rw [h]
theorem jn_r_n {st ce : Nat → Int32} (h : jn_S st ce = none) : jn_r st ce = nI 0 := by unfold jn_r; rw [h]
theorem jn_r_s {st ce : Nat → Int32} {m : Nat} (h : jn_S st ce = some m) : jn_r st ce = nI 1 := by unfold jn_r; rw [h]

set_option maxHeartbeats 4000000 in
set_option maxRecDepth 100000 in
theorem ct_St_joinFirstPair (l : Launch) (G : va_G) (cA : Nat → ClassId) (sz : Nat) (o : Nat) (a1 : Nat) (a2 : Nat) (a3 : Nat) (st : Nat → Int32) (ce : Nat → Int32) : Met l xy_St_joinFirstPair (.code xy_St_joinFirstPair xb_St_joinFirstPair 3 (some .boolean) :: tw_W) ({ frames := 4, cells := 0, slots := 0, locals := 91 }) (pc_w G cA [(o, .inr (2, [.ref a1, .ref a2, .ref a3])), (a1, .inl (cA 0, 40, .inl st)), (a2, .inl (cA 0, 40, .inl (sp_kc ce))), (a3, .inl (cA 0, 1040, .inl ce))] sz [.ref o]) (va_Qi (fun (r : Int32) (_ : Unit) => r = jn_r st ce) (fun _ T9 => at_w G (va_A [(o, .inr (2, [.ref a1, .ref a2, .ref a3])), (a1, .inl (cA 0, 40, .inl st)), (a2, .inl (cA 0, 40, .inl (sp_kc ce))), (a3, .inl (cA 0, 1040, .inl ce))] sz) [(o, .inr (2, [.ref a1, .ref a2, .ref a3])), (a1, .inl (cA 0, 40, .inl (jn_st st ce))), (a2, .inl (cA 0, 40, .inl (sp_kc (jn_ce st ce)))), (a3, .inl (cA 0, 1040, .inl (jn_ce st ce)))] T9) (va_A [(o, .inr (2, [.ref a1, .ref a2, .ref a3])), (a1, .inl (cA 0, 40, .inl st)), (a2, .inl (cA 0, 40, .inl (sp_kc ce))), (a3, .inl (cA 0, 1040, .inl ce))] sz)) 0 0 (va_A [(o, .inr (2, [.ref a1, .ref a2, .ref a3])), (a1, .inl (cA 0, 40, .inl st)), (a2, .inl (cA 0, 40, .inl (sp_kc ce))), (a3, .inl (cA 0, 1040, .inl ce))] sz) := by
  refine Met.ofW (cc := xb_St_joinFirstPair) (maxL := 3) (ret := (some .boolean)) (by decide) rfl ?_
  intro p e s m args below meth c s₁ B hml hv
  obtain ⟨rfl, hsz, hK, hP, hD0⟩ := hv
  have hx := B.exec
  have hb := B.bytes
  have hr := B.returns
  have hts0 := atoms_spec (ws := .code xy_St_joinFirstPair xb_St_joinFirstPair 3 (some .boolean) :: tw_W) B.pre
  have hts : ∀ w9 ∈ tw_W, w9.before [.ref o].toArray s = true := fun w9 h9 => hts0 w9 (List.mem_cons_of_mem _ h9)
  have hown : s.vm.findClass xc_St = some m.cls := findClass_of_methodNamed B.named
  have hlocks := B.notSynchronized
  subst hsz
  have hD := hD0.self (sz := s.heap.size)
  generalize hAe : va_A [(o, .inr (2, [.ref a1, .ref a2, .ref a3])), (a1, .inl (cA 0, 40, .inl st)), (a2, .inl (cA 0, 40, .inl (sp_kc ce))), (a3, .inl (cA 0, 1040, .inl ce))] s.heap.size = A at hD ⊢
  have hA : ∀ q : Nat, s.heap.size ≤ q → A q := fun q h => by rw [← hAe]; exact Or.inr h
  have hS : va_S A s.heap s.heap [] := va_S.rf
  have hP : va_P G xk_cl [(o, .inr (2, [.ref a1, .ref a2, .ref a3])), (a1, .inl (cA 0, 40, .inl st)), (a2, .inl (cA 0, 40, .inl (sp_kc ce))), (a3, .inl (cA 0, 1040, .inl ce))] s.heap := hP
  have hl := lv_entry ([.ref o]) (n := 3) (Nat.le_of_ble_eq_true rfl)
  rw [lg_entry_eq]
  generalize (lg_sl ([.ref o]) ++ List.replicate (3 - (lg_sl ([.ref o])).length) Slot.unset).toArray = ls at hl ⊢
  have hl : lv_has ls 3 [(0, .ref o)] := hl
  refine lv_iconst (v := nI 0) hx hb xd_St_joinFirstPair_0 (by decide) ?_
  refine lv_istore_n (lv' := [(1, .int (nI 0)), (0, .ref o)]) hx hb xd_St_joinFirstPair_1 rfl hl (by decide) rfl (fun ls hl => ?_)
  have lp : ∀ (k_lp : Nat) (i : Nat), (i ≤ 40) → (∀ m, m < i * 40 → jn_p st ce m = false) → 40 - i < k_lp → ∀ (H : Heap) (locs : List Loc), va_P G xk_cl [(o, .inr (2, [.ref a1, .ref a2, .ref a3])), (a1, .inl (cA 0, 40, .inl st)), (a2, .inl (cA 0, 40, .inl (sp_kc ce))), (a3, .inl (cA 0, 1040, .inl ce))] H → va_D A [(o, .inr (2, [.ref a1, .ref a2, .ref a3])), (a1, .inl (cA 0, 40, .inl st)), (a2, .inl (cA 0, 40, .inl (sp_kc ce))), (a3, .inl (cA 0, 1040, .inl ce))] → va_S A s.heap H locs → ∀ (ls : Array Slot), lv_has ls 3 [(0, .ref o), (1, .int (nI i))] → W p l e (headSpec (.code xy_St_joinFirstPair xb_St_joinFirstPair 3 (some .boolean) :: tw_W) ({ frames := 4, cells := 0, slots := 0, locals := 91 })).room s m ([.ref o] : List Value).toArray below meth c H locs 0 0 (MQ below (va_Qi (fun (r : Int32) (_ : Unit) => r = jn_r st ce) (fun _ T9 => at_w G A [(o, .inr (2, [.ref a1, .ref a2, .ref a3])), (a1, .inl (cA 0, 40, .inl (jn_st st ce))), (a2, .inl (cA 0, 40, .inl (sp_kc (jn_ce st ce)))), (a3, .inl (cA 0, 1040, .inl (jn_ce st ce)))] T9) A) ([.ref o] : List Value).toArray s 0 0 A) (F0 m 2 ls []) := by
    intro k_lp
    induction k_lp with
    | zero =>
      intro i hi hj hk_lp
      exact absurd hk_lp (Nat.not_lt_zero _)
    | succ k_lp ih_lp =>
      intro i hi hj hk_lp H locs hP hD hS ls hl
      refine lv_iload_n hx hb xd_St_joinFirstPair_2 rfl (lv_at hl 1 rfl) ?_
      refine lv_bipush (v := nI 40) hx hb xd_St_joinFirstPair_3 (by decide) ?_
      refine lv_icmp_ge (tgt := 71) hx hb xd_St_joinFirstPair_5 (by decide) (fun c_5_0 => ?_) (fun c_5_0 => ?_)
      · have e_i : i = 40 := Nat.le_antisymm hi (nI_gle (by decide) (by omega) c_5_0)
        subst e_i
        have hN := jn_none hj
        have hP : va_P G xk_cl [(o, .inr (2, [.ref a1, .ref a2, .ref a3])), (a1, .inl (cA 0, 40, .inl (jn_st st ce))), (a2, .inl (cA 0, 40, .inl (sp_kc (jn_ce st ce)))), (a3, .inl (cA 0, 1040, .inl (jn_ce st ce)))] H := by rw [jn_st_n hN, jn_ce_n hN]; exact hP
        have hD : va_D A [(o, .inr (2, [.ref a1, .ref a2, .ref a3])), (a1, .inl (cA 0, 40, .inl (jn_st st ce))), (a2, .inl (cA 0, 40, .inl (sp_kc (jn_ce st ce)))), (a3, .inl (cA 0, 1040, .inl (jn_ce st ce)))] := by rw [jn_st_n hN, jn_ce_n hN]; exact hD
        refine lv_iconst (v := nI 0) hx hb xd_St_joinFirstPair_71 (by decide) ?_
        have hP9 : va_P G xk_cl [(o, .inr (2, [.ref a1, .ref a2, .ref a3])), (a1, .inl (cA 0, 40, .inl (jn_st st ce))), (a2, .inl (cA 0, 40, .inl (sp_kc (jn_ce st ce)))), (a3, .inl (cA 0, 1040, .inl (jn_ce st ce)))] _ := hP.sub [0, 1, 2, 3] rfl
        have hD9 : va_D A [(o, .inr (2, [.ref a1, .ref a2, .ref a3])), (a1, .inl (cA 0, 40, .inl (jn_st st ce))), (a2, .inl (cA 0, 40, .inl (sp_kc (jn_ce st ce)))), (a3, .inl (cA 0, 1040, .inl (jn_ce st ce)))] := hD.sub [0, 1, 2, 3] (by decide) rfl
        exact W.zret (v := nI 0) (ty := .boolean) hx hb hr (by decide) (fun T9 ht hW => ⟨⟨_, (), rfl, (jn_r_n hN).symm, by rw [ht]; exact hP9, hD9⟩, hS.F ht⟩) hS.2.2 xd_St_joinFirstPair_72
      · have e_i := nI_gnl (by decide) (by omega) c_5_0
        refine lv_aload_n hx hb xd_St_joinFirstPair_8 rfl (lv_at hl 0 rfl) ?_
        refine lv_iload_n hx hb xd_St_joinFirstPair_9 rfl (lv_at hl 1 rfl) ?_
        have hPc := hP.sub (ws' := [(o, .inr (2, [.ref a1, .ref a2, .ref a3])), (a1, .inl (cA 0, 40, .inl st))]) [0, 1] rfl
        refine vp_callSi (va_Run.run (va_runV (As := [.int (nI i)]) (rest := []) ⟨hx, hb, hml, hown, hts⟩ (ct_St_mayJoin l G cA o a1 a2 a3 st i (by omega)) (cwV 1 hts (gi_v xm_457 xm_459 xs_St_mayJoin xm_3 xm_460) rfl rfl rfl ⟨rfl, xh_St_mayJoin⟩ ⟨Nat.le_of_ble_eq_true rfl, Nat.le_of_ble_eq_true rfl⟩) (pv_r hK hPc (ci := 2) (q0 := 0) rfl rfl) rfl rfl hl.1 rfl (lv_room (Nat.le_of_ble_eq_true rfl)) xd_St_joinFirstPair_10 ⟨Nat.le_of_ble_eq_true rfl, Nat.le_of_ble_eq_true rfl⟩)) (fun r_2 q_3 => ?_)
        refine lx_top (z := sp_mj i (st i)) (q_3) ?_
        refine lv_if_ne (tgt := 19) hx hb xd_St_joinFirstPair_13 (by decide) (fun c_13_3 => ?_) (fun c_13_3 => ?_)
        · refine lv_iload_n hx hb xd_St_joinFirstPair_19 rfl (lv_at hl 1 rfl) ?_
          refine lv_iconst (v := nI 1) hx hb xd_St_joinFirstPair_20 (by decide) ?_
          refine lx_iadd (z := nI (i + 1)) hx hb xd_St_joinFirstPair_21 (nI_add _ _) ?_
          refine lv_istore_n (lv' := [(2, .int (nI (i + 1))), (0, .ref o), (1, .int (nI i))]) hx hb xd_St_joinFirstPair_22 rfl hl (by decide) rfl (fun ls hl => ?_)
          have lq : ∀ (k_lq : Nat) (g : Nat), (g ≤ 40) → (i < g) → (∀ m, m < i * 40 + g → jn_p st ce m = false) → 40 - g < k_lq → ∀ (H : Heap) (locs : List Loc), va_P G xk_cl [(o, .inr (2, [.ref a1, .ref a2, .ref a3])), (a1, .inl (cA 0, 40, .inl st)), (a2, .inl (cA 0, 40, .inl (sp_kc ce))), (a3, .inl (cA 0, 1040, .inl ce))] H → va_D A [(o, .inr (2, [.ref a1, .ref a2, .ref a3])), (a1, .inl (cA 0, 40, .inl st)), (a2, .inl (cA 0, 40, .inl (sp_kc ce))), (a3, .inl (cA 0, 1040, .inl ce))] → va_S A s.heap H locs → ∀ (ls : Array Slot), lv_has ls 3 [(0, .ref o), (1, .int (nI i)), (2, .int (nI g))] → W p l e (headSpec (.code xy_St_joinFirstPair xb_St_joinFirstPair 3 (some .boolean) :: tw_W) ({ frames := 4, cells := 0, slots := 0, locals := 91 })).room s m ([.ref o] : List Value).toArray below meth c H locs 0 0 (MQ below (va_Qi (fun (r : Int32) (_ : Unit) => r = jn_r st ce) (fun _ T9 => at_w G A [(o, .inr (2, [.ref a1, .ref a2, .ref a3])), (a1, .inl (cA 0, 40, .inl (jn_st st ce))), (a2, .inl (cA 0, 40, .inl (sp_kc (jn_ce st ce)))), (a3, .inl (cA 0, 1040, .inl (jn_ce st ce)))] T9) A) ([.ref o] : List Value).toArray s 0 0 A) (F0 m 23 ls []) := by
            intro k_lq
            induction k_lq with
            | zero =>
              intro g hg hig hq hk_lq
              exact absurd hk_lq (Nat.not_lt_zero _)
            | succ k_lq ih_lq =>
              intro g hg hig hq hk_lq H locs hP hD hS ls hl
              refine lv_iload_n hx hb xd_St_joinFirstPair_23 rfl (lv_at hl 2 rfl) ?_
              refine lv_bipush (v := nI 40) hx hb xd_St_joinFirstPair_24 (by decide) ?_
              refine lv_icmp_ge (tgt := 65) hx hb xd_St_joinFirstPair_26 (by decide) (fun c_26_4 => ?_) (fun c_26_4 => ?_)
              · have e_g : g = 40 := Nat.le_antisymm hg (nI_gle (by decide) (by omega) c_26_4)
                subst e_g
                refine lv_iinc (v := nI (i + 1)) (lv' := [(1, .int (nI (i + 1))), (0, .ref o), (2, .int (nI 40))]) hx hb xd_St_joinFirstPair_65 hl (k := 1) rfl (nI_inc _) (by decide) rfl (fun ls hl => ?_)
                refine lv_goto (tgt := 2) hx hb xd_St_joinFirstPair_68 (by decide) ?_
                exact ih_lp (i + 1) (by omega) (by rw [Nat.succ_mul]; exact hq) (by omega) _ _ (hP.sub [0, 1, 2, 3] rfl) (hD.sub [0, 1, 2, 3] (by decide) rfl) hS ls (lv_sub hl [1, 0] rfl)
              · have e_g := nI_gnl (by decide) (by omega) c_26_4
                refine lv_aload_n hx hb xd_St_joinFirstPair_29 rfl (lv_at hl 0 rfl) ?_
                refine lv_iload_n hx hb xd_St_joinFirstPair_30 rfl (lv_at hl 2 rfl) ?_
                have hPc := hP.sub (ws' := [(o, .inr (2, [.ref a1, .ref a2, .ref a3])), (a1, .inl (cA 0, 40, .inl st))]) [0, 1] rfl
                refine vp_callSi (va_Run.run (va_runV (As := [.int (nI g)]) (rest := []) ⟨hx, hb, hml, hown, hts⟩ (ct_St_mayJoin l G cA o a1 a2 a3 st g (by omega)) (cwV 1 hts (gi_v xm_457 xm_459 xs_St_mayJoin xm_3 xm_460) rfl rfl rfl ⟨rfl, xh_St_mayJoin⟩ ⟨Nat.le_of_ble_eq_true rfl, Nat.le_of_ble_eq_true rfl⟩) (pv_r hK hPc (ci := 2) (q0 := 0) rfl rfl) rfl rfl hl.1 rfl (lv_room (Nat.le_of_ble_eq_true rfl)) xd_St_joinFirstPair_31 ⟨Nat.le_of_ble_eq_true rfl, Nat.le_of_ble_eq_true rfl⟩)) (fun r_6 q_7 => ?_)
                refine lx_top (z := sp_mj g (st g)) (q_7) ?_
                refine lv_if_eq (tgt := 59) hx hb xd_St_joinFirstPair_34 (by decide) (fun c_34_7 => ?_) (fun c_34_7 => ?_)
                · refine lv_iinc (v := nI (g + 1)) (lv' := [(2, .int (nI (g + 1))), (0, .ref o), (1, .int (nI i))]) hx hb xd_St_joinFirstPair_59 hl (k := 2) rfl (nI_inc _) (by decide) rfl (fun ls hl => ?_)
                  refine lv_goto (tgt := 23) hx hb xd_St_joinFirstPair_62 (by decide) ?_
                  exact ih_lq (g + 1) (by omega) (by omega) (lt_s hq (jn_f (m := i * 40 + g) (i := i) (j := g) (by omega) (by omega) (Or.inr (Or.inr (Or.inl c_34_7))))) (by omega) _ _ (hP.sub [0, 1, 2, 3] rfl) (hD.sub [0, 1, 2, 3] (by decide) rfl) hS ls (lv_sub hl [1, 2, 0] rfl)
                · refine lv_aload_n hx hb xd_St_joinFirstPair_37 rfl (lv_at hl 0 rfl) ?_
                  refine lv_iload_n hx hb xd_St_joinFirstPair_38 rfl (lv_at hl 1 rfl) ?_
                  refine lv_iload_n hx hb xd_St_joinFirstPair_39 rfl (lv_at hl 2 rfl) ?_
                  have hPc := hP.sub (ws' := [(o, .inr (2, [.ref a1, .ref a2, .ref a3])), (a2, .inl (cA 0, 40, .inl (sp_kc ce))), (a3, .inl (cA 0, 1040, .inl ce))]) [0, 2, 3] rfl
                  refine vp_callSi (va_Run.run (va_runV (As := [.int (nI i), .int (nI g)]) (rest := []) ⟨hx, hb, hml, hown, hts⟩ (ct_St_areAlike l G cA o a1 a2 a3 ce i g (by omega) (by omega)) (cwV 2 hts (gi_v xm_461 xm_463 xs_St_areAlike xm_3 xm_464) rfl rfl rfl ⟨rfl, xh_St_areAlike⟩ ⟨Nat.le_of_ble_eq_true rfl, Nat.le_of_ble_eq_true rfl⟩) (pv_r hK hPc (ci := 2) (q0 := 0) rfl rfl) rfl rfl hl.1 rfl (lv_room (Nat.le_of_ble_eq_true rfl)) xd_St_joinFirstPair_40 ⟨Nat.le_of_ble_eq_true rfl, Nat.le_of_ble_eq_true rfl⟩)) (fun r_9 q_10 => ?_)
                  refine lx_top (z := sp_al ce i g) (q_10) ?_
                  refine lv_if_eq (tgt := 59) hx hb xd_St_joinFirstPair_43 (by decide) (fun c_43_10 => ?_) (fun c_43_10 => ?_)
                  · refine lv_iinc (v := nI (g + 1)) (lv' := [(2, .int (nI (g + 1))), (0, .ref o), (1, .int (nI i))]) hx hb xd_St_joinFirstPair_59 hl (k := 2) rfl (nI_inc _) (by decide) rfl (fun ls hl => ?_)
                    refine lv_goto (tgt := 23) hx hb xd_St_joinFirstPair_62 (by decide) ?_
                    exact ih_lq (g + 1) (by omega) (by omega) (lt_s hq (jn_f (m := i * 40 + g) (i := i) (j := g) (by omega) (by omega) (Or.inr (Or.inr (Or.inr c_43_10))))) (by omega) _ _ (hP.sub [0, 1, 2, 3] rfl) (hD.sub [0, 1, 2, 3] (by decide) rfl) hS ls (lv_sub hl [1, 2, 0] rfl)
                  · refine lv_aload_n hx hb xd_St_joinFirstPair_46 rfl (lv_at hl 0 rfl) ?_
                    refine lv_iload_n hx hb xd_St_joinFirstPair_47 rfl (lv_at hl 2 rfl) ?_
                    have hPc := hP
                    have hDc := hD.sub (ws' := [(o, .inr (2, [.ref a1, .ref a2, .ref a3])), (a1, .inl (cA 0, 40, .inl st)), (a2, .inl (cA 0, 40, .inl (sp_kc ce))), (a3, .inl (cA 0, 1040, .inl ce))]) [0, 1, 2, 3] (by decide) rfl
                    have hFc := va_free (wc := [(o, .inr (2, [.ref a1, .ref a2, .ref a3])), (a1, .inl (cA 0, 40, .inl st)), (a2, .inl (cA 0, 40, .inl (sp_kc ce))), (a3, .inl (cA 0, 1040, .inl ce))]) hD hS hA [0, 1, 2, 3] rfl
                    refine va_callv (va_runV (As := [.int (nI g)]) (rest := []) ⟨hx, hb, hml, hown, hts⟩ (ct_St_takeAway l G cA H.size o a1 a2 a3 st ce g (by omega)) (cwV 1 hts (gi_v xm_466 xm_312 xm_313 xm_3 xm_314) rfl rfl rfl ⟨rfl, xh_St_takeAway⟩ ⟨Nat.le_of_ble_eq_true rfl, Nat.le_of_ble_eq_true rfl⟩) (pv_w hK hPc hDc (ci := 2) (q0 := 0) rfl rfl) rfl rfl hl.1 rfl (lv_room (Nat.le_of_ble_eq_true rfl)) xd_St_joinFirstPair_48 ⟨Nat.le_of_ble_eq_true rfl, Nat.le_of_ble_eq_true rfl⟩) hS (fun q _ h => hFc q h) hFc (fun u9 t9 H1 locs ht hvm q_13 hB hz1 hk1 hS => ?_)
                    obtain ⟨hP1, hD1⟩ := hB
                    rw [ht] at hP1
                    obtain ⟨hP, hD⟩ := va_join (wr := []) (w1 := [(o, .inr (2, [.ref a1, .ref a2, .ref a3])), (a1, .inl (cA 0, 40, .inl (upd st g (nI 0)))), (a2, .inl (cA 0, 40, .inl (sp_kc (sp_cl ce g 26)))), (a3, .inl (cA 0, 1040, .inl (sp_cl ce g 26)))]) hP hD [0, 1, 2, 3] [] rfl rfl (by decide) (by decide) hk1 hFc hP1 hD1
                    generalize H1 = H at hP hS ⊢
                    have hP : va_P G xk_cl [(o, .inr (2, [.ref a1, .ref a2, .ref a3])), (a1, .inl (cA 0, 40, .inl (upd st g (nI 0)))), (a2, .inl (cA 0, 40, .inl (sp_kc (sp_cl ce g 26)))), (a3, .inl (cA 0, 1040, .inl (sp_cl ce g 26)))] H := hP
                    have hD : va_D A [(o, .inr (2, [.ref a1, .ref a2, .ref a3])), (a1, .inl (cA 0, 40, .inl (upd st g (nI 0)))), (a2, .inl (cA 0, 40, .inl (sp_kc (sp_cl ce g 26)))), (a3, .inl (cA 0, 1040, .inl (sp_cl ce g 26)))] := hD
                    refine lv_aload_n hx hb xd_St_joinFirstPair_51 rfl (lv_at hl 0 rfl) ?_
                    refine lv_iload_n hx hb xd_St_joinFirstPair_52 rfl (lv_at hl 2 rfl) ?_
                    refine lv_iload_n hx hb xd_St_joinFirstPair_53 rfl (lv_at hl 1 rfl) ?_
                    have hPc := hP.sub (ws' := [(o, .inr (2, [.ref a1, .ref a2, .ref a3])), (a2, .inl (cA 0, 40, .inl (sp_kc (sp_cl ce g 26)))), (a3, .inl (cA 0, 1040, .inl (sp_cl ce g 26)))]) [0, 2, 3] rfl
                    have hDc := hD.sub (ws' := [(o, .inr (2, [.ref a1, .ref a2, .ref a3])), (a2, .inl (cA 0, 40, .inl (sp_kc (sp_cl ce g 26)))), (a3, .inl (cA 0, 1040, .inl (sp_cl ce g 26)))]) [0, 2, 3] (by decide) rfl
                    have hFc := va_free (wc := [(o, .inr (2, [.ref a1, .ref a2, .ref a3])), (a2, .inl (cA 0, 40, .inl (sp_kc (sp_cl ce g 26)))), (a3, .inl (cA 0, 1040, .inl (sp_cl ce g 26)))]) hD hS hA [0, 2, 3] rfl
                    refine va_callv (va_runV (As := [.int (nI g), .int (nI i)]) (rest := []) ⟨hx, hb, hml, hown, hts⟩ (ct_St_redirect l G cA H.size o a1 a2 a3 (sp_cl ce g 26) g i (by omega)) (cwV 2 hts (gi_v xm_467 xm_469 xs_St_redirect xm_3 xm_470) rfl rfl rfl ⟨rfl, xh_St_redirect⟩ ⟨Nat.le_of_ble_eq_true rfl, Nat.le_of_ble_eq_true rfl⟩) (pv_w hK hPc hDc (ci := 2) (q0 := 0) rfl rfl) rfl rfl hl.1 rfl (lv_room (Nat.le_of_ble_eq_true rfl)) xd_St_joinFirstPair_54 ⟨Nat.le_of_ble_eq_true rfl, Nat.le_of_ble_eq_true rfl⟩) hS (fun q _ h => hFc q h) hFc (fun u9 t9 H1 locs ht hvm q_15 hB hz1 hk1 hS => ?_)
                    obtain ⟨hP1, hD1⟩ := hB
                    rw [ht] at hP1
                    obtain ⟨hP, hD⟩ := va_join (wr := [(a1, .inl (cA 0, 40, .inl (upd st g (nI 0))))]) (w1 := [(o, .inr (2, [.ref a1, .ref a2, .ref a3])), (a2, .inl (cA 0, 40, .inl (sp_kc (rd_A (sp_cl ce g 26) (en_C (nI 2) (nI g)) (en_C (nI 2) (nI i)) 40)))), (a3, .inl (cA 0, 1040, .inl (rd_A (sp_cl ce g 26) (en_C (nI 2) (nI g)) (en_C (nI 2) (nI i)) 40)))]) hP hD [0, 2, 3] [1] rfl rfl (by decide) (by decide) hk1 hFc hP1 hD1
                    generalize H1 = H at hP hS ⊢
                    have hP : va_P G xk_cl [(a1, .inl (cA 0, 40, .inl (upd st g (nI 0)))), (o, .inr (2, [.ref a1, .ref a2, .ref a3])), (a2, .inl (cA 0, 40, .inl (sp_kc (rd_A (sp_cl ce g 26) (en_C (nI 2) (nI g)) (en_C (nI 2) (nI i)) 40)))), (a3, .inl (cA 0, 1040, .inl (rd_A (sp_cl ce g 26) (en_C (nI 2) (nI g)) (en_C (nI 2) (nI i)) 40)))] H := hP
                    have hD : va_D A [(a1, .inl (cA 0, 40, .inl (upd st g (nI 0)))), (o, .inr (2, [.ref a1, .ref a2, .ref a3])), (a2, .inl (cA 0, 40, .inl (sp_kc (rd_A (sp_cl ce g 26) (en_C (nI 2) (nI g)) (en_C (nI 2) (nI i)) 40)))), (a3, .inl (cA 0, 1040, .inl (rd_A (sp_cl ce g 26) (en_C (nI 2) (nI g)) (en_C (nI 2) (nI i)) 40)))] := hD
                    have hF := jn_found (st := st) (ce := ce) e_i e_g hig c_13_3 c_34_7 c_43_10 hq
                    have hP : va_P G xk_cl [(a1, .inl (cA 0, 40, .inl (jn_st st ce))), (o, .inr (2, [.ref a1, .ref a2, .ref a3])), (a2, .inl (cA 0, 40, .inl (sp_kc (jn_ce st ce)))), (a3, .inl (cA 0, 1040, .inl (jn_ce st ce)))] H := by rw [jn_st_s e_g hF, jn_ce_s e_g hF]; exact hP
                    have hD : va_D A [(a1, .inl (cA 0, 40, .inl (jn_st st ce))), (o, .inr (2, [.ref a1, .ref a2, .ref a3])), (a2, .inl (cA 0, 40, .inl (sp_kc (jn_ce st ce)))), (a3, .inl (cA 0, 1040, .inl (jn_ce st ce)))] := by rw [jn_st_s e_g hF, jn_ce_s e_g hF]; exact hD
                    refine lv_iconst (v := nI 1) hx hb xd_St_joinFirstPair_57 (by decide) ?_
                    have hP9 : va_P G xk_cl [(o, .inr (2, [.ref a1, .ref a2, .ref a3])), (a1, .inl (cA 0, 40, .inl (jn_st st ce))), (a2, .inl (cA 0, 40, .inl (sp_kc (jn_ce st ce)))), (a3, .inl (cA 0, 1040, .inl (jn_ce st ce)))] _ := hP.sub [1, 0, 2, 3] rfl
                    have hD9 : va_D A [(o, .inr (2, [.ref a1, .ref a2, .ref a3])), (a1, .inl (cA 0, 40, .inl (jn_st st ce))), (a2, .inl (cA 0, 40, .inl (sp_kc (jn_ce st ce)))), (a3, .inl (cA 0, 1040, .inl (jn_ce st ce)))] := hD.sub [1, 0, 2, 3] (by decide) rfl
                    exact W.zret (v := nI 1) (ty := .boolean) hx hb hr (by decide) (fun T9 ht hW => ⟨⟨_, (), rfl, (jn_r_s hF).symm, by rw [ht]; exact hP9, hD9⟩, hS.F ht⟩) hS.2.2 xd_St_joinFirstPair_58
          exact lq ((40 - (i + 1)) + 1) (i + 1) (by omega) (by omega) (jn_ext hj (fun k h1 h2 => jn_f (i := i) (j := k - i * 40) (by omega) (by omega) (Or.inl (by omega)))) (Nat.lt_succ_self _) _ _ (hP.sub [0, 1, 2, 3] rfl) (hD.sub [0, 1, 2, 3] (by decide) rfl) hS ls (lv_sub hl [1, 2, 0] rfl)
        · refine lv_goto (tgt := 65) hx hb xd_St_joinFirstPair_16 (by decide) ?_
          refine lv_iinc (v := nI (i + 1)) (lv' := [(1, .int (nI (i + 1))), (0, .ref o)]) hx hb xd_St_joinFirstPair_65 hl (k := 1) rfl (nI_inc _) (by decide) rfl (fun ls hl => ?_)
          refine lv_goto (tgt := 2) hx hb xd_St_joinFirstPair_68 (by decide) ?_
          exact ih_lp (i + 1) (by omega) (jn_ext hj (fun k h1 h2 => jn_f (i := i) (j := k - i * 40) (by omega) (by omega) (Or.inr (Or.inl c_13_3)))) (by omega) _ _ (hP.sub [0, 1, 2, 3] rfl) (hD.sub [0, 1, 2, 3] (by decide) rfl) hS ls (lv_sub hl [1, 0] rfl)
  exact lp ((40 - 0) + 1) 0 (by omega) (fun m h => absurd h (by omega)) (Nat.lt_succ_self _) _ _ (hP.sub [0, 1, 2, 3] rfl) (hD.sub [0, 1, 2, 3] (by decide) rfl) hS ls (lv_sub hl [1, 0] rfl)
