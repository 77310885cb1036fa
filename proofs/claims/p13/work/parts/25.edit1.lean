def cv_N (x : Int32) : Nat := (en_V x).toNatClampNeg
def wv_O (ce : Nat → Int32) : Prop := ∀ j, j < 1040 → en_K (ce j) = nI 2 → en_V (ce j) = nI (cv_N (ce j)) ∧ cv_N (ce j) < 40
theorem sp_th_z {x : Int32} : sp_th x = 0 ↔ x = 0 := by
  unfold sp_th
  by_cases q : x = 0
  · rw [if_pos q]; exact ⟨fun _ => q, fun _ => rfl⟩
  · rw [if_neg q]; exact ⟨fun z => absurd z (by decide), fun z => absurd z q⟩
theorem sp_sg_z {x : Int32} : sp_sg x = 0 ↔ ¬ x = nI 2 := by
  unfold sp_sg
  by_cases q : x = nI 2
  · rw [if_pos q]; exact ⟨fun z => absurd z (by decide), fun z => absurd q z⟩
  · rw [if_neg q]; exact ⟨fun _ => q, fun _ => rfl⟩
abbrev fo_C (st ce : Nat → Int32) (j : Nat) : Prop := en_K (ce j) = nI 2 ∧ ¬ st (cv_N (ce j)) = 0
def fo_F (st ce : Nat → Int32) (kn : Nat → Nat) : Nat → Option Nat
  | 0 => some 0
  | i + 1 => match fo_F st ce kn i with
    | none => none
    | some n => if fo_C st ce (n * 26 + kn i) then some (cv_N (ce (n * 26 + kn i))) else none
def fo_R (o : Option Nat) : Int32 := match o with
  | none => -1
  | some n => nI n
theorem fo_F_t {st ce : Nat → Int32} {kn : Nat → Nat} {i n : Nat} (hf : fo_F st ce kn i = some n) (hc : fo_C st ce (n * 26 + kn i)) : fo_F st ce kn (i + 1) = some (cv_N (ce (n * 26 + kn i))) := by
  rw [fo_F, hf]
  exact if_pos hc
theorem fo_F_f {st ce : Nat → Int32} {kn : Nat → Nat} {i n : Nat} (hf : fo_F st ce kn i = some n) (hc : ¬ fo_C st ce (n * 26 + kn i)) : ∀ m, i + 1 ≤ m → fo_F st ce kn m = none := by
  intro m hm
  induction m with
  | zero => omega
  | succ m ih =>
    by_cases e : m = i
    · rw [e, fo_F, hf]; exact if_neg hc
    · rw [fo_F, ih (by omega)]
theorem fo_F_l {st ce : Nat → Int32} (hv : wv_O ce) {kn : Nat → Nat} : ∀ {i n : Nat}, (∀ j, j < i → kn j < 26) → fo_F st ce kn i = some n → n < 40
  | 0, n, _, h => by rw [fo_F] at h; rw [← Option.some.inj h]; decide
  | i + 1, n, hk, h => by
    rw [fo_F] at h
    cases e : fo_F st ce kn i with
    | none => rw [e] at h; cases h
    | some m =>
      rw [e] at h
      dsimp only at h
      have hm := fo_F_l hv (fun j hj => hk j (by omega)) e
      have hki := hk i (by omega)
      by_cases q : fo_C st ce (m * 26 + kn i)
      · rw [if_pos q] at h
        rw [← Option.some.inj h]
        exact (hv _ (by omega) q.1).2
      · rw [if_neg q] at h; cases h
theorem fo_F_cg {st ce : Nat → Int32} {kn ky : Nat → Nat} : ∀ {i : Nat}, (∀ j, j < i → kn j = ky j) → fo_F st ce kn i = fo_F st ce ky i
  | 0, _ => rfl
  | i + 1, h => by rw [fo_F, fo_F, fo_F_cg (fun j hj => h j (by omega)), h i (by omega)]
abbrev cl_P (fo x : Int32) : Prop := fo = 0 ∧ x = nI 2
def cl_D (fo x : Int32) : Int32 := if cl_P fo x then nI 1 else nI 0
theorem cl_D_z {fo x : Int32} : cl_D fo x = 0 ↔ ¬ cl_P fo x := by
  unfold cl_D
  by_cases q : cl_P fo x
  · rw [if_pos q]; exact ⟨fun z => absurd z (by decide), fun z => absurd q z⟩
  · rw [if_neg q]; exact ⟨fun _ => q, fun _ => rfl⟩
set_option maxHeartbeats 4000000 in
set_option maxRecDepth 100000 in
theorem ct_Ed_lines (l : Launch) (G : va_G) (cA : Nat → ClassId) (ed : Nat) (li : Nat) (fo : Int32) (l1 : Int32) (l2 : Int32) (o : Nat) : Met l xy_Ed_lines (.code xy_Ed_lines xb_Ed_lines 1 (some .int) :: tw_W) ({ frames := 0, cells := 0, slots := 0, locals := 0 }) (pc_r G cA [(ed, .inr (3, [.ref o, .ref li, .int fo, .int l1, .int l2]))] [.ref ed]) (vp_Si (fun r : Int32 => r = l1)) 0 0 (fun _ => False) := by
  refine Met.ofW (cc := xb_Ed_lines) (maxL := 1) (ret := (some .int)) (by decide) rfl ?_
  intro p e s m args below meth c s₁ B hml hv
  obtain ⟨rfl, hK, hP⟩ := hv
  have hx := B.exec
  have hb := B.bytes
  have hr := B.returns
  have hts0 := atoms_spec (ws := .code xy_Ed_lines xb_Ed_lines 1 (some .int) :: tw_W) B.pre
  have hts : ∀ w9 ∈ tw_W, w9.before [.ref ed].toArray s = true := fun w9 h9 => hts0 w9 (List.mem_cons_of_mem _ h9)
  have hown : s.vm.findClass xc_Ed = some m.cls := findClass_of_methodNamed B.named
  have hlocks := B.notSynchronized
  have hP : va_P G xk_cl [(ed, .inr (3, [.ref o, .ref li, .int fo, .int l1, .int l2]))] s.heap := hP
  have hl := lv_entry ([.ref ed]) (n := 1) (Nat.le_of_ble_eq_true rfl)
  rw [lg_entry_eq]
  generalize (lg_sl ([.ref ed]) ++ List.replicate (1 - (lg_sl ([.ref ed])).length) Slot.unset).toArray = ls at hl ⊢
  have hl : lv_has ls 1 [(0, .ref ed)] := hl
  refine lv_aload_n hx hb xd_Ed_lines_0 rfl (lv_at hl 0 rfl) ?_
  refine va_get (D := G) (ci := 3) (v := .int l1) (C := xc_Ed) (T := xf_Ed) (N := 5) hx hb hts xw_Ed hown hK.1 hP 0 rfl rfl 3 (by decide) (hts _ xm_111) (fun _ h9 => h9) rfl xd_Ed_lines_1 ?_
  exact W.iret (v := l1) hx hb hr (fun T9 ht _ => ⟨_, rfl, rfl, ht⟩) (fun _ h => absurd h List.not_mem_nil) xd_Ed_lines_4
set_option maxHeartbeats 4000000 in
set_option maxRecDepth 100000 in
theorem ct_Ed_passedLines (l : Launch) (G : va_G) (cA : Nat → ClassId) (ed : Nat) (li : Nat) (fo : Int32) (l1 : Int32) (l2 : Int32) (o : Nat) : Met l xy_Ed_passedLines (.code xy_Ed_passedLines xb_Ed_passedLines 1 (some .int) :: tw_W) ({ frames := 0, cells := 0, slots := 0, locals := 0 }) (pc_r G cA [(ed, .inr (3, [.ref o, .ref li, .int fo, .int l1, .int l2]))] [.ref ed]) (vp_Si (fun r : Int32 => r = l2)) 0 0 (fun _ => False) := by
  refine Met.ofW (cc := xb_Ed_passedLines) (maxL := 1) (ret := (some .int)) (by decide) rfl ?_
  intro p e s m args below meth c s₁ B hml hv
  obtain ⟨rfl, hK, hP⟩ := hv
  have hx := B.exec
  have hb := B.bytes
  have hr := B.returns
  have hts0 := atoms_spec (ws := .code xy_Ed_passedLines xb_Ed_passedLines 1 (some .int) :: tw_W) B.pre
  have hts : ∀ w9 ∈ tw_W, w9.before [.ref ed].toArray s = true := fun w9 h9 => hts0 w9 (List.mem_cons_of_mem _ h9)
  have hown : s.vm.findClass xc_Ed = some m.cls := findClass_of_methodNamed B.named
  have hlocks := B.notSynchronized
  have hP : va_P G xk_cl [(ed, .inr (3, [.ref o, .ref li, .int fo, .int l1, .int l2]))] s.heap := hP
  have hl := lv_entry ([.ref ed]) (n := 1) (Nat.le_of_ble_eq_true rfl)
  rw [lg_entry_eq]
  generalize (lg_sl ([.ref ed]) ++ List.replicate (1 - (lg_sl ([.ref ed])).length) Slot.unset).toArray = ls at hl ⊢
  have hl : lv_has ls 1 [(0, .ref ed)] := hl
  refine lv_aload_n hx hb xd_Ed_passedLines_0 rfl (lv_at hl 0 rfl) ?_
  refine va_get (D := G) (ci := 3) (v := .int l2) (C := xc_Ed) (T := xf_Ed) (N := 5) hx hb hts xw_Ed hown hK.1 hP 0 rfl rfl 4 (by decide) (hts _ xm_112) (fun _ h9 => h9) rfl xd_Ed_passedLines_1 ?_
  exact W.iret (v := l2) hx hb hr (fun T9 ht _ => ⟨_, rfl, rfl, ht⟩) (fun _ h => absurd h List.not_mem_nil) xd_Ed_passedLines_4
set_option maxHeartbeats 4000000 in
set_option maxRecDepth 100000 in
theorem ct_Ed_isClosed (l : Launch) (G : va_G) (cA : Nat → ClassId) (ed : Nat) (li : Nat) (fo : Int32) (l1 : Int32) (l2 : Int32) (o : Nat) (a1 : Nat) (a2 : Nat) (a3 : Nat) (st : Nat → Int32) (n : Nat) (hn : n < 40) : Met l xy_Ed_isClosed (.code xy_Ed_isClosed xb_Ed_isClosed 2 (some .boolean) :: tw_W) ({ frames := 2, cells := 0, slots := 0, locals := 41 }) (pc_r G cA [(ed, .inr (3, [.ref o, .ref li, .int fo, .int l1, .int l2])), (o, .inr (2, [.ref a1, .ref a2, .ref a3])), (a1, .inl (cA 0, 40, .inl st))] [.ref ed, .int (nI n)]) (vp_Si (fun r : Int32 => r = cl_D fo (st n))) 0 0 (fun _ => False) := by
  refine Met.ofW (cc := xb_Ed_isClosed) (maxL := 2) (ret := (some .boolean)) (by decide) rfl ?_
  intro p e s m args below meth c s₁ B hml hv
  obtain ⟨rfl, hK, hP⟩ := hv
  have hx := B.exec
  have hb := B.bytes
  have hr := B.returns
  have hts0 := atoms_spec (ws := .code xy_Ed_isClosed xb_Ed_isClosed 2 (some .boolean) :: tw_W) B.pre
  have hts : ∀ w9 ∈ tw_W, w9.before [.ref ed, .int (nI n)].toArray s = true := fun w9 h9 => hts0 w9 (List.mem_cons_of_mem _ h9)
  have hown : s.vm.findClass xc_Ed = some m.cls := findClass_of_methodNamed B.named
  have hlocks := B.notSynchronized
  have hP : va_P G xk_cl [(ed, .inr (3, [.ref o, .ref li, .int fo, .int l1, .int l2])), (o, .inr (2, [.ref a1, .ref a2, .ref a3])), (a1, .inl (cA 0, 40, .inl st))] s.heap := hP
  have hl := lv_entry ([.ref ed, .int (nI n)]) (n := 2) (Nat.le_of_ble_eq_true rfl)
  rw [lg_entry_eq]
  generalize (lg_sl ([.ref ed, .int (nI n)]) ++ List.replicate (2 - (lg_sl ([.ref ed, .int (nI n)])).length) Slot.unset).toArray = ls at hl ⊢
  have hl : lv_has ls 2 [(0, .ref ed), (1, .int (nI n))] := hl
  refine lv_aload_n hx hb xd_Ed_isClosed_0 rfl (lv_at hl 0 rfl) ?_
  refine va_get (D := G) (ci := 3) (v := .int fo) (C := xc_Ed) (T := xf_Ed) (N := 5) hx hb hts xw_Ed hown hK.1 hP 0 rfl rfl 2 (by decide) (hts _ xm_110) (fun _ h9 => h9) rfl xd_Ed_isClosed_1 ?_
  refine lv_if_ne (tgt := 22) hx hb xd_Ed_isClosed_4 (by decide) (fun c_4_0 => ?_) (fun c_4_0 => ?_)
  · refine lv_iconst (v := nI 0) hx hb xd_Ed_isClosed_22 (by decide) ?_
    exact W.zret (v := nI 0) (ty := .boolean) hx hb hr (by decide) (fun T9 ht _ => ⟨_, rfl, by rw [cl_D, if_neg (fun z => c_4_0 z.1)], ht⟩) (fun _ h => absurd h List.not_mem_nil) xd_Ed_isClosed_23
  · refine lv_aload_n hx hb xd_Ed_isClosed_7 rfl (lv_at hl 0 rfl) ?_
    refine va_get (D := G) (ci := 3) (v := .ref o) (C := xc_Ed) (T := xf_Ed) (N := 5) hx hb hts xw_Ed hown hK.1 hP 0 rfl rfl 0 (by decide) (hts _ xm_108) (fun _ h9 => h9) rfl xd_Ed_isClosed_8 ?_
    refine lv_iload_n hx hb xd_Ed_isClosed_11 rfl (lv_at hl 1 rfl) ?_
    have hPc := hP.sub (ws' := [(o, .inr (2, [.ref a1, .ref a2, .ref a3])), (a1, .inl (cA 0, 40, .inl st))]) [1, 2] rfl
    refine vp_callSi (va_Run.run (va_runV (As := [.int (nI n)]) (rest := []) ⟨hx, hb, hml, hown, hts⟩ (ct_St_isSigned l G cA o a1 a2 a3 st n (by omega)) (cwV 1 hts (gi_v xm_307 xm_308 xm_309 xm_3 xm_310) rfl rfl rfl ⟨rfl, xh_St_isSigned⟩ ⟨Nat.le_of_ble_eq_true rfl, Nat.le_of_ble_eq_true rfl⟩) (pv_r hK hPc (ci := 2) (q0 := 0) rfl rfl) rfl rfl hl.1 rfl (lv_room (Nat.le_of_ble_eq_true rfl)) xd_Ed_isClosed_12 ⟨Nat.le_of_ble_eq_true rfl, Nat.le_of_ble_eq_true rfl⟩)) (fun r_2 q_3 => ?_)
    refine lx_top (z := sp_sg (st n)) (q_3) ?_
    refine lv_if_eq (tgt := 22) hx hb xd_Ed_isClosed_15 (by decide) (fun c_15_3 => ?_) (fun c_15_3 => ?_)
    · refine lv_iconst (v := nI 0) hx hb xd_Ed_isClosed_22 (by decide) ?_
      exact W.zret (v := nI 0) (ty := .boolean) hx hb hr (by decide) (fun T9 ht _ => ⟨_, rfl, by rw [cl_D, if_neg (fun z => (sp_sg_z.mp c_15_3) z.2)], ht⟩) (fun _ h => absurd h List.not_mem_nil) xd_Ed_isClosed_23
    · refine lv_iconst (v := nI 1) hx hb xd_Ed_isClosed_18 (by decide) ?_
      refine lv_goto (tgt := 23) hx hb xd_Ed_isClosed_19 (by decide) ?_
      exact W.zret (v := nI 1) (ty := .boolean) hx hb hr (by decide) (fun T9 ht _ => ⟨_, rfl, by rw [cl_D, if_pos (⟨c_4_0, Classical.byContradiction fun z => c_15_3 (sp_sg_z.mpr z)⟩)], ht⟩) (fun _ h => absurd h List.not_mem_nil) xd_Ed_isClosed_23
set_option maxHeartbeats 4000000 in
set_option maxRecDepth 100000 in
theorem ct_Ed_follow (l : Launch) (G : va_G) (cA : Nat → ClassId) (ed : Nat) (li : Nat) (fo : Int32) (l1 : Int32) (l2 : Int32) (o : Nat) (a1 : Nat) (a2 : Nat) (a3 : Nat) (pa : Nat) (pk : Nat) (pn : Nat) (kn : Nat → Nat) (st : Nat → Int32) (ce : Nat → Int32) (hv : wv_O ce) (hk : ∀ j, j < pn → kn j < 26) (h0 : 0 < pn) (h8 : pn ≤ 8) : Met l xy_Ed_follow (.code xy_Ed_follow xb_Ed_follow 5 (some .int) :: tw_W) ({ frames := 2, cells := 0, slots := 0, locals := 42 }) (pc_r G cA [(ed, .inr (3, [.ref o, .ref li, .int fo, .int l1, .int l2])), (o, .inr (2, [.ref a1, .ref a2, .ref a3])), (a1, .inl (cA 0, 40, .inl st)), (a3, .inl (cA 0, 1040, .inl ce)), (pa, .inr (5, [.ref pk, .int (nI pn)])), (pk, .inl (cA 0, 8, .inl (tx_A kn)))] [.ref ed, .ref pa]) (vp_Si (fun r : Int32 => r = fo_R (fo_F st ce kn (pn - 1)))) 0 0 (fun _ => False) := by
  refine Met.ofW (cc := xb_Ed_follow) (maxL := 5) (ret := (some .int)) (by decide) rfl ?_
  intro p e s m args below meth c s₁ B hml hv
  obtain ⟨rfl, hK, hP⟩ := hv
  have hx := B.exec
  have hb := B.bytes
  have hr := B.returns
  have hts0 := atoms_spec (ws := .code xy_Ed_follow xb_Ed_follow 5 (some .int) :: tw_W) B.pre
  have hts : ∀ w9 ∈ tw_W, w9.before [.ref ed, .ref pa].toArray s = true := fun w9 h9 => hts0 w9 (List.mem_cons_of_mem _ h9)
  have hown : s.vm.findClass xc_Ed = some m.cls := findClass_of_methodNamed B.named
  have hlocks := B.notSynchronized
  have hP : va_P G xk_cl [(ed, .inr (3, [.ref o, .ref li, .int fo, .int l1, .int l2])), (o, .inr (2, [.ref a1, .ref a2, .ref a3])), (a1, .inl (cA 0, 40, .inl st)), (a3, .inl (cA 0, 1040, .inl ce)), (pa, .inr (5, [.ref pk, .int (nI pn)])), (pk, .inl (cA 0, 8, .inl (tx_A kn)))] s.heap := hP
  have hl := lv_entry ([.ref ed, .ref pa]) (n := 5) (Nat.le_of_ble_eq_true rfl)
  rw [lg_entry_eq]
  generalize (lg_sl ([.ref ed, .ref pa]) ++ List.replicate (5 - (lg_sl ([.ref ed, .ref pa])).length) Slot.unset).toArray = ls at hl ⊢
  have hl : lv_has ls 5 [(0, .ref ed), (1, .ref pa)] := hl
  refine lv_iconst (v := nI 0) hx hb xd_Ed_follow_0 (by decide) ?_
  refine lv_istore_n (lv' := [(2, .int (nI 0)), (0, .ref ed), (1, .ref pa)]) hx hb xd_Ed_follow_1 rfl hl (by decide) rfl (fun ls hl => ?_)
  refine lv_iconst (v := nI 0) hx hb xd_Ed_follow_2 (by decide) ?_
  refine lv_istore_n (lv' := [(3, .int (nI 0)), (2, .int (nI 0)), (0, .ref ed), (1, .ref pa)]) hx hb xd_Ed_follow_3 rfl hl (by decide) rfl (fun ls hl => ?_)
  have lp : ∀ (k_lp : Nat) (i : Nat) (n : Nat), (i ≤ pn - 1) → (fo_F st ce kn i = some n) → (n < 40) → pn - i < k_lp → ∀ (ls : Array Slot), lv_has ls 5 [(0, .ref ed), (1, .ref pa), (2, .int (nI n)), (3, .int (nI i))] → W p l e (headSpec (.code xy_Ed_follow xb_Ed_follow 5 (some .int) :: tw_W) ({ frames := 2, cells := 0, slots := 0, locals := 42 })).room s m ([.ref ed, .ref pa] : List Value).toArray below meth c s.heap [] 0 0 (MQ below (vp_Si (fun r : Int32 => r = fo_R (fo_F st ce kn (pn - 1)))) ([.ref ed, .ref pa] : List Value).toArray s 0 0 (fun _ => False)) (F0 m 4 ls []) := by
    intro k_lp
    induction k_lp with
    | zero =>
      intro i n hi hf hn hk_lp
      exact absurd hk_lp (Nat.not_lt_zero _)
    | succ k_lp ih_lp =>
      intro i n hi hf hn hk_lp ls hl
      refine lv_iload_n hx hb xd_Ed_follow_4 rfl (lv_at hl 3 rfl) ?_
      refine lv_aload_n hx hb xd_Ed_follow_5 rfl (lv_at hl 1 rfl) ?_
      have hPc := hP.sub (ws' := [(pa, .inr (5, [.ref pk, .int (nI pn)])), (pk, .inl (cA 0, 8, .inl (tx_A kn)))]) [4, 5] rfl
      refine vp_callSi (va_Run.run (va_runV (As := []) (rest := [.int (nI i)]) ⟨hx, hb, hml, hown, hts⟩ (ct_Pa_length l G cA pa pk pn kn) (cwV 0 hts (gi_v xm_338 xm_339 xm_340 xm_6 xm_341) rfl rfl rfl ⟨rfl, xh_Pa_length⟩ ⟨Nat.le_of_ble_eq_true rfl, Nat.le_of_ble_eq_true rfl⟩) (pv_r hK hPc (ci := 5) (q0 := 0) rfl rfl) rfl rfl hl.1 rfl (lv_room (Nat.le_of_ble_eq_true rfl)) xd_Ed_follow_6 ⟨Nat.le_of_ble_eq_true rfl, Nat.le_of_ble_eq_true rfl⟩)) (fun r_1 q_2 => ?_)
      refine lx_top (z := nI pn) (q_2) ?_
      refine lv_iconst (v := nI 1) hx hb xd_Ed_follow_9 (by decide) ?_
      refine lx_isub (z := nI (pn - 1)) hx hb xd_Ed_follow_10 (pk_sub (by omega)) ?_
      refine lv_icmp_ge (tgt := 67) hx hb xd_Ed_follow_11 (by decide) (fun c_11_2 => ?_) (fun c_11_2 => ?_)
      · have e_i : i = pn - 1 := Nat.le_antisymm hi (nI_gle (by omega) (by omega) c_11_2)
        refine lv_iload_n hx hb xd_Ed_follow_67 rfl (lv_at hl 2 rfl) ?_
        exact W.iret (v := nI n) hx hb hr (fun T9 ht _ => ⟨_, rfl, by rw [← e_i, hf]; rfl, ht⟩) (fun _ h => absurd h List.not_mem_nil) xd_Ed_follow_68
      · have e_i := nI_gnl (by omega) (by omega) c_11_2
        have q_i := hk i (by omega)
        refine lv_aload_n hx hb xd_Ed_follow_14 rfl (lv_at hl 0 rfl) ?_
        refine va_get (D := G) (ci := 3) (v := .ref o) (C := xc_Ed) (T := xf_Ed) (N := 5) hx hb hts xw_Ed hown hK.1 hP 0 rfl rfl 0 (by decide) (hts _ xm_108) (fun _ h9 => h9) rfl xd_Ed_follow_15 ?_
        refine lv_iload_n hx hb xd_Ed_follow_18 rfl (lv_at hl 2 rfl) ?_
        refine lv_aload_n hx hb xd_Ed_follow_19 rfl (lv_at hl 1 rfl) ?_
        refine lv_iload_n hx hb xd_Ed_follow_20 rfl (lv_at hl 3 rfl) ?_
        have hPc := hP.sub (ws' := [(pa, .inr (5, [.ref pk, .int (nI pn)])), (pk, .inl (cA 0, 8, .inl (tx_A kn)))]) [4, 5] rfl
        refine vp_callSi (va_Run.run (va_runV (As := [.int (nI i)]) (rest := [.int (nI n), .ref o]) ⟨hx, hb, hml, hown, hts⟩ (ct_Pa_keyAt l G cA pa pk pn kn i (by omega) (by omega)) (cwV 1 hts (gi_v xm_342 xm_343 xm_344 xm_6 xm_345) rfl rfl rfl ⟨rfl, xh_Pa_keyAt⟩ ⟨Nat.le_of_ble_eq_true rfl, Nat.le_of_ble_eq_true rfl⟩) (pv_r hK hPc (ci := 5) (q0 := 0) rfl rfl) rfl rfl hl.1 rfl (lv_room (Nat.le_of_ble_eq_true rfl)) xd_Ed_follow_21 ⟨Nat.le_of_ble_eq_true rfl, Nat.le_of_ble_eq_true rfl⟩)) (fun r_4 q_5 => ?_)
        refine lx_top (z := nI (kn i)) (q_5) ?_
        have hPc := hP.sub (ws' := [(o, .inr (2, [.ref a1, .ref a2, .ref a3])), (a3, .inl (cA 0, 1040, .inl ce))]) [1, 3] rfl
        refine vp_callSi (va_Run.run (va_runV (As := [.int (nI n), .int (nI (kn i))]) (rest := []) ⟨hx, hb, hml, hown, hts⟩ (ct_St_cellAt l G cA o a1 a2 a3 ce n (kn i) (by omega) q_i) (cwV 2 hts (gi_v xm_346 xm_347 xm_348 xm_3 xm_349) rfl rfl rfl ⟨rfl, xh_St_cellAt⟩ ⟨Nat.le_of_ble_eq_true rfl, Nat.le_of_ble_eq_true rfl⟩) (pv_r hK hPc (ci := 2) (q0 := 0) rfl rfl) rfl rfl hl.1 rfl (lv_room (Nat.le_of_ble_eq_true rfl)) xd_Ed_follow_24 ⟨Nat.le_of_ble_eq_true rfl, Nat.le_of_ble_eq_true rfl⟩)) (fun r_6 q_7 => ?_)
        refine lx_top (z := ce (n * 26 + (kn i))) (q_7) ?_
        refine lv_istore (lv' := [(4, .int (ce (n * 26 + (kn i)))), (0, .ref ed), (1, .ref pa), (2, .int (nI n)), (3, .int (nI i))]) hx hb xd_Ed_follow_27 hl (by decide) rfl (fun ls hl => ?_)
        refine lv_iload hx hb xd_Ed_follow_29 (lv_at hl 0 rfl) ?_
        have hPc := hP.sub (ws' := []) [] rfl
        refine vp_callSi (va_Run.run (va_runSN (As := [.int (ce (n * 26 + (kn i)))]) (rest := []) ⟨hx, hb, hml, hown, hts⟩ (ct_X_kindOf l G cA (ce (n * 26 + (kn i)))) ⟨va_cnB 1 hts (tw_g xm_282) rfl rfl rfl (nw_m hK.2 11 rfl) (hts _ xm_1) xh_X_kindOf ⟨Nat.le_of_ble_eq_true rfl, Nat.le_of_ble_eq_true rfl⟩, hts _ xm_281, trivial⟩ (ps_r hK hPc) rfl rfl hl.1 rfl (lv_room (Nat.le_of_ble_eq_true rfl)) xd_Ed_follow_31 ⟨Nat.le_of_ble_eq_true rfl, Nat.le_of_ble_eq_true rfl⟩)) (fun r_8 q_9 => ?_)
        refine lx_top (z := en_K (ce (n * 26 + (kn i)))) (q_9) ?_
        refine lv_iconst (v := nI 2) hx hb xd_Ed_follow_34 (by decide) ?_
        refine lv_icmp_ne (tgt := 53) hx hb xd_Ed_follow_35 (by decide) (fun c_35_9 => ?_) (fun c_35_9 => ?_)
        · have q_n := fo_F_f hf (fun z => c_35_9 z.1) (pn - 1) (by omega)
          refine lv_iconst (v := (-1)) hx hb xd_Ed_follow_53 (by decide) ?_
          exact W.iret (v := (-1)) hx hb hr (fun T9 ht _ => ⟨_, rfl, by rw [q_n]; rfl, ht⟩) (fun _ h => absurd h List.not_mem_nil) xd_Ed_follow_54
        · have q_k := c_35_9
          refine lv_aload_n hx hb xd_Ed_follow_38 rfl (lv_at hl 1 rfl) ?_
          refine va_get (D := G) (ci := 3) (v := .ref o) (C := xc_Ed) (T := xf_Ed) (N := 5) hx hb hts xw_Ed hown hK.1 hP 0 rfl rfl 0 (by decide) (hts _ xm_108) (fun _ h9 => h9) rfl xd_Ed_follow_39 ?_
          refine lv_iload hx hb xd_Ed_follow_42 (lv_at hl 0 rfl) ?_
          have hPc := hP.sub (ws' := []) [] rfl
          refine vp_callSi (va_Run.run (va_runSN (As := [.int (ce (n * 26 + (kn i)))]) (rest := [.ref o]) ⟨hx, hb, hml, hown, hts⟩ (ct_X_contentOf l G cA (ce (n * 26 + (kn i)))) ⟨va_cnB 1 hts (tw_g xm_285) rfl rfl rfl (nw_m hK.2 12 rfl) (hts _ xm_1) xh_X_contentOf ⟨Nat.le_of_ble_eq_true rfl, Nat.le_of_ble_eq_true rfl⟩, hts _ xm_284, trivial⟩ (ps_r hK hPc) rfl rfl hl.1 rfl (lv_room (Nat.le_of_ble_eq_true rfl)) xd_Ed_follow_44 ⟨Nat.le_of_ble_eq_true rfl, Nat.le_of_ble_eq_true rfl⟩)) (fun r_11 q_12 => ?_)
          refine lx_top (z := en_V (ce (n * 26 + (kn i)))) (q_12) ?_
          refine lx_top (z := nI (cv_N (ce (n * 26 + kn i)))) ((hv _ (by omega) q_k).1) ?_
          have hPc := hP.sub (ws' := [(o, .inr (2, [.ref a1, .ref a2, .ref a3])), (a1, .inl (cA 0, 40, .inl st))]) [1, 2] rfl
          refine vp_callSi (va_Run.run (va_runV (As := [.int (nI (cv_N (ce (n * 26 + kn i))))]) (rest := []) ⟨hx, hb, hml, hown, hts⟩ (ct_St_isThere l G cA o a1 a2 a3 st (cv_N (ce (n * 26 + kn i))) ((hv _ (by omega) q_k).2)) (cwV 1 hts (gi_v xm_290 xm_291 xm_292 xm_3 xm_293) rfl rfl rfl ⟨rfl, xh_St_isThere⟩ ⟨Nat.le_of_ble_eq_true rfl, Nat.le_of_ble_eq_true rfl⟩) (pv_r hK hPc (ci := 2) (q0 := 0) rfl rfl) rfl rfl hl.1 rfl (lv_room (Nat.le_of_ble_eq_true rfl)) xd_Ed_follow_47 ⟨Nat.le_of_ble_eq_true rfl, Nat.le_of_ble_eq_true rfl⟩)) (fun r_13 q_14 => ?_)
          refine lx_top (z := sp_th (st (cv_N (ce (n * 26 + kn i))))) (q_14) ?_
          refine lv_if_ne (tgt := 55) hx hb xd_Ed_follow_50 (by decide) (fun c_50_14 => ?_) (fun c_50_14 => ?_)
          · have q_c : fo_C st ce (n * 26 + kn i) := ⟨q_k, fun z => c_50_14 (sp_th_z.mpr z)⟩
            refine lv_iload hx hb xd_Ed_follow_55 (lv_at hl 0 rfl) ?_
            have hPc := hP.sub (ws' := []) [] rfl
            refine vp_callSi (va_Run.run (va_runSN (As := [.int (ce (n * 26 + (kn i)))]) (rest := []) ⟨hx, hb, hml, hown, hts⟩ (ct_X_contentOf l G cA (ce (n * 26 + (kn i)))) ⟨va_cnB 1 hts (tw_g xm_285) rfl rfl rfl (nw_m hK.2 12 rfl) (hts _ xm_1) xh_X_contentOf ⟨Nat.le_of_ble_eq_true rfl, Nat.le_of_ble_eq_true rfl⟩, hts _ xm_284, trivial⟩ (ps_r hK hPc) rfl rfl hl.1 rfl (lv_room (Nat.le_of_ble_eq_true rfl)) xd_Ed_follow_57 ⟨Nat.le_of_ble_eq_true rfl, Nat.le_of_ble_eq_true rfl⟩)) (fun r_16 q_17 => ?_)
            refine lx_top (z := en_V (ce (n * 26 + (kn i)))) (q_17) ?_
            refine lx_top (z := nI (cv_N (ce (n * 26 + kn i)))) ((hv _ (by omega) q_k).1) ?_
            refine lv_istore_n (lv' := [(2, .int (nI (cv_N (ce (n * 26 + kn i))))), (4, .int (ce (n * 26 + (kn i)))), (0, .ref ed), (1, .ref pa), (3, .int (nI i))]) hx hb xd_Ed_follow_60 rfl hl (by decide) rfl (fun ls hl => ?_)
            refine lv_iinc (v := nI (i + 1)) (lv' := [(3, .int (nI (i + 1))), (2, .int (nI (cv_N (ce (n * 26 + kn i))))), (4, .int (ce (n * 26 + (kn i)))), (0, .ref ed), (1, .ref pa)]) hx hb xd_Ed_follow_61 hl (k := 4) rfl (nI_inc _) (by decide) rfl (fun ls hl => ?_)
            refine lv_goto (tgt := 4) hx hb xd_Ed_follow_64 (by decide) ?_
            exact ih_lp (i + 1) (cv_N (ce (n * 26 + kn i))) (by omega) (fo_F_t hf q_c) ((hv _ (by omega) q_k).2) (by omega) ls (lv_sub hl [3, 4, 1, 0] rfl)
          · have q_n := fo_F_f hf (fun z => z.2 (sp_th_z.mp c_50_14)) (pn - 1) (by omega)
            refine lv_iconst (v := (-1)) hx hb xd_Ed_follow_53 (by decide) ?_
            exact W.iret (v := (-1)) hx hb hr (fun T9 ht _ => ⟨_, rfl, by rw [q_n]; rfl, ht⟩) (fun _ h => absurd h List.not_mem_nil) xd_Ed_follow_54
  exact lp ((pn - 0) + 1) 0 0 (by omega) rfl (by decide) (Nat.lt_succ_self _) ls (lv_sub hl [2, 3, 1, 0] rfl)
