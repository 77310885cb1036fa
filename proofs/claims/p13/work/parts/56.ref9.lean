def wz_O (ce : Nat → Int32) : Prop := ∀ j, j < 1040 → en_K (ce j) = nI 0 → ce j = nI 0
theorem fr_rn {x : Int32} (h : en_K x = nI 2 → ¬ en_V x < 0) : fr_R (en_K x) (en_V x) = rn_R x := by
  unfold fr_R rn_R
  by_cases q : en_K x = nI 2
  · have e : (¬ en_V x < nI 40) ↔ sp_ob (en_V x) = 0 := by
      unfold sp_ob
      rw [if_neg (h q)]
      by_cases z : nI 40 ≤ en_V x
      · rw [if_pos z]; exact ⟨fun _ => rfl, fun _ => Int32.not_lt.mpr z⟩
      · rw [if_neg z]; exact ⟨fun y => absurd (Int32.not_lt.mp y) z, fun y => absurd y (by decide)⟩
    by_cases z : sp_ob (en_V x) = 0
    · rw [if_pos ⟨q, e.mpr z⟩, if_pos ⟨q, z⟩]
    · rw [if_neg (fun y => z (e.mp y.2)), if_neg (fun y => z y.2)]
  · rw [if_neg (fun y => q y.1), if_neg (fun y => q y.1)]
theorem fr_0 {y : Int32} : fr_R (nI 0) y = nI 0 := by unfold fr_R; rw [if_neg (fun z => absurd z.1 (by decide))]
theorem rn_0 : rn_R (nI 0) = 0 := by decide
theorem wn_p {v : Nat} (hv : v = 83 ∨ v = 68 ∨ v = 77 ∨ v = 67) {wt gv : Int32} (h1 : rn_R wt = 0) (h2 : rn_R gv = 0) : wn_R (nI v) (nI 0) wt gv = 0 := by
  unfold wn_R
  rw [if_neg]
  · rfl
  · intro z
    rcases z with z | z | z | z
    · exact absurd z (by decide)
    · rcases hv with rfl | rfl | rfl | rfl <;> exact absurd z.1 (by decide)
    · exact z h1
    · exact z h2
theorem wn_n {v : Int32} {n wt gv : Int32} (h : ¬ rn_R wt = 0 ∨ ¬ rn_R gv = 0) : ¬ wn_R v n wt gv = 0 := by
  unfold wn_R
  rw [if_pos (Or.inr (Or.inr h))]
  decide
theorem en_eq {x y : Int32} (h1 : en_K x = en_K y) (h2 : en_V x = en_V y) : x = y := by rw [← en_CKV x, ← en_CKV y, h1, h2]
def dh_Q (E : ex_T) (sa kd vl : Nat → Int32) (pw : Nat) (r : Int32) (pw2 : Nat) (kd2 vl2 : Nat → Int32) : Prop := r = (if E.1 = -1 then nI 0 else E.1) ∧ pw2 = (if E.1 = -1 then pw + 1 else pw) ∧ sn_R sa kd2 vl2 E.2.1 E.2.2 ∧ fr_H sa kd vl sa kd2 vl2
theorem dh_n {sa kd vl st ce : Nat → Int32} {pw k : Nat} {E : ex_T} (hE : E = (nI k, st, ce)) (hk : k < 100) (hR : sn_R sa kd vl st ce) : dh_Q E sa kd vl pw (nI k) pw kd vl := by
  subst hE
  have h : ¬ nI k = -1 := nI_nm (by omega)
  exact ⟨by rw [if_neg h], by rw [if_neg h], hR, fr_r _ _ _⟩
theorem dh_p {sa kd vl st ce : Nat → Int32} {pw : Nat} {E : ex_T} (hE : E = (-1, st, ce)) (hR : sn_R sa kd vl st ce) : dh_Q E sa kd vl pw (nI 0) (pw + 1) kd vl := by
  subst hE
  exact ⟨by rw [if_pos rfl], by rw [if_pos rfl], hR, fr_r _ _ _⟩
theorem dh_y {sa kd vl st ce2 : Nat → Int32} {kd2 vl2 : Nat → Int32} {pw : Nat} {E : ex_T} (hE : E = (nI 0, st, ce2)) (hR : sn_R sa kd2 vl2 st ce2) (hF : fr_H sa kd vl sa kd2 vl2) : dh_Q E sa kd vl pw (nI 0) pw kd2 vl2 := by
  subst hE
  exact ⟨rfl, rfl, hR, hF⟩
set_option maxHeartbeats 4000000 in
set_option maxRecDepth 100000 in
theorem ct_Mo_doPath (l : Launch) (G : va_G) (cA : Nat → ClassId) (sz : Nat) (mo : Nat) (th : Int32) (ms : Nat) (mk : Nat) (mv : Nat) (mm : Nat) (ml : Nat) (cnt : Nat) (mt : Nat) (mp : Int32) (mn : Int32) (mu : Nat) (ma : Nat) (at_ : Nat) (ob : Int32) (m1 : Nat) (m2 : Nat) (m3 : Nat) (m4 : Nat) (rn : Nat) (pw : Nat) (mc : Nat) (b : Nat) (tn : Nat → Nat) (hc : cnt ≤ 300) (ha : at_ ≤ 301) (hv : ∀ j, tn j < 128) (hb9 : b ≤ 1) (sa : Nat → Int32) (kd : Nat → Int32) (vl : Nat → Int32) (st : Nat → Int32) (ce : Nat → Int32) (pa : Nat → Nat) (ps : Nat → Nat) (tk : Nat → Int32) (tv : Nat → Int32) (fo : Int32) (v : Nat) (wt : Int32) (gv : Int32) (hR : sn_R sa kd vl st ce) (hO : wv_O ce) (hZ : wz_O ce) (hv4 : v = 83 ∨ v = 68 ∨ v = 77 ∨ v = 67) (h0 : 0 < ps 0 ∧ ps 0 ≤ 8 ∧ ∀ i, i < ps 0 → lt_P tn cnt (pa 0 + i)) (h1 : v = 77 → 0 < ps 1 ∧ ps 1 ≤ 8 ∧ ∀ i, i < ps 1 → lt_P tn cnt (pa 1 + i)) (hk1 : v = 83 → tk 0 = en_K gv ∧ tv 0 = en_V gv ∧ tk 1 = nI 0 ∧ wt = nI 0) (hk2 : v = 67 → tk 0 = en_K wt ∧ tv 0 = en_V wt ∧ tk 1 = en_K gv ∧ tv 1 = en_V gv) (hk3 : (v = 68 ∨ v = 77) → tk 0 = nI 0 ∧ tk 1 = nI 0 ∧ wt = nI 0 ∧ gv = nI 0) (hgp : en_K gv = nI 2 → ¬ en_V gv < 0) (hwp : en_K wt = nI 2 → ¬ en_V wt < 0) : Met l xy_Mo_doPath (.code xy_Mo_doPath xb_Mo_doPath 6 (some .int) :: tw_W) ({ frames := 1, cells := 0, slots := 0, locals := 24 }) (pc_w G cA [(mo, .inr (8, [.int th, .ref ms, .ref mk, .ref mv, .int (nI mm), .int (nI ml), .int (nI cnt), .ref mt, .int mp, .int mn, .int (nI mu), .ref ma, .int (nI at_), .int (nI b), .int (nI v), .int ob, .ref m1, .ref m2, .ref m3, .ref m4, .int (nI rn), .int (nI pw), .ref mc])), (ms, .inl (cA 0, 720, .inl sa)), (mk, .inl (cA 0, 18720, .inl kd)), (mv, .inl (cA 0, 18720, .inl vl)), (mt, .inl (cA 0, 300, .inl (tx_A tn))), (m1, .inl (cA 0, 2, .inl (tx_A pa))), (m2, .inl (cA 0, 2, .inl (tx_A ps))), (m3, .inl (cA 0, 2, .inl tk)), (m4, .inl (cA 0, 2, .inl tv))] sz [.ref mo, .int fo]) (va_Qi (fun (r : Int32) (u9 : Nat × (Nat → Int32) × (Nat → Int32)) => match u9 with | (pw2, kd2, vl2) => dh_Q (ex_l fo st ce v 0 (pk_t tn (pa 0)) (ps 0) (pk_t tn (pa 1)) (ps 1) wt gv) sa kd vl pw r pw2 kd2 vl2) (fun u9 T9 => match u9 with | (pw2, kd2, vl2) => at_w G (va_A [(mo, .inr (8, [.int th, .ref ms, .ref mk, .ref mv, .int (nI mm), .int (nI ml), .int (nI cnt), .ref mt, .int mp, .int mn, .int (nI mu), .ref ma, .int (nI at_), .int (nI b), .int (nI v), .int ob, .ref m1, .ref m2, .ref m3, .ref m4, .int (nI rn), .int (nI pw), .ref mc])), (ms, .inl (cA 0, 720, .inl sa)), (mk, .inl (cA 0, 18720, .inl kd)), (mv, .inl (cA 0, 18720, .inl vl)), (mt, .inl (cA 0, 300, .inl (tx_A tn))), (m1, .inl (cA 0, 2, .inl (tx_A pa))), (m2, .inl (cA 0, 2, .inl (tx_A ps))), (m3, .inl (cA 0, 2, .inl tk)), (m4, .inl (cA 0, 2, .inl tv))] sz) [(mo, .inr (8, [.int th, .ref ms, .ref mk, .ref mv, .int (nI mm), .int (nI ml), .int (nI cnt), .ref mt, .int mp, .int mn, .int (nI mu), .ref ma, .int (nI at_), .int (nI b), .int (nI v), .int ob, .ref m1, .ref m2, .ref m3, .ref m4, .int (nI rn), .int (nI pw2), .ref mc])), (ms, .inl (cA 0, 720, .inl sa)), (mk, .inl (cA 0, 18720, .inl kd2)), (mv, .inl (cA 0, 18720, .inl vl2)), (mt, .inl (cA 0, 300, .inl (tx_A tn))), (m1, .inl (cA 0, 2, .inl (tx_A pa))), (m2, .inl (cA 0, 2, .inl (tx_A ps))), (m3, .inl (cA 0, 2, .inl tk)), (m4, .inl (cA 0, 2, .inl tv))] T9) (va_A [(mo, .inr (8, [.int th, .ref ms, .ref mk, .ref mv, .int (nI mm), .int (nI ml), .int (nI cnt), .ref mt, .int mp, .int mn, .int (nI mu), .ref ma, .int (nI at_), .int (nI b), .int (nI v), .int ob, .ref m1, .ref m2, .ref m3, .ref m4, .int (nI rn), .int (nI pw), .ref mc])), (ms, .inl (cA 0, 720, .inl sa)), (mk, .inl (cA 0, 18720, .inl kd)), (mv, .inl (cA 0, 18720, .inl vl)), (mt, .inl (cA 0, 300, .inl (tx_A tn))), (m1, .inl (cA 0, 2, .inl (tx_A pa))), (m2, .inl (cA 0, 2, .inl (tx_A ps))), (m3, .inl (cA 0, 2, .inl tk)), (m4, .inl (cA 0, 2, .inl tv))] sz)) 0 0 (va_A [(mo, .inr (8, [.int th, .ref ms, .ref mk, .ref mv, .int (nI mm), .int (nI ml), .int (nI cnt), .ref mt, .int mp, .int mn, .int (nI mu), .ref ma, .int (nI at_), .int (nI b), .int (nI v), .int ob, .ref m1, .ref m2, .ref m3, .ref m4, .int (nI rn), .int (nI pw), .ref mc])), (ms, .inl (cA 0, 720, .inl sa)), (mk, .inl (cA 0, 18720, .inl kd)), (mv, .inl (cA 0, 18720, .inl vl)), (mt, .inl (cA 0, 300, .inl (tx_A tn))), (m1, .inl (cA 0, 2, .inl (tx_A pa))), (m2, .inl (cA 0, 2, .inl (tx_A ps))), (m3, .inl (cA 0, 2, .inl tk)), (m4, .inl (cA 0, 2, .inl tv))] sz) := by
  refine Met.ofW (cc := xb_Mo_doPath) (maxL := 6) (ret := (some .int)) (by decide) rfl ?_
  intro p e s m args below meth c s₁ B hml hv
  obtain ⟨rfl, hsz, hK, hP, hD0⟩ := hv
  have hx := B.exec
  have hb := B.bytes
  have hr := B.returns
  have hts0 := atoms_spec (ws := .code xy_Mo_doPath xb_Mo_doPath 6 (some .int) :: tw_W) B.pre
  have hts : ∀ w9 ∈ tw_W, w9.before [.ref mo, .int fo].toArray s = true := fun w9 h9 => hts0 w9 (List.mem_cons_of_mem _ h9)
  have hown : s.vm.findClass xc_Mo = some m.cls := findClass_of_methodNamed B.named
  have hlocks := B.notSynchronized
  subst hsz
  have hD := hD0.self (sz := s.heap.size)
  generalize hAe : va_A [(mo, .inr (8, [.int th, .ref ms, .ref mk, .ref mv, .int (nI mm), .int (nI ml), .int (nI cnt), .ref mt, .int mp, .int mn, .int (nI mu), .ref ma, .int (nI at_), .int (nI b), .int (nI v), .int ob, .ref m1, .ref m2, .ref m3, .ref m4, .int (nI rn), .int (nI pw), .ref mc])), (ms, .inl (cA 0, 720, .inl sa)), (mk, .inl (cA 0, 18720, .inl kd)), (mv, .inl (cA 0, 18720, .inl vl)), (mt, .inl (cA 0, 300, .inl (tx_A tn))), (m1, .inl (cA 0, 2, .inl (tx_A pa))), (m2, .inl (cA 0, 2, .inl (tx_A ps))), (m3, .inl (cA 0, 2, .inl tk)), (m4, .inl (cA 0, 2, .inl tv))] s.heap.size = A at hD ⊢
  have hA : ∀ q : Nat, s.heap.size ≤ q → A q := fun q h => by rw [← hAe]; exact Or.inr h
  have hS : va_S A s.heap s.heap [] := va_S.rf
  have hP : va_P G xk_cl [(mo, .inr (8, [.int th, .ref ms, .ref mk, .ref mv, .int (nI mm), .int (nI ml), .int (nI cnt), .ref mt, .int mp, .int mn, .int (nI mu), .ref ma, .int (nI at_), .int (nI b), .int (nI v), .int ob, .ref m1, .ref m2, .ref m3, .ref m4, .int (nI rn), .int (nI pw), .ref mc])), (ms, .inl (cA 0, 720, .inl sa)), (mk, .inl (cA 0, 18720, .inl kd)), (mv, .inl (cA 0, 18720, .inl vl)), (mt, .inl (cA 0, 300, .inl (tx_A tn))), (m1, .inl (cA 0, 2, .inl (tx_A pa))), (m2, .inl (cA 0, 2, .inl (tx_A ps))), (m3, .inl (cA 0, 2, .inl tk)), (m4, .inl (cA 0, 2, .inl tv))] s.heap := hP
  have hl := lv_entry ([.ref mo, .int fo]) (n := 6) (Nat.le_of_ble_eq_true rfl)
  rw [lg_entry_eq]
  generalize (lg_sl ([.ref mo, .int fo]) ++ List.replicate (6 - (lg_sl ([.ref mo, .int fo])).length) Slot.unset).toArray = ls at hl ⊢
  have hl : lv_has ls 6 [(0, .ref mo), (1, .int fo)] := hl
  rcases hv4 with rfl | rfl | rfl | rfl
  · obtain ⟨t0, t1, t2, t3⟩ := hk1 rfl
    subst t3
    refine lv_aload_n hx hb xd_Mo_doPath_0 rfl (lv_at hl 0 rfl) ?_
    refine lv_iconst (v := nI 0) hx hb xd_Mo_doPath_1 (by decide) ?_
    have hPc := hP.sub (ws' := [(mo, .inr (8, [.int th, .ref ms, .ref mk, .ref mv, .int (nI mm), .int (nI ml), .int (nI cnt), .ref mt, .int mp, .int mn, .int (nI mu), .ref ma, .int (nI at_), .int (nI b), .int (nI 83), .int ob, .ref m1, .ref m2, .ref m3, .ref m4, .int (nI rn), .int (nI pw), .ref mc])), (m3, .inl (cA 0, 2, .inl tk)), (m4, .inl (cA 0, 2, .inl tv))]) [0, 7, 8] rfl
    refine vp_callSi (va_Run.run (va_runV (As := [.int (nI 0)]) (rest := []) ⟨hx, hb, hml, hown, hts⟩ (ct_Mo_isFar l G cA mo th ms mk mv mm ml cnt mt mp mn mu ma at_ (nI b) (nI 83) ob m1 m2 m3 m4 rn pw mc tk tv 0 (by omega)) (cwV 1 hts (gi_v xm_751 xm_753 xs_Mo_isFar xm_9 xm_754) rfl rfl rfl ⟨rfl, xh_Mo_isFar⟩ ⟨Nat.le_of_ble_eq_true rfl, Nat.le_of_ble_eq_true rfl⟩) (pv_r hK hPc (ci := 8) (q0 := 0) rfl rfl) rfl rfl hl.1 rfl (lv_room (Nat.le_of_ble_eq_true rfl)) xd_Mo_doPath_2 ⟨Nat.le_of_ble_eq_true rfl, Nat.le_of_ble_eq_true rfl⟩)) (fun r_1 q_2 => ?_)
    refine lx_top (z := fr_R (tk 0) (tv 0)) (q_2) ?_
    refine lx_top (z := rn_R gv) (by rw [t0, t1]; exact fr_rn hgp) ?_
    refine lv_if_ne (tgt := 16) hx hb xd_Mo_doPath_5 (by decide) (fun c_5_2 => ?_) (fun c_5_2 => ?_)
    · have q_f : ¬ rn_R (nI 0) = 0 ∨ ¬ rn_R gv = 0 := Or.inr c_5_2
      refine lv_iconst (v := nI 2) hx hb xd_Mo_doPath_16 (by decide) ?_
      have hP9 : va_P G xk_cl [(mo, .inr (8, [.int th, .ref ms, .ref mk, .ref mv, .int (nI mm), .int (nI ml), .int (nI cnt), .ref mt, .int mp, .int mn, .int (nI mu), .ref ma, .int (nI at_), .int (nI b), .int (nI 83), .int ob, .ref m1, .ref m2, .ref m3, .ref m4, .int (nI rn), .int (nI pw), .ref mc])), (ms, .inl (cA 0, 720, .inl sa)), (mk, .inl (cA 0, 18720, .inl kd)), (mv, .inl (cA 0, 18720, .inl vl)), (mt, .inl (cA 0, 300, .inl (tx_A tn))), (m1, .inl (cA 0, 2, .inl (tx_A pa))), (m2, .inl (cA 0, 2, .inl (tx_A ps))), (m3, .inl (cA 0, 2, .inl tk)), (m4, .inl (cA 0, 2, .inl tv))] _ := hP.sub [0, 1, 2, 3, 4, 5, 6, 7, 8] rfl
      have hD9 : va_D A [(mo, .inr (8, [.int th, .ref ms, .ref mk, .ref mv, .int (nI mm), .int (nI ml), .int (nI cnt), .ref mt, .int mp, .int mn, .int (nI mu), .ref ma, .int (nI at_), .int (nI b), .int (nI 83), .int ob, .ref m1, .ref m2, .ref m3, .ref m4, .int (nI rn), .int (nI pw), .ref mc])), (ms, .inl (cA 0, 720, .inl sa)), (mk, .inl (cA 0, 18720, .inl kd)), (mv, .inl (cA 0, 18720, .inl vl)), (mt, .inl (cA 0, 300, .inl (tx_A tn))), (m1, .inl (cA 0, 2, .inl (tx_A pa))), (m2, .inl (cA 0, 2, .inl (tx_A ps))), (m3, .inl (cA 0, 2, .inl tk)), (m4, .inl (cA 0, 2, .inl tv))] := hD.sub [0, 1, 2, 3, 4, 5, 6, 7, 8] (by decide) rfl
      exact W.iret (v := nI 2) hx hb hr (fun T9 ht hW => ⟨⟨_, (pw, kd, vl), rfl, dh_n (k := 2) (by rw [ex_l, if_neg (wn_n q_f)]) (by decide) hR, by rw [ht]; exact hP9, hD9⟩, hS.F ht⟩) hS.2.2 xd_Mo_doPath_17
    · have q_f0 := c_5_2
      refine lv_aload_n hx hb xd_Mo_doPath_8 rfl (lv_at hl 0 rfl) ?_
      refine lv_iconst (v := nI 1) hx hb xd_Mo_doPath_9 (by decide) ?_
      have hPc := hP.sub (ws' := [(mo, .inr (8, [.int th, .ref ms, .ref mk, .ref mv, .int (nI mm), .int (nI ml), .int (nI cnt), .ref mt, .int mp, .int mn, .int (nI mu), .ref ma, .int (nI at_), .int (nI b), .int (nI 83), .int ob, .ref m1, .ref m2, .ref m3, .ref m4, .int (nI rn), .int (nI pw), .ref mc])), (m3, .inl (cA 0, 2, .inl tk)), (m4, .inl (cA 0, 2, .inl tv))]) [0, 7, 8] rfl
      refine vp_callSi (va_Run.run (va_runV (As := [.int (nI 1)]) (rest := []) ⟨hx, hb, hml, hown, hts⟩ (ct_Mo_isFar l G cA mo th ms mk mv mm ml cnt mt mp mn mu ma at_ (nI b) (nI 83) ob m1 m2 m3 m4 rn pw mc tk tv 1 (by omega)) (cwV 1 hts (gi_v xm_751 xm_753 xs_Mo_isFar xm_9 xm_754) rfl rfl rfl ⟨rfl, xh_Mo_isFar⟩ ⟨Nat.le_of_ble_eq_true rfl, Nat.le_of_ble_eq_true rfl⟩) (pv_r hK hPc (ci := 8) (q0 := 0) rfl rfl) rfl rfl hl.1 rfl (lv_room (Nat.le_of_ble_eq_true rfl)) xd_Mo_doPath_10 ⟨Nat.le_of_ble_eq_true rfl, Nat.le_of_ble_eq_true rfl⟩)) (fun r_4 q_5 => ?_)
      refine lx_top (z := fr_R (tk 1) (tv 1)) (q_5) ?_
      refine lx_top (z := nI 0) (by rw [t2]; exact fr_0) ?_
      refine lv_if_eq (tgt := 18) hx hb xd_Mo_doPath_13 (by decide) (fun c_13_5 => ?_) (fun c_13_5 => absurd (by decide) c_13_5)
      refine lv_aload_n hx hb xd_Mo_doPath_18 rfl (lv_at hl 0 rfl) ?_
      refine lv_iconst (v := nI 0) hx hb xd_Mo_doPath_19 (by decide) ?_
      have hPc := hP.sub (ws' := [(mo, .inr (8, [.int th, .ref ms, .ref mk, .ref mv, .int (nI mm), .int (nI ml), .int (nI cnt), .ref mt, .int mp, .int mn, .int (nI mu), .ref ma, .int (nI at_), .int (nI b), .int (nI 83), .int ob, .ref m1, .ref m2, .ref m3, .ref m4, .int (nI rn), .int (nI pw), .ref mc])), (ms, .inl (cA 0, 720, .inl sa)), (mk, .inl (cA 0, 18720, .inl kd)), (mv, .inl (cA 0, 18720, .inl vl)), (mt, .inl (cA 0, 300, .inl (tx_A tn))), (m1, .inl (cA 0, 2, .inl (tx_A pa))), (m2, .inl (cA 0, 2, .inl (tx_A ps)))]) [0, 1, 2, 3, 4, 5, 6] rfl
      refine vp_callSi (va_Run.run (va_runV (As := [.int (nI 0)]) (rest := []) ⟨hx, hb, hml, hown, hts⟩ (ct_Mo_follow l G cA mo th ms mk mv mm ml cnt mt mp mn mu ma at_ (nI 83) ob m1 m2 m3 m4 rn pw mc b tn hc (by omega) hv (by omega) sa kd vl st ce pa ps 0 (by omega) hR hO h0.1 h0.2.1 h0.2.2) (cwV 1 hts (gi_v xm_755 xm_757 xs_Mo_follow xm_9 xm_758) rfl rfl rfl ⟨rfl, xh_Mo_follow⟩ ⟨Nat.le_of_ble_eq_true rfl, Nat.le_of_ble_eq_true rfl⟩) (pv_r hK hPc (ci := 8) (q0 := 0) rfl rfl) rfl rfl hl.1 rfl (lv_room (Nat.le_of_ble_eq_true rfl)) xd_Mo_doPath_20 ⟨Nat.le_of_ble_eq_true rfl, Nat.le_of_ble_eq_true rfl⟩)) (fun r_7 q_8 => ?_)
      refine lx_top (z := fq_R (fo_F st ce (pk_t tn (pa 0)) (ps 0 - 1)) (pk_t tn (pa 0) (ps 0 - 1))) (q_8) ?_
      rcases op_c (fo_F st ce (pk_t tn (pa 0)) (ps 0 - 1)) with q_o | ⟨n0, q_o⟩
      · refine lx_top (z := (-1)) (by rw [q_o]; rfl) ?_
        refine lv_istore_n (lv' := [(2, .int (-1)), (0, .ref mo), (1, .int fo)]) hx hb xd_Mo_doPath_23 rfl hl (by decide) rfl (fun ls hl => ?_)
        refine lv_aload_n hx hb xd_Mo_doPath_24 rfl (lv_at hl 1 rfl) ?_
        refine va_get (D := G) (ci := 8) (v := .int (nI 83)) (C := xc_Mo) (T := xf_Mo) (N := 23) hx hb hts xw_Mo hown hK.1 hP 0 rfl rfl 14 (by decide) (hts _ xm_633) (fun _ h9 => h9) rfl xd_Mo_doPath_25 ?_
        refine lv_bipush (v := nI 77) hx hb xd_Mo_doPath_28 (by decide) ?_
        refine lv_icmp_ne (tgt := 41) hx hb xd_Mo_doPath_30 (by decide) (fun c_30_8 => ?_) (fun c_30_8 => absurd c_30_8 (by decide))
        refine lv_iload_n hx hb xd_Mo_doPath_41 rfl (lv_at hl 0 rfl) ?_
        refine lv_istore_n (lv' := [(3, .int (-1)), (2, .int (-1)), (0, .ref mo), (1, .int fo)]) hx hb xd_Mo_doPath_42 rfl hl (by decide) rfl (fun ls hl => ?_)
        refine lv_iload_n hx hb xd_Mo_doPath_43 rfl (lv_at hl 1 rfl) ?_
        refine lv_iconst (v := (-1)) hx hb xd_Mo_doPath_44 (by decide) ?_
        refine lv_icmp_eq (tgt := 53) hx hb xd_Mo_doPath_45 (by decide) (fun c_45_9 => ?_) (fun c_45_9 => absurd (by decide) c_45_9)
        refine lv_iconst (v := nI 4) hx hb xd_Mo_doPath_53 (by decide) ?_
        have hP9 : va_P G xk_cl [(mo, .inr (8, [.int th, .ref ms, .ref mk, .ref mv, .int (nI mm), .int (nI ml), .int (nI cnt), .ref mt, .int mp, .int mn, .int (nI mu), .ref ma, .int (nI at_), .int (nI b), .int (nI 83), .int ob, .ref m1, .ref m2, .ref m3, .ref m4, .int (nI rn), .int (nI pw), .ref mc])), (ms, .inl (cA 0, 720, .inl sa)), (mk, .inl (cA 0, 18720, .inl kd)), (mv, .inl (cA 0, 18720, .inl vl)), (mt, .inl (cA 0, 300, .inl (tx_A tn))), (m1, .inl (cA 0, 2, .inl (tx_A pa))), (m2, .inl (cA 0, 2, .inl (tx_A ps))), (m3, .inl (cA 0, 2, .inl tk)), (m4, .inl (cA 0, 2, .inl tv))] _ := hP.sub [0, 1, 2, 3, 4, 5, 6, 7, 8] rfl
        have hD9 : va_D A [(mo, .inr (8, [.int th, .ref ms, .ref mk, .ref mv, .int (nI mm), .int (nI ml), .int (nI cnt), .ref mt, .int mp, .int mn, .int (nI mu), .ref ma, .int (nI at_), .int (nI b), .int (nI 83), .int ob, .ref m1, .ref m2, .ref m3, .ref m4, .int (nI rn), .int (nI pw), .ref mc])), (ms, .inl (cA 0, 720, .inl sa)), (mk, .inl (cA 0, 18720, .inl kd)), (mv, .inl (cA 0, 18720, .inl vl)), (mt, .inl (cA 0, 300, .inl (tx_A tn))), (m1, .inl (cA 0, 2, .inl (tx_A pa))), (m2, .inl (cA 0, 2, .inl (tx_A ps))), (m3, .inl (cA 0, 2, .inl tk)), (m4, .inl (cA 0, 2, .inl tv))] := hD.sub [0, 1, 2, 3, 4, 5, 6, 7, 8] (by decide) rfl
        exact W.iret (v := nI 4) hx hb hr (fun T9 ht hW => ⟨⟨_, (pw, kd, vl), rfl, dh_n (k := 4) (by rw [ex_l, if_pos (wn_p (by decide) rn_0 q_f0), if_neg (by decide), if_neg (by decide), if_neg (by decide), if_pos rfl, ex_S, q_o]) (by decide) hR, by rw [ht]; exact hP9, hD9⟩, hS.F ht⟩) hS.2.2 xd_Mo_doPath_54
      · have l_0 := h0.2.2 (ps 0 - 1) (by omega)
        have k_0 : pk_t tn (pa 0) (ps 0 - 1) < 26 := by unfold pk_t; omega
        have n_0 : n0 < 40 := fo_F_l hO (fun j hj => by have := h0.2.2 j (by omega); unfold pk_t; omega) q_o
        obtain ⟨p0, hp0⟩ : ∃ z, z = n0 * 26 + pk_t tn (pa 0) (ps 0 - 1) := ⟨_, rfl⟩
        refine lx_top (z := nI p0) (by rw [q_o]; exact congrArg nI (by omega)) ?_
        refine lv_istore_n (lv' := [(2, .int (nI p0)), (0, .ref mo), (1, .int fo)]) hx hb xd_Mo_doPath_23 rfl hl (by decide) rfl (fun ls hl => ?_)
        refine lv_aload_n hx hb xd_Mo_doPath_24 rfl (lv_at hl 1 rfl) ?_
        refine va_get (D := G) (ci := 8) (v := .int (nI 83)) (C := xc_Mo) (T := xf_Mo) (N := 23) hx hb hts xw_Mo hown hK.1 hP 0 rfl rfl 14 (by decide) (hts _ xm_633) (fun _ h9 => h9) rfl xd_Mo_doPath_25 ?_
        refine lv_bipush (v := nI 77) hx hb xd_Mo_doPath_28 (by decide) ?_
        refine lv_icmp_ne (tgt := 41) hx hb xd_Mo_doPath_30 (by decide) (fun c_30_10 => ?_) (fun c_30_10 => absurd c_30_10 (by decide))
        refine lv_iload_n hx hb xd_Mo_doPath_41 rfl (lv_at hl 0 rfl) ?_
        refine lv_istore_n (lv' := [(3, .int (nI p0)), (2, .int (nI p0)), (0, .ref mo), (1, .int fo)]) hx hb xd_Mo_doPath_42 rfl hl (by decide) rfl (fun ls hl => ?_)
        refine lv_iload_n hx hb xd_Mo_doPath_43 rfl (lv_at hl 1 rfl) ?_
        refine lv_iconst (v := (-1)) hx hb xd_Mo_doPath_44 (by decide) ?_
        refine lv_icmp_eq (tgt := 53) hx hb xd_Mo_doPath_45 (by decide) (fun c_45_11 => absurd c_45_11 (nI_nm (by omega))) (fun c_45_11 => ?_)
        refine lv_iload_n hx hb xd_Mo_doPath_48 rfl (lv_at hl 0 rfl) ?_
        refine lv_iconst (v := (-1)) hx hb xd_Mo_doPath_49 (by decide) ?_
        refine lv_icmp_ne (tgt := 55) hx hb xd_Mo_doPath_50 (by decide) (fun c_50_12 => ?_) (fun c_50_12 => absurd c_50_12 (nI_nm (by omega)))
        refine lv_aload_n hx hb xd_Mo_doPath_55 rfl (lv_at hl 2 rfl) ?_
        refine va_get (D := G) (ci := 8) (v := .int (nI 83)) (C := xc_Mo) (T := xf_Mo) (N := 23) hx hb hts xw_Mo hown hK.1 hP 0 rfl rfl 14 (by decide) (hts _ xm_633) (fun _ h9 => h9) rfl xd_Mo_doPath_56 ?_
        refine lv_bipush (v := nI 83) hx hb xd_Mo_doPath_59 (by decide) ?_
        refine lv_icmp_eq (tgt := 75) hx hb xd_Mo_doPath_61 (by decide) (fun c_61_13 => ?_) (fun c_61_13 => absurd (by decide) c_61_13)
        refine lv_aload_n hx hb xd_Mo_doPath_75 rfl (lv_at hl 2 rfl) ?_
        refine va_get (D := G) (ci := 8) (v := .int (nI 83)) (C := xc_Mo) (T := xf_Mo) (N := 23) hx hb hts xw_Mo hown hK.1 hP 0 rfl rfl 14 (by decide) (hts _ xm_633) (fun _ h9 => h9) rfl xd_Mo_doPath_76 ?_
        refine lv_bipush (v := nI 67) hx hb xd_Mo_doPath_79 (by decide) ?_
        refine lv_icmp_ne (tgt := 126) hx hb xd_Mo_doPath_81 (by decide) (fun c_81_14 => ?_) (fun c_81_14 => absurd c_81_14 (by decide))
        refine lv_aload_n hx hb xd_Mo_doPath_126 rfl (lv_at hl 2 rfl) ?_
        refine lv_iload_n hx hb xd_Mo_doPath_127 rfl (lv_at hl 1 rfl) ?_
        refine lv_bipush (v := nI 26) hx hb xd_Mo_doPath_128 (by decide) ?_
        refine lx_idiv (z := nI n0) hx hb xd_Mo_doPath_130 (by decide) (by rw [pk_div (by omega) (by omega) (by omega)]; exact congrArg nI (by omega)) ?_
        refine lv_iload_n hx hb xd_Mo_doPath_131 rfl (lv_at hl 3 rfl) ?_
        have hPc := hP.sub (ws' := [(mo, .inr (8, [.int th, .ref ms, .ref mk, .ref mv, .int (nI mm), .int (nI ml), .int (nI cnt), .ref mt, .int mp, .int mn, .int (nI mu), .ref ma, .int (nI at_), .int (nI b), .int (nI 83), .int ob, .ref m1, .ref m2, .ref m3, .ref m4, .int (nI rn), .int (nI pw), .ref mc])), (ms, .inl (cA 0, 720, .inl sa))]) [0, 1] rfl
        refine vp_callSi (va_Run.run (va_runV (As := [.int (nI n0), .int fo]) (rest := []) ⟨hx, hb, hml, hown, hts⟩ (ct_Mo_isShut l G cA mo th ms mk mv mm ml cnt mt mp mn mu ma at_ (nI b) (nI 83) ob m1 m2 m3 m4 rn pw mc sa n0 fo n_0) (cwV 2 hts (gi_v xm_739 xm_741 xs_Mo_isShut xm_9 xm_742) rfl rfl rfl ⟨rfl, xh_Mo_isShut⟩ ⟨Nat.le_of_ble_eq_true rfl, Nat.le_of_ble_eq_true rfl⟩) (pv_r hK hPc (ci := 8) (q0 := 0) rfl rfl) rfl rfl hl.1 rfl (lv_room (Nat.le_of_ble_eq_true rfl)) xd_Mo_doPath_132 ⟨Nat.le_of_ble_eq_true rfl, Nat.le_of_ble_eq_true rfl⟩)) (fun r_16 q_17 => ?_)
        refine lx_top (z := cl_D fo (sa n0)) (q_17) ?_
        refine lx_top (z := cl_D fo (st n0)) (by rw [hR.1 n0 n_0]) ?_
        refine lv_if_ne (tgt := 150) hx hb xd_Mo_doPath_135 (by decide) (fun c_135_17 => ?_) (fun c_135_17 => ?_)
        · have q_s0 : cl_P fo (st n0) := Classical.byContradiction fun z => c_135_17 (cl_D_z.mpr z)
          refine lv_bipush (v := nI 6) hx hb xd_Mo_doPath_150 (by decide) ?_
          have hP9 : va_P G xk_cl [(mo, .inr (8, [.int th, .ref ms, .ref mk, .ref mv, .int (nI mm), .int (nI ml), .int (nI cnt), .ref mt, .int mp, .int mn, .int (nI mu), .ref ma, .int (nI at_), .int (nI b), .int (nI 83), .int ob, .ref m1, .ref m2, .ref m3, .ref m4, .int (nI rn), .int (nI pw), .ref mc])), (ms, .inl (cA 0, 720, .inl sa)), (mk, .inl (cA 0, 18720, .inl kd)), (mv, .inl (cA 0, 18720, .inl vl)), (mt, .inl (cA 0, 300, .inl (tx_A tn))), (m1, .inl (cA 0, 2, .inl (tx_A pa))), (m2, .inl (cA 0, 2, .inl (tx_A ps))), (m3, .inl (cA 0, 2, .inl tk)), (m4, .inl (cA 0, 2, .inl tv))] _ := hP.sub [0, 1, 2, 3, 4, 5, 6, 7, 8] rfl
          have hD9 : va_D A [(mo, .inr (8, [.int th, .ref ms, .ref mk, .ref mv, .int (nI mm), .int (nI ml), .int (nI cnt), .ref mt, .int mp, .int mn, .int (nI mu), .ref ma, .int (nI at_), .int (nI b), .int (nI 83), .int ob, .ref m1, .ref m2, .ref m3, .ref m4, .int (nI rn), .int (nI pw), .ref mc])), (ms, .inl (cA 0, 720, .inl sa)), (mk, .inl (cA 0, 18720, .inl kd)), (mv, .inl (cA 0, 18720, .inl vl)), (mt, .inl (cA 0, 300, .inl (tx_A tn))), (m1, .inl (cA 0, 2, .inl (tx_A pa))), (m2, .inl (cA 0, 2, .inl (tx_A ps))), (m3, .inl (cA 0, 2, .inl tk)), (m4, .inl (cA 0, 2, .inl tv))] := hD.sub [0, 1, 2, 3, 4, 5, 6, 7, 8] (by decide) rfl
          exact W.iret (v := nI 6) hx hb hr (fun T9 ht hW => ⟨⟨_, (pw, kd, vl), rfl, dh_n (k := 6) (by rw [ex_l, if_pos (wn_p (by decide) rn_0 q_f0), if_neg (by decide), if_neg (by decide), if_neg (by decide), if_pos rfl, ex_S, q_o]; dsimp only; rw [← hp0, if_pos q_s0]) (by decide) hR, by rw [ht]; exact hP9, hD9⟩, hS.F ht⟩) hS.2.2 xd_Mo_doPath_152
        · have q_s0 := cl_D_z.mp c_135_17
          refine lv_aload_n hx hb xd_Mo_doPath_138 rfl (lv_at hl 2 rfl) ?_
          refine lv_iload_n hx hb xd_Mo_doPath_139 rfl (lv_at hl 0 rfl) ?_
          refine lv_bipush (v := nI 26) hx hb xd_Mo_doPath_140 (by decide) ?_
          refine lx_idiv (z := nI n0) hx hb xd_Mo_doPath_142 (by decide) (by rw [pk_div (by omega) (by omega) (by omega)]; exact congrArg nI (by omega)) ?_
          refine lv_iload_n hx hb xd_Mo_doPath_143 rfl (lv_at hl 3 rfl) ?_
          have hPc := hP.sub (ws' := [(mo, .inr (8, [.int th, .ref ms, .ref mk, .ref mv, .int (nI mm), .int (nI ml), .int (nI cnt), .ref mt, .int mp, .int mn, .int (nI mu), .ref ma, .int (nI at_), .int (nI b), .int (nI 83), .int ob, .ref m1, .ref m2, .ref m3, .ref m4, .int (nI rn), .int (nI pw), .ref mc])), (ms, .inl (cA 0, 720, .inl sa))]) [0, 1] rfl
          refine vp_callSi (va_Run.run (va_runV (As := [.int (nI n0), .int fo]) (rest := []) ⟨hx, hb, hml, hown, hts⟩ (ct_Mo_isShut l G cA mo th ms mk mv mm ml cnt mt mp mn mu ma at_ (nI b) (nI 83) ob m1 m2 m3 m4 rn pw mc sa n0 fo n_0) (cwV 2 hts (gi_v xm_739 xm_741 xs_Mo_isShut xm_9 xm_742) rfl rfl rfl ⟨rfl, xh_Mo_isShut⟩ ⟨Nat.le_of_ble_eq_true rfl, Nat.le_of_ble_eq_true rfl⟩) (pv_r hK hPc (ci := 8) (q0 := 0) rfl rfl) rfl rfl hl.1 rfl (lv_room (Nat.le_of_ble_eq_true rfl)) xd_Mo_doPath_144 ⟨Nat.le_of_ble_eq_true rfl, Nat.le_of_ble_eq_true rfl⟩)) (fun r_19 q_20 => ?_)
          refine lx_top (z := cl_D fo (sa n0)) (q_20) ?_
          refine lx_top (z := cl_D fo (st n0)) (by rw [hR.1 n0 n_0]) ?_
          refine lv_if_eq (tgt := 153) hx hb xd_Mo_doPath_147 (by decide) (fun c_147_20 => ?_) (fun c_147_20 => absurd (cl_D_z.mpr q_s0) c_147_20)
          refine lv_aload_n hx hb xd_Mo_doPath_153 rfl (lv_at hl 2 rfl) ?_
          refine va_get (D := G) (ci := 8) (v := .int (nI 83)) (C := xc_Mo) (T := xf_Mo) (N := 23) hx hb hts xw_Mo hown hK.1 hP 0 rfl rfl 14 (by decide) (hts _ xm_633) (fun _ h9 => h9) rfl xd_Mo_doPath_154 ?_
          refine lv_bipush (v := nI 83) hx hb xd_Mo_doPath_157 (by decide) ?_
          refine lv_icmp_ne (tgt := 182) hx hb xd_Mo_doPath_159 (by decide) (fun c_159_21 => absurd (by decide) c_159_21) (fun c_159_21 => ?_)
          refine lv_aload_n hx hb xd_Mo_doPath_162 rfl (lv_at hl 2 rfl) ?_
          refine lv_iload_n hx hb xd_Mo_doPath_163 rfl (lv_at hl 1 rfl) ?_
          refine lv_aload_n hx hb xd_Mo_doPath_164 rfl (lv_at hl 2 rfl) ?_
          refine va_get (D := G) (ci := 8) (v := .ref m3) (C := xc_Mo) (T := xf_Mo) (N := 23) hx hb hts xw_Mo hown hK.1 hP 0 rfl rfl 18 (by decide) (hts _ xm_637) (fun _ h9 => h9) rfl xd_Mo_doPath_165 ?_
          refine lv_iconst (v := nI 0) hx hb xd_Mo_doPath_168 (by decide) ?_
          refine wx_iald hx hb hK.1 hP 7 0 rfl rfl (k := 0) (by omega) (by decide) xd_Mo_doPath_169 ?_
          refine lv_aload_n hx hb xd_Mo_doPath_170 rfl (lv_at hl 2 rfl) ?_
          refine va_get (D := G) (ci := 8) (v := .ref m4) (C := xc_Mo) (T := xf_Mo) (N := 23) hx hb hts xw_Mo hown hK.1 hP 0 rfl rfl 19 (by decide) (hts _ xm_638) (fun _ h9 => h9) rfl xd_Mo_doPath_171 ?_
          refine lv_iconst (v := nI 0) hx hb xd_Mo_doPath_174 (by decide) ?_
          refine wx_iald hx hb hK.1 hP 8 0 rfl rfl (k := 0) (by omega) (by decide) xd_Mo_doPath_175 ?_
          have hPc := hP.sub (ws' := [(mo, .inr (8, [.int th, .ref ms, .ref mk, .ref mv, .int (nI mm), .int (nI ml), .int (nI cnt), .ref mt, .int mp, .int mn, .int (nI mu), .ref ma, .int (nI at_), .int (nI b), .int (nI 83), .int ob, .ref m1, .ref m2, .ref m3, .ref m4, .int (nI rn), .int (nI pw), .ref mc])), (mk, .inl (cA 0, 18720, .inl kd)), (mv, .inl (cA 0, 18720, .inl vl))]) [0, 2, 3] rfl
          have hDc := hD.sub (ws' := [(mo, .inr (8, [.int th, .ref ms, .ref mk, .ref mv, .int (nI mm), .int (nI ml), .int (nI cnt), .ref mt, .int mp, .int mn, .int (nI mu), .ref ma, .int (nI at_), .int (nI b), .int (nI 83), .int ob, .ref m1, .ref m2, .ref m3, .ref m4, .int (nI rn), .int (nI pw), .ref mc])), (mk, .inl (cA 0, 18720, .inl kd)), (mv, .inl (cA 0, 18720, .inl vl))]) [0, 2, 3] (by decide) rfl
          have hFc := va_free (wc := [(mo, .inr (8, [.int th, .ref ms, .ref mk, .ref mv, .int (nI mm), .int (nI ml), .int (nI cnt), .ref mt, .int mp, .int mn, .int (nI mu), .ref ma, .int (nI at_), .int (nI b), .int (nI 83), .int ob, .ref m1, .ref m2, .ref m3, .ref m4, .int (nI rn), .int (nI pw), .ref mc])), (mk, .inl (cA 0, 18720, .inl kd)), (mv, .inl (cA 0, 18720, .inl vl))]) hD hS hA [0, 2, 3] rfl
          refine va_callv (va_runV (As := [.int (nI p0), .int (tk 0), .int (tv 0)]) (rest := []) ⟨hx, hb, hml, hown, hts⟩ (ct_Mo_put l G cA s.heap.size mo th ms mk mv mm ml cnt mt mp mn mu ma at_ (nI b) (nI 83) ob m1 m2 m3 m4 rn pw mc kd vl p0 (tk 0) (tv 0) (by omega)) (cwV 3 hts (gi_v xm_759 xm_761 xs_Mo_put xm_9 xm_762) rfl rfl rfl ⟨rfl, xh_Mo_put⟩ ⟨Nat.le_of_ble_eq_true rfl, Nat.le_of_ble_eq_true rfl⟩) (pv_w hK hPc hDc (ci := 8) (q0 := 0) rfl rfl) rfl rfl hl.1 rfl (lv_room (Nat.le_of_ble_eq_true rfl)) xd_Mo_doPath_176 ⟨Nat.le_of_ble_eq_true rfl, Nat.le_of_ble_eq_true rfl⟩) hS (fun q _ h => hFc q h) hFc (fun u9 t9 H1 locs ht hvm q_24 hB hz1 hk1 hS => ?_)
          obtain ⟨hP1, hD1⟩ := hB
          rw [ht] at hP1
          obtain ⟨hP, hD⟩ := va_join (wr := [(ms, .inl (cA 0, 720, .inl sa)), (mt, .inl (cA 0, 300, .inl (tx_A tn))), (m1, .inl (cA 0, 2, .inl (tx_A pa))), (m2, .inl (cA 0, 2, .inl (tx_A ps))), (m3, .inl (cA 0, 2, .inl tk)), (m4, .inl (cA 0, 2, .inl tv))]) (w1 := [(mo, .inr (8, [.int th, .ref ms, .ref mk, .ref mv, .int (nI mm), .int (nI ml), .int (nI cnt), .ref mt, .int mp, .int mn, .int (nI mu), .ref ma, .int (nI at_), .int (nI b), .int (nI 83), .int ob, .ref m1, .ref m2, .ref m3, .ref m4, .int (nI rn), .int (nI pw), .ref mc])), (mk, .inl (cA 0, 18720, .inl (upd kd p0 (tk 0)))), (mv, .inl (cA 0, 18720, .inl (upd vl p0 (tv 0))))]) hP hD [0, 2, 3] [1, 4, 5, 6, 7, 8] rfl rfl (by decide) (by decide) hk1 hFc hP1 hD1
          generalize H1 = H at hP hS ⊢
          have hP : va_P G xk_cl [(ms, .inl (cA 0, 720, .inl sa)), (mt, .inl (cA 0, 300, .inl (tx_A tn))), (m1, .inl (cA 0, 2, .inl (tx_A pa))), (m2, .inl (cA 0, 2, .inl (tx_A ps))), (m3, .inl (cA 0, 2, .inl tk)), (m4, .inl (cA 0, 2, .inl tv)), (mo, .inr (8, [.int th, .ref ms, .ref mk, .ref mv, .int (nI mm), .int (nI ml), .int (nI cnt), .ref mt, .int mp, .int mn, .int (nI mu), .ref ma, .int (nI at_), .int (nI b), .int (nI 83), .int ob, .ref m1, .ref m2, .ref m3, .ref m4, .int (nI rn), .int (nI pw), .ref mc])), (mk, .inl (cA 0, 18720, .inl (upd kd p0 (tk 0)))), (mv, .inl (cA 0, 18720, .inl (upd vl p0 (tv 0))))] H := hP
          have hD : va_D A [(ms, .inl (cA 0, 720, .inl sa)), (mt, .inl (cA 0, 300, .inl (tx_A tn))), (m1, .inl (cA 0, 2, .inl (tx_A pa))), (m2, .inl (cA 0, 2, .inl (tx_A ps))), (m3, .inl (cA 0, 2, .inl tk)), (m4, .inl (cA 0, 2, .inl tv)), (mo, .inr (8, [.int th, .ref ms, .ref mk, .ref mv, .int (nI mm), .int (nI ml), .int (nI cnt), .ref mt, .int mp, .int mn, .int (nI mu), .ref ma, .int (nI at_), .int (nI b), .int (nI 83), .int ob, .ref m1, .ref m2, .ref m3, .ref m4, .int (nI rn), .int (nI pw), .ref mc])), (mk, .inl (cA 0, 18720, .inl (upd kd p0 (tk 0)))), (mv, .inl (cA 0, 18720, .inl (upd vl p0 (tv 0))))] := hD
          refine lv_goto (tgt := 252) hx hb xd_Mo_doPath_179 (by decide) ?_
          refine lv_iconst (v := nI 0) hx hb xd_Mo_doPath_252 (by decide) ?_
          have hP9 : va_P G xk_cl [(mo, .inr (8, [.int th, .ref ms, .ref mk, .ref mv, .int (nI mm), .int (nI ml), .int (nI cnt), .ref mt, .int mp, .int mn, .int (nI mu), .ref ma, .int (nI at_), .int (nI b), .int (nI 83), .int ob, .ref m1, .ref m2, .ref m3, .ref m4, .int (nI rn), .int (nI pw), .ref mc])), (ms, .inl (cA 0, 720, .inl sa)), (mk, .inl (cA 0, 18720, .inl (upd kd p0 (tk 0)))), (mv, .inl (cA 0, 18720, .inl (upd vl p0 (tv 0)))), (mt, .inl (cA 0, 300, .inl (tx_A tn))), (m1, .inl (cA 0, 2, .inl (tx_A pa))), (m2, .inl (cA 0, 2, .inl (tx_A ps))), (m3, .inl (cA 0, 2, .inl tk)), (m4, .inl (cA 0, 2, .inl tv))] _ := hP.sub [6, 0, 7, 8, 1, 2, 3, 4, 5] rfl
          have hD9 : va_D A [(mo, .inr (8, [.int th, .ref ms, .ref mk, .ref mv, .int (nI mm), .int (nI ml), .int (nI cnt), .ref mt, .int mp, .int mn, .int (nI mu), .ref ma, .int (nI at_), .int (nI b), .int (nI 83), .int ob, .ref m1, .ref m2, .ref m3, .ref m4, .int (nI rn), .int (nI pw), .ref mc])), (ms, .inl (cA 0, 720, .inl sa)), (mk, .inl (cA 0, 18720, .inl (upd kd p0 (tk 0)))), (mv, .inl (cA 0, 18720, .inl (upd vl p0 (tv 0)))), (mt, .inl (cA 0, 300, .inl (tx_A tn))), (m1, .inl (cA 0, 2, .inl (tx_A pa))), (m2, .inl (cA 0, 2, .inl (tx_A ps))), (m3, .inl (cA 0, 2, .inl tk)), (m4, .inl (cA 0, 2, .inl tv))] := hD.sub [6, 0, 7, 8, 1, 2, 3, 4, 5] (by decide) rfl
          exact W.iret (v := nI 0) hx hb hr (fun T9 ht hW => ⟨⟨_, (pw, upd kd p0 (tk 0), upd vl p0 (tv 0)), rfl, dh_y (by rw [ex_l, if_pos (wn_p (by decide) rn_0 q_f0), if_neg (by decide), if_neg (by decide), if_neg (by decide), if_pos rfl, ex_S, q_o]; dsimp only; rw [← hp0, if_neg q_s0]) (sn_k hR p0 t0 t1) (fr_k _ _ _ _ _ (by omega : p0 < 1040)), by rw [ht]; exact hP9, hD9⟩, hS.F ht⟩) hS.2.2 xd_Mo_doPath_253
  · obtain ⟨t0, t2, t3, t4⟩ := hk3 (by decide)
    subst t3 t4
    refine lv_aload_n hx hb xd_Mo_doPath_0 rfl (lv_at hl 0 rfl) ?_
    refine lv_iconst (v := nI 0) hx hb xd_Mo_doPath_1 (by decide) ?_
    have hPc := hP.sub (ws' := [(mo, .inr (8, [.int th, .ref ms, .ref mk, .ref mv, .int (nI mm), .int (nI ml), .int (nI cnt), .ref mt, .int mp, .int mn, .int (nI mu), .ref ma, .int (nI at_), .int (nI b), .int (nI 68), .int ob, .ref m1, .ref m2, .ref m3, .ref m4, .int (nI rn), .int (nI pw), .ref mc])), (m3, .inl (cA 0, 2, .inl tk)), (m4, .inl (cA 0, 2, .inl tv))]) [0, 7, 8] rfl
    refine vp_callSi (va_Run.run (va_runV (As := [.int (nI 0)]) (rest := []) ⟨hx, hb, hml, hown, hts⟩ (ct_Mo_isFar l G cA mo th ms mk mv mm ml cnt mt mp mn mu ma at_ (nI b) (nI 68) ob m1 m2 m3 m4 rn pw mc tk tv 0 (by omega)) (cwV 1 hts (gi_v xm_751 xm_753 xs_Mo_isFar xm_9 xm_754) rfl rfl rfl ⟨rfl, xh_Mo_isFar⟩ ⟨Nat.le_of_ble_eq_true rfl, Nat.le_of_ble_eq_true rfl⟩) (pv_r hK hPc (ci := 8) (q0 := 0) rfl rfl) rfl rfl hl.1 rfl (lv_room (Nat.le_of_ble_eq_true rfl)) xd_Mo_doPath_2 ⟨Nat.le_of_ble_eq_true rfl, Nat.le_of_ble_eq_true rfl⟩)) (fun r_25 q_26 => ?_)
    refine lx_top (z := fr_R (tk 0) (tv 0)) (q_26) ?_
    refine lx_top (z := nI 0) (by rw [t0]; exact fr_0) ?_
    refine lv_if_ne (tgt := 16) hx hb xd_Mo_doPath_5 (by decide) (fun c_5_26 => absurd (by decide) c_5_26) (fun c_5_26 => ?_)
    refine lv_aload_n hx hb xd_Mo_doPath_8 rfl (lv_at hl 0 rfl) ?_
    refine lv_iconst (v := nI 1) hx hb xd_Mo_doPath_9 (by decide) ?_
    have hPc := hP.sub (ws' := [(mo, .inr (8, [.int th, .ref ms, .ref mk, .ref mv, .int (nI mm), .int (nI ml), .int (nI cnt), .ref mt, .int mp, .int mn, .int (nI mu), .ref ma, .int (nI at_), .int (nI b), .int (nI 68), .int ob, .ref m1, .ref m2, .ref m3, .ref m4, .int (nI rn), .int (nI pw), .ref mc])), (m3, .inl (cA 0, 2, .inl tk)), (m4, .inl (cA 0, 2, .inl tv))]) [0, 7, 8] rfl
    refine vp_callSi (va_Run.run (va_runV (As := [.int (nI 1)]) (rest := []) ⟨hx, hb, hml, hown, hts⟩ (ct_Mo_isFar l G cA mo th ms mk mv mm ml cnt mt mp mn mu ma at_ (nI b) (nI 68) ob m1 m2 m3 m4 rn pw mc tk tv 1 (by omega)) (cwV 1 hts (gi_v xm_751 xm_753 xs_Mo_isFar xm_9 xm_754) rfl rfl rfl ⟨rfl, xh_Mo_isFar⟩ ⟨Nat.le_of_ble_eq_true rfl, Nat.le_of_ble_eq_true rfl⟩) (pv_r hK hPc (ci := 8) (q0 := 0) rfl rfl) rfl rfl hl.1 rfl (lv_room (Nat.le_of_ble_eq_true rfl)) xd_Mo_doPath_10 ⟨Nat.le_of_ble_eq_true rfl, Nat.le_of_ble_eq_true rfl⟩)) (fun r_28 q_29 => ?_)
    refine lx_top (z := fr_R (tk 1) (tv 1)) (q_29) ?_
    refine lx_top (z := nI 0) (by rw [t2]; exact fr_0) ?_
    refine lv_if_eq (tgt := 18) hx hb xd_Mo_doPath_13 (by decide) (fun c_13_29 => ?_) (fun c_13_29 => absurd (by decide) c_13_29)
    refine lv_aload_n hx hb xd_Mo_doPath_18 rfl (lv_at hl 0 rfl) ?_
    refine lv_iconst (v := nI 0) hx hb xd_Mo_doPath_19 (by decide) ?_
    have hPc := hP.sub (ws' := [(mo, .inr (8, [.int th, .ref ms, .ref mk, .ref mv, .int (nI mm), .int (nI ml), .int (nI cnt), .ref mt, .int mp, .int mn, .int (nI mu), .ref ma, .int (nI at_), .int (nI b), .int (nI 68), .int ob, .ref m1, .ref m2, .ref m3, .ref m4, .int (nI rn), .int (nI pw), .ref mc])), (ms, .inl (cA 0, 720, .inl sa)), (mk, .inl (cA 0, 18720, .inl kd)), (mv, .inl (cA 0, 18720, .inl vl)), (mt, .inl (cA 0, 300, .inl (tx_A tn))), (m1, .inl (cA 0, 2, .inl (tx_A pa))), (m2, .inl (cA 0, 2, .inl (tx_A ps)))]) [0, 1, 2, 3, 4, 5, 6] rfl
    refine vp_callSi (va_Run.run (va_runV (As := [.int (nI 0)]) (rest := []) ⟨hx, hb, hml, hown, hts⟩ (ct_Mo_follow l G cA mo th ms mk mv mm ml cnt mt mp mn mu ma at_ (nI 68) ob m1 m2 m3 m4 rn pw mc b tn hc (by omega) hv (by omega) sa kd vl st ce pa ps 0 (by omega) hR hO h0.1 h0.2.1 h0.2.2) (cwV 1 hts (gi_v xm_755 xm_757 xs_Mo_follow xm_9 xm_758) rfl rfl rfl ⟨rfl, xh_Mo_follow⟩ ⟨Nat.le_of_ble_eq_true rfl, Nat.le_of_ble_eq_true rfl⟩) (pv_r hK hPc (ci := 8) (q0 := 0) rfl rfl) rfl rfl hl.1 rfl (lv_room (Nat.le_of_ble_eq_true rfl)) xd_Mo_doPath_20 ⟨Nat.le_of_ble_eq_true rfl, Nat.le_of_ble_eq_true rfl⟩)) (fun r_31 q_32 => ?_)
    refine lx_top (z := fq_R (fo_F st ce (pk_t tn (pa 0)) (ps 0 - 1)) (pk_t tn (pa 0) (ps 0 - 1))) (q_32) ?_
    rcases op_c (fo_F st ce (pk_t tn (pa 0)) (ps 0 - 1)) with q_o | ⟨n0, q_o⟩
    · refine lx_top (z := (-1)) (by rw [q_o]; rfl) ?_
      refine lv_istore_n (lv' := [(2, .int (-1)), (0, .ref mo), (1, .int fo)]) hx hb xd_Mo_doPath_23 rfl hl (by decide) rfl (fun ls hl => ?_)
      refine lv_aload_n hx hb xd_Mo_doPath_24 rfl (lv_at hl 1 rfl) ?_
      refine va_get (D := G) (ci := 8) (v := .int (nI 68)) (C := xc_Mo) (T := xf_Mo) (N := 23) hx hb hts xw_Mo hown hK.1 hP 0 rfl rfl 14 (by decide) (hts _ xm_633) (fun _ h9 => h9) rfl xd_Mo_doPath_25 ?_
      refine lv_bipush (v := nI 77) hx hb xd_Mo_doPath_28 (by decide) ?_
      refine lv_icmp_ne (tgt := 41) hx hb xd_Mo_doPath_30 (by decide) (fun c_30_32 => ?_) (fun c_30_32 => absurd c_30_32 (by decide))
      refine lv_iload_n hx hb xd_Mo_doPath_41 rfl (lv_at hl 0 rfl) ?_
      refine lv_istore_n (lv' := [(3, .int (-1)), (2, .int (-1)), (0, .ref mo), (1, .int fo)]) hx hb xd_Mo_doPath_42 rfl hl (by decide) rfl (fun ls hl => ?_)
      refine lv_iload_n hx hb xd_Mo_doPath_43 rfl (lv_at hl 1 rfl) ?_
      refine lv_iconst (v := (-1)) hx hb xd_Mo_doPath_44 (by decide) ?_
      refine lv_icmp_eq (tgt := 53) hx hb xd_Mo_doPath_45 (by decide) (fun c_45_33 => ?_) (fun c_45_33 => absurd (by decide) c_45_33)
      refine lv_iconst (v := nI 4) hx hb xd_Mo_doPath_53 (by decide) ?_
      have hP9 : va_P G xk_cl [(mo, .inr (8, [.int th, .ref ms, .ref mk, .ref mv, .int (nI mm), .int (nI ml), .int (nI cnt), .ref mt, .int mp, .int mn, .int (nI mu), .ref ma, .int (nI at_), .int (nI b), .int (nI 68), .int ob, .ref m1, .ref m2, .ref m3, .ref m4, .int (nI rn), .int (nI pw), .ref mc])), (ms, .inl (cA 0, 720, .inl sa)), (mk, .inl (cA 0, 18720, .inl kd)), (mv, .inl (cA 0, 18720, .inl vl)), (mt, .inl (cA 0, 300, .inl (tx_A tn))), (m1, .inl (cA 0, 2, .inl (tx_A pa))), (m2, .inl (cA 0, 2, .inl (tx_A ps))), (m3, .inl (cA 0, 2, .inl tk)), (m4, .inl (cA 0, 2, .inl tv))] _ := hP.sub [0, 1, 2, 3, 4, 5, 6, 7, 8] rfl
      have hD9 : va_D A [(mo, .inr (8, [.int th, .ref ms, .ref mk, .ref mv, .int (nI mm), .int (nI ml), .int (nI cnt), .ref mt, .int mp, .int mn, .int (nI mu), .ref ma, .int (nI at_), .int (nI b), .int (nI 68), .int ob, .ref m1, .ref m2, .ref m3, .ref m4, .int (nI rn), .int (nI pw), .ref mc])), (ms, .inl (cA 0, 720, .inl sa)), (mk, .inl (cA 0, 18720, .inl kd)), (mv, .inl (cA 0, 18720, .inl vl)), (mt, .inl (cA 0, 300, .inl (tx_A tn))), (m1, .inl (cA 0, 2, .inl (tx_A pa))), (m2, .inl (cA 0, 2, .inl (tx_A ps))), (m3, .inl (cA 0, 2, .inl tk)), (m4, .inl (cA 0, 2, .inl tv))] := hD.sub [0, 1, 2, 3, 4, 5, 6, 7, 8] (by decide) rfl
      exact W.iret (v := nI 4) hx hb hr (fun T9 ht hW => ⟨⟨_, (pw, kd, vl), rfl, dh_n (k := 4) (by rw [ex_l, if_pos (wn_p (by decide) rn_0 rn_0), if_neg (by decide), if_neg (by decide), if_neg (by decide), if_neg (by decide), if_pos rfl, ex_D, q_o]) (by decide) hR, by rw [ht]; exact hP9, hD9⟩, hS.F ht⟩) hS.2.2 xd_Mo_doPath_54
    · have l_0 := h0.2.2 (ps 0 - 1) (by omega)
      have k_0 : pk_t tn (pa 0) (ps 0 - 1) < 26 := by unfold pk_t; omega
      have n_0 : n0 < 40 := fo_F_l hO (fun j hj => by have := h0.2.2 j (by omega); unfold pk_t; omega) q_o
      obtain ⟨p0, hp0⟩ : ∃ z, z = n0 * 26 + pk_t tn (pa 0) (ps 0 - 1) := ⟨_, rfl⟩
      refine lx_top (z := nI p0) (by rw [q_o]; exact congrArg nI (by omega)) ?_
      refine lv_istore_n (lv' := [(2, .int (nI p0)), (0, .ref mo), (1, .int fo)]) hx hb xd_Mo_doPath_23 rfl hl (by decide) rfl (fun ls hl => ?_)
      refine lv_aload_n hx hb xd_Mo_doPath_24 rfl (lv_at hl 1 rfl) ?_
      refine va_get (D := G) (ci := 8) (v := .int (nI 68)) (C := xc_Mo) (T := xf_Mo) (N := 23) hx hb hts xw_Mo hown hK.1 hP 0 rfl rfl 14 (by decide) (hts _ xm_633) (fun _ h9 => h9) rfl xd_Mo_doPath_25 ?_
      refine lv_bipush (v := nI 77) hx hb xd_Mo_doPath_28 (by decide) ?_
      refine lv_icmp_ne (tgt := 41) hx hb xd_Mo_doPath_30 (by decide) (fun c_30_34 => ?_) (fun c_30_34 => absurd c_30_34 (by decide))
      refine lv_iload_n hx hb xd_Mo_doPath_41 rfl (lv_at hl 0 rfl) ?_
      refine lv_istore_n (lv' := [(3, .int (nI p0)), (2, .int (nI p0)), (0, .ref mo), (1, .int fo)]) hx hb xd_Mo_doPath_42 rfl hl (by decide) rfl (fun ls hl => ?_)
      refine lv_iload_n hx hb xd_Mo_doPath_43 rfl (lv_at hl 1 rfl) ?_
      refine lv_iconst (v := (-1)) hx hb xd_Mo_doPath_44 (by decide) ?_
      refine lv_icmp_eq (tgt := 53) hx hb xd_Mo_doPath_45 (by decide) (fun c_45_35 => absurd c_45_35 (nI_nm (by omega))) (fun c_45_35 => ?_)
      refine lv_iload_n hx hb xd_Mo_doPath_48 rfl (lv_at hl 0 rfl) ?_
      refine lv_iconst (v := (-1)) hx hb xd_Mo_doPath_49 (by decide) ?_
      refine lv_icmp_ne (tgt := 55) hx hb xd_Mo_doPath_50 (by decide) (fun c_50_36 => ?_) (fun c_50_36 => absurd c_50_36 (nI_nm (by omega)))
      refine lv_aload_n hx hb xd_Mo_doPath_55 rfl (lv_at hl 2 rfl) ?_
      refine va_get (D := G) (ci := 8) (v := .int (nI 68)) (C := xc_Mo) (T := xf_Mo) (N := 23) hx hb hts xw_Mo hown hK.1 hP 0 rfl rfl 14 (by decide) (hts _ xm_633) (fun _ h9 => h9) rfl xd_Mo_doPath_56 ?_
      refine lv_bipush (v := nI 83) hx hb xd_Mo_doPath_59 (by decide) ?_
      refine lv_icmp_eq (tgt := 75) hx hb xd_Mo_doPath_61 (by decide) (fun c_61_37 => absurd c_61_37 (by decide)) (fun c_61_37 => ?_)
      refine lv_aload_n hx hb xd_Mo_doPath_64 rfl (lv_at hl 2 rfl) ?_
      refine va_get (D := G) (ci := 8) (v := .ref mk) (C := xc_Mo) (T := xf_Mo) (N := 23) hx hb hts xw_Mo hown hK.1 hP 0 rfl rfl 2 (by decide) (hts _ xm_621) (fun _ h9 => h9) rfl xd_Mo_doPath_65 ?_
      refine lv_iload_n hx hb xd_Mo_doPath_68 rfl (lv_at hl 1 rfl) ?_
      refine wx_iald hx hb hK.1 hP 2 0 rfl rfl (k := p0) (by omega) (by decide) xd_Mo_doPath_69 ?_
      refine lx_top (z := en_K (ce p0)) ((hR.2 _ (by omega)).1) ?_
      refine lv_if_ne (tgt := 75) hx hb xd_Mo_doPath_70 (by decide) (fun c_70_38 => ?_) (fun c_70_38 => ?_)
      · have q_k : ¬ ce p0 = 0 := fun z => c_70_38 (by rw [z]; decide)
        refine lv_aload_n hx hb xd_Mo_doPath_75 rfl (lv_at hl 2 rfl) ?_
        refine va_get (D := G) (ci := 8) (v := .int (nI 68)) (C := xc_Mo) (T := xf_Mo) (N := 23) hx hb hts xw_Mo hown hK.1 hP 0 rfl rfl 14 (by decide) (hts _ xm_633) (fun _ h9 => h9) rfl xd_Mo_doPath_76 ?_
        refine lv_bipush (v := nI 67) hx hb xd_Mo_doPath_79 (by decide) ?_
        refine lv_icmp_ne (tgt := 126) hx hb xd_Mo_doPath_81 (by decide) (fun c_81_39 => ?_) (fun c_81_39 => absurd c_81_39 (by decide))
        refine lv_aload_n hx hb xd_Mo_doPath_126 rfl (lv_at hl 2 rfl) ?_
        refine lv_iload_n hx hb xd_Mo_doPath_127 rfl (lv_at hl 1 rfl) ?_
        refine lv_bipush (v := nI 26) hx hb xd_Mo_doPath_128 (by decide) ?_
        refine lx_idiv (z := nI n0) hx hb xd_Mo_doPath_130 (by decide) (by rw [pk_div (by omega) (by omega) (by omega)]; exact congrArg nI (by omega)) ?_
        refine lv_iload_n hx hb xd_Mo_doPath_131 rfl (lv_at hl 3 rfl) ?_
        have hPc := hP.sub (ws' := [(mo, .inr (8, [.int th, .ref ms, .ref mk, .ref mv, .int (nI mm), .int (nI ml), .int (nI cnt), .ref mt, .int mp, .int mn, .int (nI mu), .ref ma, .int (nI at_), .int (nI b), .int (nI 68), .int ob, .ref m1, .ref m2, .ref m3, .ref m4, .int (nI rn), .int (nI pw), .ref mc])), (ms, .inl (cA 0, 720, .inl sa))]) [0, 1] rfl
        refine vp_callSi (va_Run.run (va_runV (As := [.int (nI n0), .int fo]) (rest := []) ⟨hx, hb, hml, hown, hts⟩ (ct_Mo_isShut l G cA mo th ms mk mv mm ml cnt mt mp mn mu ma at_ (nI b) (nI 68) ob m1 m2 m3 m4 rn pw mc sa n0 fo n_0) (cwV 2 hts (gi_v xm_739 xm_741 xs_Mo_isShut xm_9 xm_742) rfl rfl rfl ⟨rfl, xh_Mo_isShut⟩ ⟨Nat.le_of_ble_eq_true rfl, Nat.le_of_ble_eq_true rfl⟩) (pv_r hK hPc (ci := 8) (q0 := 0) rfl rfl) rfl rfl hl.1 rfl (lv_room (Nat.le_of_ble_eq_true rfl)) xd_Mo_doPath_132 ⟨Nat.le_of_ble_eq_true rfl, Nat.le_of_ble_eq_true rfl⟩)) (fun r_41 q_42 => ?_)
        refine lx_top (z := cl_D fo (sa n0)) (q_42) ?_
        refine lx_top (z := cl_D fo (st n0)) (by rw [hR.1 n0 n_0]) ?_
        refine lv_if_ne (tgt := 150) hx hb xd_Mo_doPath_135 (by decide) (fun c_135_42 => ?_) (fun c_135_42 => ?_)
        · have q_s0 : cl_P fo (st n0) := Classical.byContradiction fun z => c_135_42 (cl_D_z.mpr z)
          refine lv_bipush (v := nI 6) hx hb xd_Mo_doPath_150 (by decide) ?_
          have hP9 : va_P G xk_cl [(mo, .inr (8, [.int th, .ref ms, .ref mk, .ref mv, .int (nI mm), .int (nI ml), .int (nI cnt), .ref mt, .int mp, .int mn, .int (nI mu), .ref ma, .int (nI at_), .int (nI b), .int (nI 68), .int ob, .ref m1, .ref m2, .ref m3, .ref m4, .int (nI rn), .int (nI pw), .ref mc])), (ms, .inl (cA 0, 720, .inl sa)), (mk, .inl (cA 0, 18720, .inl kd)), (mv, .inl (cA 0, 18720, .inl vl)), (mt, .inl (cA 0, 300, .inl (tx_A tn))), (m1, .inl (cA 0, 2, .inl (tx_A pa))), (m2, .inl (cA 0, 2, .inl (tx_A ps))), (m3, .inl (cA 0, 2, .inl tk)), (m4, .inl (cA 0, 2, .inl tv))] _ := hP.sub [0, 1, 2, 3, 4, 5, 6, 7, 8] rfl
          have hD9 : va_D A [(mo, .inr (8, [.int th, .ref ms, .ref mk, .ref mv, .int (nI mm), .int (nI ml), .int (nI cnt), .ref mt, .int mp, .int mn, .int (nI mu), .ref ma, .int (nI at_), .int (nI b), .int (nI 68), .int ob, .ref m1, .ref m2, .ref m3, .ref m4, .int (nI rn), .int (nI pw), .ref mc])), (ms, .inl (cA 0, 720, .inl sa)), (mk, .inl (cA 0, 18720, .inl kd)), (mv, .inl (cA 0, 18720, .inl vl)), (mt, .inl (cA 0, 300, .inl (tx_A tn))), (m1, .inl (cA 0, 2, .inl (tx_A pa))), (m2, .inl (cA 0, 2, .inl (tx_A ps))), (m3, .inl (cA 0, 2, .inl tk)), (m4, .inl (cA 0, 2, .inl tv))] := hD.sub [0, 1, 2, 3, 4, 5, 6, 7, 8] (by decide) rfl
          exact W.iret (v := nI 6) hx hb hr (fun T9 ht hW => ⟨⟨_, (pw, kd, vl), rfl, dh_n (k := 6) (by rw [ex_l, if_pos (wn_p (by decide) rn_0 rn_0), if_neg (by decide), if_neg (by decide), if_neg (by decide), if_neg (by decide), if_pos rfl, ex_D, q_o]; dsimp only; rw [← hp0, if_neg q_k, if_pos q_s0]) (by decide) hR, by rw [ht]; exact hP9, hD9⟩, hS.F ht⟩) hS.2.2 xd_Mo_doPath_152
        · have q_s0 := cl_D_z.mp c_135_42
          refine lv_aload_n hx hb xd_Mo_doPath_138 rfl (lv_at hl 2 rfl) ?_
          refine lv_iload_n hx hb xd_Mo_doPath_139 rfl (lv_at hl 0 rfl) ?_
          refine lv_bipush (v := nI 26) hx hb xd_Mo_doPath_140 (by decide) ?_
          refine lx_idiv (z := nI n0) hx hb xd_Mo_doPath_142 (by decide) (by rw [pk_div (by omega) (by omega) (by omega)]; exact congrArg nI (by omega)) ?_
          refine lv_iload_n hx hb xd_Mo_doPath_143 rfl (lv_at hl 3 rfl) ?_
          have hPc := hP.sub (ws' := [(mo, .inr (8, [.int th, .ref ms, .ref mk, .ref mv, .int (nI mm), .int (nI ml), .int (nI cnt), .ref mt, .int mp, .int mn, .int (nI mu), .ref ma, .int (nI at_), .int (nI b), .int (nI 68), .int ob, .ref m1, .ref m2, .ref m3, .ref m4, .int (nI rn), .int (nI pw), .ref mc])), (ms, .inl (cA 0, 720, .inl sa))]) [0, 1] rfl
          refine vp_callSi (va_Run.run (va_runV (As := [.int (nI n0), .int fo]) (rest := []) ⟨hx, hb, hml, hown, hts⟩ (ct_Mo_isShut l G cA mo th ms mk mv mm ml cnt mt mp mn mu ma at_ (nI b) (nI 68) ob m1 m2 m3 m4 rn pw mc sa n0 fo n_0) (cwV 2 hts (gi_v xm_739 xm_741 xs_Mo_isShut xm_9 xm_742) rfl rfl rfl ⟨rfl, xh_Mo_isShut⟩ ⟨Nat.le_of_ble_eq_true rfl, Nat.le_of_ble_eq_true rfl⟩) (pv_r hK hPc (ci := 8) (q0 := 0) rfl rfl) rfl rfl hl.1 rfl (lv_room (Nat.le_of_ble_eq_true rfl)) xd_Mo_doPath_144 ⟨Nat.le_of_ble_eq_true rfl, Nat.le_of_ble_eq_true rfl⟩)) (fun r_44 q_45 => ?_)
          refine lx_top (z := cl_D fo (sa n0)) (q_45) ?_
          refine lx_top (z := cl_D fo (st n0)) (by rw [hR.1 n0 n_0]) ?_
          refine lv_if_eq (tgt := 153) hx hb xd_Mo_doPath_147 (by decide) (fun c_147_45 => ?_) (fun c_147_45 => absurd (cl_D_z.mpr q_s0) c_147_45)
          refine lv_aload_n hx hb xd_Mo_doPath_153 rfl (lv_at hl 2 rfl) ?_
          refine va_get (D := G) (ci := 8) (v := .int (nI 68)) (C := xc_Mo) (T := xf_Mo) (N := 23) hx hb hts xw_Mo hown hK.1 hP 0 rfl rfl 14 (by decide) (hts _ xm_633) (fun _ h9 => h9) rfl xd_Mo_doPath_154 ?_
          refine lv_bipush (v := nI 83) hx hb xd_Mo_doPath_157 (by decide) ?_
          refine lv_icmp_ne (tgt := 182) hx hb xd_Mo_doPath_159 (by decide) (fun c_159_46 => ?_) (fun c_159_46 => absurd c_159_46 (by decide))
          refine lv_aload_n hx hb xd_Mo_doPath_182 rfl (lv_at hl 2 rfl) ?_
          refine va_get (D := G) (ci := 8) (v := .int (nI 68)) (C := xc_Mo) (T := xf_Mo) (N := 23) hx hb hts xw_Mo hown hK.1 hP 0 rfl rfl 14 (by decide) (hts _ xm_633) (fun _ h9 => h9) rfl xd_Mo_doPath_183 ?_
          refine lv_bipush (v := nI 67) hx hb xd_Mo_doPath_186 (by decide) ?_
          refine lv_icmp_ne (tgt := 211) hx hb xd_Mo_doPath_188 (by decide) (fun c_188_47 => ?_) (fun c_188_47 => absurd c_188_47 (by decide))
          refine lv_aload_n hx hb xd_Mo_doPath_211 rfl (lv_at hl 2 rfl) ?_
          refine va_get (D := G) (ci := 8) (v := .ref mk) (C := xc_Mo) (T := xf_Mo) (N := 23) hx hb hts xw_Mo hown hK.1 hP 0 rfl rfl 2 (by decide) (hts _ xm_621) (fun _ h9 => h9) rfl xd_Mo_doPath_212 ?_
          refine lv_iload_n hx hb xd_Mo_doPath_215 rfl (lv_at hl 1 rfl) ?_
          refine wx_iald hx hb hK.1 hP 2 0 rfl rfl (k := p0) (by omega) (by decide) xd_Mo_doPath_216 ?_
          refine lv_istore (lv' := [(4, .int (kd p0)), (3, .int (nI p0)), (2, .int (nI p0)), (0, .ref mo), (1, .int fo)]) hx hb xd_Mo_doPath_217 hl (by decide) rfl (fun ls hl => ?_)
          refine lv_aload_n hx hb xd_Mo_doPath_219 rfl (lv_at hl 3 rfl) ?_
          refine va_get (D := G) (ci := 8) (v := .ref mv) (C := xc_Mo) (T := xf_Mo) (N := 23) hx hb hts xw_Mo hown hK.1 hP 0 rfl rfl 3 (by decide) (hts _ xm_622) (fun _ h9 => h9) rfl xd_Mo_doPath_220 ?_
          refine lv_iload_n hx hb xd_Mo_doPath_223 rfl (lv_at hl 2 rfl) ?_
          refine wx_iald hx hb hK.1 hP 3 0 rfl rfl (k := p0) (by omega) (by decide) xd_Mo_doPath_224 ?_
          refine lv_istore (lv' := [(5, .int (vl p0)), (4, .int (kd p0)), (3, .int (nI p0)), (2, .int (nI p0)), (0, .ref mo), (1, .int fo)]) hx hb xd_Mo_doPath_225 hl (by decide) rfl (fun ls hl => ?_)
          refine lv_aload_n hx hb xd_Mo_doPath_227 rfl (lv_at hl 4 rfl) ?_
          refine lv_iload_n hx hb xd_Mo_doPath_228 rfl (lv_at hl 3 rfl) ?_
          refine lv_iconst (v := nI 0) hx hb xd_Mo_doPath_229 (by decide) ?_
          refine lv_iconst (v := nI 0) hx hb xd_Mo_doPath_230 (by decide) ?_
          have hPc := hP.sub (ws' := [(mo, .inr (8, [.int th, .ref ms, .ref mk, .ref mv, .int (nI mm), .int (nI ml), .int (nI cnt), .ref mt, .int mp, .int mn, .int (nI mu), .ref ma, .int (nI at_), .int (nI b), .int (nI 68), .int ob, .ref m1, .ref m2, .ref m3, .ref m4, .int (nI rn), .int (nI pw), .ref mc])), (mk, .inl (cA 0, 18720, .inl kd)), (mv, .inl (cA 0, 18720, .inl vl))]) [0, 2, 3] rfl
          have hDc := hD.sub (ws' := [(mo, .inr (8, [.int th, .ref ms, .ref mk, .ref mv, .int (nI mm), .int (nI ml), .int (nI cnt), .ref mt, .int mp, .int mn, .int (nI mu), .ref ma, .int (nI at_), .int (nI b), .int (nI 68), .int ob, .ref m1, .ref m2, .ref m3, .ref m4, .int (nI rn), .int (nI pw), .ref mc])), (mk, .inl (cA 0, 18720, .inl kd)), (mv, .inl (cA 0, 18720, .inl vl))]) [0, 2, 3] (by decide) rfl
          have hFc := va_free (wc := [(mo, .inr (8, [.int th, .ref ms, .ref mk, .ref mv, .int (nI mm), .int (nI ml), .int (nI cnt), .ref mt, .int mp, .int mn, .int (nI mu), .ref ma, .int (nI at_), .int (nI b), .int (nI 68), .int ob, .ref m1, .ref m2, .ref m3, .ref m4, .int (nI rn), .int (nI pw), .ref mc])), (mk, .inl (cA 0, 18720, .inl kd)), (mv, .inl (cA 0, 18720, .inl vl))]) hD hS hA [0, 2, 3] rfl
          refine va_callv (va_runV (As := [.int (nI p0), .int (nI 0), .int (nI 0)]) (rest := []) ⟨hx, hb, hml, hown, hts⟩ (ct_Mo_put l G cA s.heap.size mo th ms mk mv mm ml cnt mt mp mn mu ma at_ (nI b) (nI 68) ob m1 m2 m3 m4 rn pw mc kd vl p0 (nI 0) (nI 0) (by omega)) (cwV 3 hts (gi_v xm_759 xm_761 xs_Mo_put xm_9 xm_762) rfl rfl rfl ⟨rfl, xh_Mo_put⟩ ⟨Nat.le_of_ble_eq_true rfl, Nat.le_of_ble_eq_true rfl⟩) (pv_w hK hPc hDc (ci := 8) (q0 := 0) rfl rfl) rfl rfl hl.1 rfl (lv_room (Nat.le_of_ble_eq_true rfl)) xd_Mo_doPath_231 ⟨Nat.le_of_ble_eq_true rfl, Nat.le_of_ble_eq_true rfl⟩) hS (fun q _ h => hFc q h) hFc (fun u9 t9 H1 locs ht hvm q_50 hB hz1 hk1 hS => ?_)
          obtain ⟨hP1, hD1⟩ := hB
          rw [ht] at hP1
          obtain ⟨hP, hD⟩ := va_join (wr := [(ms, .inl (cA 0, 720, .inl sa)), (mt, .inl (cA 0, 300, .inl (tx_A tn))), (m1, .inl (cA 0, 2, .inl (tx_A pa))), (m2, .inl (cA 0, 2, .inl (tx_A ps))), (m3, .inl (cA 0, 2, .inl tk)), (m4, .inl (cA 0, 2, .inl tv))]) (w1 := [(mo, .inr (8, [.int th, .ref ms, .ref mk, .ref mv, .int (nI mm), .int (nI ml), .int (nI cnt), .ref mt, .int mp, .int mn, .int (nI mu), .ref ma, .int (nI at_), .int (nI b), .int (nI 68), .int ob, .ref m1, .ref m2, .ref m3, .ref m4, .int (nI rn), .int (nI pw), .ref mc])), (mk, .inl (cA 0, 18720, .inl (upd kd p0 (nI 0)))), (mv, .inl (cA 0, 18720, .inl (upd vl p0 (nI 0))))]) hP hD [0, 2, 3] [1, 4, 5, 6, 7, 8] rfl rfl (by decide) (by decide) hk1 hFc hP1 hD1
          generalize H1 = H at hP hS ⊢
          have hP : va_P G xk_cl [(ms, .inl (cA 0, 720, .inl sa)), (mt, .inl (cA 0, 300, .inl (tx_A tn))), (m1, .inl (cA 0, 2, .inl (tx_A pa))), (m2, .inl (cA 0, 2, .inl (tx_A ps))), (m3, .inl (cA 0, 2, .inl tk)), (m4, .inl (cA 0, 2, .inl tv)), (mo, .inr (8, [.int th, .ref ms, .ref mk, .ref mv, .int (nI mm), .int (nI ml), .int (nI cnt), .ref mt, .int mp, .int mn, .int (nI mu), .ref ma, .int (nI at_), .int (nI b), .int (nI 68), .int ob, .ref m1, .ref m2, .ref m3, .ref m4, .int (nI rn), .int (nI pw), .ref mc])), (mk, .inl (cA 0, 18720, .inl (upd kd p0 (nI 0)))), (mv, .inl (cA 0, 18720, .inl (upd vl p0 (nI 0))))] H := hP
          have hD : va_D A [(ms, .inl (cA 0, 720, .inl sa)), (mt, .inl (cA 0, 300, .inl (tx_A tn))), (m1, .inl (cA 0, 2, .inl (tx_A pa))), (m2, .inl (cA 0, 2, .inl (tx_A ps))), (m3, .inl (cA 0, 2, .inl tk)), (m4, .inl (cA 0, 2, .inl tv)), (mo, .inr (8, [.int th, .ref ms, .ref mk, .ref mv, .int (nI mm), .int (nI ml), .int (nI cnt), .ref mt, .int mp, .int mn, .int (nI mu), .ref ma, .int (nI at_), .int (nI b), .int (nI 68), .int ob, .ref m1, .ref m2, .ref m3, .ref m4, .int (nI rn), .int (nI pw), .ref mc])), (mk, .inl (cA 0, 18720, .inl (upd kd p0 (nI 0)))), (mv, .inl (cA 0, 18720, .inl (upd vl p0 (nI 0))))] := hD
          refine lv_aload_n hx hb xd_Mo_doPath_234 rfl (lv_at hl 4 rfl) ?_
          refine va_get (D := G) (ci := 8) (v := .int (nI 68)) (C := xc_Mo) (T := xf_Mo) (N := 23) hx hb hts xw_Mo hown hK.1 hP 6 rfl rfl 14 (by decide) (hts _ xm_633) (fun _ h9 => h9) rfl xd_Mo_doPath_235 ?_
          refine lv_bipush (v := nI 77) hx hb xd_Mo_doPath_238 (by decide) ?_
          refine lv_icmp_ne (tgt := 252) hx hb xd_Mo_doPath_240 (by decide) (fun c_240_50 => ?_) (fun c_240_50 => absurd c_240_50 (by decide))
          refine lv_iconst (v := nI 0) hx hb xd_Mo_doPath_252 (by decide) ?_
          have hP9 : va_P G xk_cl [(mo, .inr (8, [.int th, .ref ms, .ref mk, .ref mv, .int (nI mm), .int (nI ml), .int (nI cnt), .ref mt, .int mp, .int mn, .int (nI mu), .ref ma, .int (nI at_), .int (nI b), .int (nI 68), .int ob, .ref m1, .ref m2, .ref m3, .ref m4, .int (nI rn), .int (nI pw), .ref mc])), (ms, .inl (cA 0, 720, .inl sa)), (mk, .inl (cA 0, 18720, .inl (upd kd p0 (nI 0)))), (mv, .inl (cA 0, 18720, .inl (upd vl p0 (nI 0)))), (mt, .inl (cA 0, 300, .inl (tx_A tn))), (m1, .inl (cA 0, 2, .inl (tx_A pa))), (m2, .inl (cA 0, 2, .inl (tx_A ps))), (m3, .inl (cA 0, 2, .inl tk)), (m4, .inl (cA 0, 2, .inl tv))] _ := hP.sub [6, 0, 7, 8, 1, 2, 3, 4, 5] rfl
          have hD9 : va_D A [(mo, .inr (8, [.int th, .ref ms, .ref mk, .ref mv, .int (nI mm), .int (nI ml), .int (nI cnt), .ref mt, .int mp, .int mn, .int (nI mu), .ref ma, .int (nI at_), .int (nI b), .int (nI 68), .int ob, .ref m1, .ref m2, .ref m3, .ref m4, .int (nI rn), .int (nI pw), .ref mc])), (ms, .inl (cA 0, 720, .inl sa)), (mk, .inl (cA 0, 18720, .inl (upd kd p0 (nI 0)))), (mv, .inl (cA 0, 18720, .inl (upd vl p0 (nI 0)))), (mt, .inl (cA 0, 300, .inl (tx_A tn))), (m1, .inl (cA 0, 2, .inl (tx_A pa))), (m2, .inl (cA 0, 2, .inl (tx_A ps))), (m3, .inl (cA 0, 2, .inl tk)), (m4, .inl (cA 0, 2, .inl tv))] := hD.sub [6, 0, 7, 8, 1, 2, 3, 4, 5] (by decide) rfl
          exact W.iret (v := nI 0) hx hb hr (fun T9 ht hW => ⟨⟨_, (pw, upd kd p0 (nI 0), upd vl p0 (nI 0)), rfl, dh_y (by rw [ex_l, if_pos (wn_p (by decide) rn_0 rn_0), if_neg (by decide), if_neg (by decide), if_neg (by decide), if_neg (by decide), if_pos rfl, ex_D, q_o]; dsimp only; rw [← hp0, if_neg q_k, if_neg q_s0]) (sn_k hR p0 (by decide) (by decide)) (fr_k _ _ _ _ _ (by omega : p0 < 1040)), by rw [ht]; exact hP9, hD9⟩, hS.F ht⟩) hS.2.2 xd_Mo_doPath_253
      · have q_k : ce p0 = 0 := hZ _ (by omega) c_70_38
        refine lv_iconst (v := nI 5) hx hb xd_Mo_doPath_73 (by decide) ?_
        have hP9 : va_P G xk_cl [(mo, .inr (8, [.int th, .ref ms, .ref mk, .ref mv, .int (nI mm), .int (nI ml), .int (nI cnt), .ref mt, .int mp, .int mn, .int (nI mu), .ref ma, .int (nI at_), .int (nI b), .int (nI 68), .int ob, .ref m1, .ref m2, .ref m3, .ref m4, .int (nI rn), .int (nI pw), .ref mc])), (ms, .inl (cA 0, 720, .inl sa)), (mk, .inl (cA 0, 18720, .inl kd)), (mv, .inl (cA 0, 18720, .inl vl)), (mt, .inl (cA 0, 300, .inl (tx_A tn))), (m1, .inl (cA 0, 2, .inl (tx_A pa))), (m2, .inl (cA 0, 2, .inl (tx_A ps))), (m3, .inl (cA 0, 2, .inl tk)), (m4, .inl (cA 0, 2, .inl tv))] _ := hP.sub [0, 1, 2, 3, 4, 5, 6, 7, 8] rfl
        have hD9 : va_D A [(mo, .inr (8, [.int th, .ref ms, .ref mk, .ref mv, .int (nI mm), .int (nI ml), .int (nI cnt), .ref mt, .int mp, .int mn, .int (nI mu), .ref ma, .int (nI at_), .int (nI b), .int (nI 68), .int ob, .ref m1, .ref m2, .ref m3, .ref m4, .int (nI rn), .int (nI pw), .ref mc])), (ms, .inl (cA 0, 720, .inl sa)), (mk, .inl (cA 0, 18720, .inl kd)), (mv, .inl (cA 0, 18720, .inl vl)), (mt, .inl (cA 0, 300, .inl (tx_A tn))), (m1, .inl (cA 0, 2, .inl (tx_A pa))), (m2, .inl (cA 0, 2, .inl (tx_A ps))), (m3, .inl (cA 0, 2, .inl tk)), (m4, .inl (cA 0, 2, .inl tv))] := hD.sub [0, 1, 2, 3, 4, 5, 6, 7, 8] (by decide) rfl
        exact W.iret (v := nI 5) hx hb hr (fun T9 ht hW => ⟨⟨_, (pw, kd, vl), rfl, dh_n (k := 5) (by rw [ex_l, if_pos (wn_p (by decide) rn_0 rn_0), if_neg (by decide), if_neg (by decide), if_neg (by decide), if_neg (by decide), if_pos rfl, ex_D, q_o]; dsimp only; rw [← hp0, if_pos q_k]) (by decide) hR, by rw [ht]; exact hP9, hD9⟩, hS.F ht⟩) hS.2.2 xd_Mo_doPath_74
  · obtain ⟨t0, t2, t3, t4⟩ := hk3 (by decide)
    subst t3 t4
    refine lv_aload_n hx hb xd_Mo_doPath_0 rfl (lv_at hl 0 rfl) ?_
    refine lv_iconst (v := nI 0) hx hb xd_Mo_doPath_1 (by decide) ?_
    have hPc := hP.sub (ws' := [(mo, .inr (8, [.int th, .ref ms, .ref mk, .ref mv, .int (nI mm), .int (nI ml), .int (nI cnt), .ref mt, .int mp, .int mn, .int (nI mu), .ref ma, .int (nI at_), .int (nI b), .int (nI 77), .int ob, .ref m1, .ref m2, .ref m3, .ref m4, .int (nI rn), .int (nI pw), .ref mc])), (m3, .inl (cA 0, 2, .inl tk)), (m4, .inl (cA 0, 2, .inl tv))]) [0, 7, 8] rfl
    refine vp_callSi (va_Run.run (va_runV (As := [.int (nI 0)]) (rest := []) ⟨hx, hb, hml, hown, hts⟩ (ct_Mo_isFar l G cA mo th ms mk mv mm ml cnt mt mp mn mu ma at_ (nI b) (nI 77) ob m1 m2 m3 m4 rn pw mc tk tv 0 (by omega)) (cwV 1 hts (gi_v xm_751 xm_753 xs_Mo_isFar xm_9 xm_754) rfl rfl rfl ⟨rfl, xh_Mo_isFar⟩ ⟨Nat.le_of_ble_eq_true rfl, Nat.le_of_ble_eq_true rfl⟩) (pv_r hK hPc (ci := 8) (q0 := 0) rfl rfl) rfl rfl hl.1 rfl (lv_room (Nat.le_of_ble_eq_true rfl)) xd_Mo_doPath_2 ⟨Nat.le_of_ble_eq_true rfl, Nat.le_of_ble_eq_true rfl⟩)) (fun r_52 q_53 => ?_)
    refine lx_top (z := fr_R (tk 0) (tv 0)) (q_53) ?_
    refine lx_top (z := nI 0) (by rw [t0]; exact fr_0) ?_
    refine lv_if_ne (tgt := 16) hx hb xd_Mo_doPath_5 (by decide) (fun c_5_53 => absurd (by decide) c_5_53) (fun c_5_53 => ?_)
    refine lv_aload_n hx hb xd_Mo_doPath_8 rfl (lv_at hl 0 rfl) ?_
    refine lv_iconst (v := nI 1) hx hb xd_Mo_doPath_9 (by decide) ?_
    have hPc := hP.sub (ws' := [(mo, .inr (8, [.int th, .ref ms, .ref mk, .ref mv, .int (nI mm), .int (nI ml), .int (nI cnt), .ref mt, .int mp, .int mn, .int (nI mu), .ref ma, .int (nI at_), .int (nI b), .int (nI 77), .int ob, .ref m1, .ref m2, .ref m3, .ref m4, .int (nI rn), .int (nI pw), .ref mc])), (m3, .inl (cA 0, 2, .inl tk)), (m4, .inl (cA 0, 2, .inl tv))]) [0, 7, 8] rfl
    refine vp_callSi (va_Run.run (va_runV (As := [.int (nI 1)]) (rest := []) ⟨hx, hb, hml, hown, hts⟩ (ct_Mo_isFar l G cA mo th ms mk mv mm ml cnt mt mp mn mu ma at_ (nI b) (nI 77) ob m1 m2 m3 m4 rn pw mc tk tv 1 (by omega)) (cwV 1 hts (gi_v xm_751 xm_753 xs_Mo_isFar xm_9 xm_754) rfl rfl rfl ⟨rfl, xh_Mo_isFar⟩ ⟨Nat.le_of_ble_eq_true rfl, Nat.le_of_ble_eq_true rfl⟩) (pv_r hK hPc (ci := 8) (q0 := 0) rfl rfl) rfl rfl hl.1 rfl (lv_room (Nat.le_of_ble_eq_true rfl)) xd_Mo_doPath_10 ⟨Nat.le_of_ble_eq_true rfl, Nat.le_of_ble_eq_true rfl⟩)) (fun r_55 q_56 => ?_)
    refine lx_top (z := fr_R (tk 1) (tv 1)) (q_56) ?_
    refine lx_top (z := nI 0) (by rw [t2]; exact fr_0) ?_
    refine lv_if_eq (tgt := 18) hx hb xd_Mo_doPath_13 (by decide) (fun c_13_56 => ?_) (fun c_13_56 => absurd (by decide) c_13_56)
    refine lv_aload_n hx hb xd_Mo_doPath_18 rfl (lv_at hl 0 rfl) ?_
    refine lv_iconst (v := nI 0) hx hb xd_Mo_doPath_19 (by decide) ?_
    have hPc := hP.sub (ws' := [(mo, .inr (8, [.int th, .ref ms, .ref mk, .ref mv, .int (nI mm), .int (nI ml), .int (nI cnt), .ref mt, .int mp, .int mn, .int (nI mu), .ref ma, .int (nI at_), .int (nI b), .int (nI 77), .int ob, .ref m1, .ref m2, .ref m3, .ref m4, .int (nI rn), .int (nI pw), .ref mc])), (ms, .inl (cA 0, 720, .inl sa)), (mk, .inl (cA 0, 18720, .inl kd)), (mv, .inl (cA 0, 18720, .inl vl)), (mt, .inl (cA 0, 300, .inl (tx_A tn))), (m1, .inl (cA 0, 2, .inl (tx_A pa))), (m2, .inl (cA 0, 2, .inl (tx_A ps)))]) [0, 1, 2, 3, 4, 5, 6] rfl
    refine vp_callSi (va_Run.run (va_runV (As := [.int (nI 0)]) (rest := []) ⟨hx, hb, hml, hown, hts⟩ (ct_Mo_follow l G cA mo th ms mk mv mm ml cnt mt mp mn mu ma at_ (nI 77) ob m1 m2 m3 m4 rn pw mc b tn hc (by omega) hv (by omega) sa kd vl st ce pa ps 0 (by omega) hR hO h0.1 h0.2.1 h0.2.2) (cwV 1 hts (gi_v xm_755 xm_757 xs_Mo_follow xm_9 xm_758) rfl rfl rfl ⟨rfl, xh_Mo_follow⟩ ⟨Nat.le_of_ble_eq_true rfl, Nat.le_of_ble_eq_true rfl⟩) (pv_r hK hPc (ci := 8) (q0 := 0) rfl rfl) rfl rfl hl.1 rfl (lv_room (Nat.le_of_ble_eq_true rfl)) xd_Mo_doPath_20 ⟨Nat.le_of_ble_eq_true rfl, Nat.le_of_ble_eq_true rfl⟩)) (fun r_58 q_59 => ?_)
    refine lx_top (z := fq_R (fo_F st ce (pk_t tn (pa 0)) (ps 0 - 1)) (pk_t tn (pa 0) (ps 0 - 1))) (q_59) ?_
    rcases op_c (fo_F st ce (pk_t tn (pa 0)) (ps 0 - 1)) with q_o | ⟨n0, q_o⟩
    · refine lx_top (z := (-1)) (by rw [q_o]; rfl) ?_
      refine lv_istore_n (lv' := [(2, .int (-1)), (0, .ref mo), (1, .int fo)]) hx hb xd_Mo_doPath_23 rfl hl (by decide) rfl (fun ls hl => ?_)
      refine lv_aload_n hx hb xd_Mo_doPath_24 rfl (lv_at hl 1 rfl) ?_
      refine va_get (D := G) (ci := 8) (v := .int (nI 77)) (C := xc_Mo) (T := xf_Mo) (N := 23) hx hb hts xw_Mo hown hK.1 hP 0 rfl rfl 14 (by decide) (hts _ xm_633) (fun _ h9 => h9) rfl xd_Mo_doPath_25 ?_
      refine lv_bipush (v := nI 77) hx hb xd_Mo_doPath_28 (by decide) ?_
      refine lv_icmp_ne (tgt := 41) hx hb xd_Mo_doPath_30 (by decide) (fun c_30_59 => absurd (by decide) c_30_59) (fun c_30_59 => ?_)
      refine lv_aload_n hx hb xd_Mo_doPath_33 rfl (lv_at hl 1 rfl) ?_
      refine lv_iconst (v := nI 1) hx hb xd_Mo_doPath_34 (by decide) ?_
      have hPc := hP.sub (ws' := [(mo, .inr (8, [.int th, .ref ms, .ref mk, .ref mv, .int (nI mm), .int (nI ml), .int (nI cnt), .ref mt, .int mp, .int mn, .int (nI mu), .ref ma, .int (nI at_), .int (nI b), .int (nI 77), .int ob, .ref m1, .ref m2, .ref m3, .ref m4, .int (nI rn), .int (nI pw), .ref mc])), (ms, .inl (cA 0, 720, .inl sa)), (mk, .inl (cA 0, 18720, .inl kd)), (mv, .inl (cA 0, 18720, .inl vl)), (mt, .inl (cA 0, 300, .inl (tx_A tn))), (m1, .inl (cA 0, 2, .inl (tx_A pa))), (m2, .inl (cA 0, 2, .inl (tx_A ps)))]) [0, 1, 2, 3, 4, 5, 6] rfl
      refine vp_callSi (va_Run.run (va_runV (As := [.int (nI 1)]) (rest := []) ⟨hx, hb, hml, hown, hts⟩ (ct_Mo_follow l G cA mo th ms mk mv mm ml cnt mt mp mn mu ma at_ (nI 77) ob m1 m2 m3 m4 rn pw mc b tn hc (by omega) hv (by omega) sa kd vl st ce pa ps 1 (by omega) hR hO ((h1 rfl).1) ((h1 rfl).2.1) ((h1 rfl).2.2)) (cwV 1 hts (gi_v xm_755 xm_757 xs_Mo_follow xm_9 xm_758) rfl rfl rfl ⟨rfl, xh_Mo_follow⟩ ⟨Nat.le_of_ble_eq_true rfl, Nat.le_of_ble_eq_true rfl⟩) (pv_r hK hPc (ci := 8) (q0 := 0) rfl rfl) rfl rfl hl.1 rfl (lv_room (Nat.le_of_ble_eq_true rfl)) xd_Mo_doPath_35 ⟨Nat.le_of_ble_eq_true rfl, Nat.le_of_ble_eq_true rfl⟩)) (fun r_61 q_62 => ?_)
      refine lx_top (z := fq_R (fo_F st ce (pk_t tn (pa 1)) (ps 1 - 1)) (pk_t tn (pa 1) (ps 1 - 1))) (q_62) ?_
      rcases op_c (fo_F st ce (pk_t tn (pa 1)) (ps 1 - 1)) with q_o2 | ⟨n1, q_o2⟩
      · refine lx_top (z := (-1)) (by rw [q_o2]; rfl) ?_
        refine lv_goto (tgt := 42) hx hb xd_Mo_doPath_38 (by decide) ?_
        refine lv_istore_n (lv' := [(3, .int (-1)), (2, .int (-1)), (0, .ref mo), (1, .int fo)]) hx hb xd_Mo_doPath_42 rfl hl (by decide) rfl (fun ls hl => ?_)
        refine lv_iload_n hx hb xd_Mo_doPath_43 rfl (lv_at hl 1 rfl) ?_
        refine lv_iconst (v := (-1)) hx hb xd_Mo_doPath_44 (by decide) ?_
        refine lv_icmp_eq (tgt := 53) hx hb xd_Mo_doPath_45 (by decide) (fun c_45_62 => ?_) (fun c_45_62 => absurd (by decide) c_45_62)
        refine lv_iconst (v := nI 4) hx hb xd_Mo_doPath_53 (by decide) ?_
        have hP9 : va_P G xk_cl [(mo, .inr (8, [.int th, .ref ms, .ref mk, .ref mv, .int (nI mm), .int (nI ml), .int (nI cnt), .ref mt, .int mp, .int mn, .int (nI mu), .ref ma, .int (nI at_), .int (nI b), .int (nI 77), .int ob, .ref m1, .ref m2, .ref m3, .ref m4, .int (nI rn), .int (nI pw), .ref mc])), (ms, .inl (cA 0, 720, .inl sa)), (mk, .inl (cA 0, 18720, .inl kd)), (mv, .inl (cA 0, 18720, .inl vl)), (mt, .inl (cA 0, 300, .inl (tx_A tn))), (m1, .inl (cA 0, 2, .inl (tx_A pa))), (m2, .inl (cA 0, 2, .inl (tx_A ps))), (m3, .inl (cA 0, 2, .inl tk)), (m4, .inl (cA 0, 2, .inl tv))] _ := hP.sub [0, 1, 2, 3, 4, 5, 6, 7, 8] rfl
        have hD9 : va_D A [(mo, .inr (8, [.int th, .ref ms, .ref mk, .ref mv, .int (nI mm), .int (nI ml), .int (nI cnt), .ref mt, .int mp, .int mn, .int (nI mu), .ref ma, .int (nI at_), .int (nI b), .int (nI 77), .int ob, .ref m1, .ref m2, .ref m3, .ref m4, .int (nI rn), .int (nI pw), .ref mc])), (ms, .inl (cA 0, 720, .inl sa)), (mk, .inl (cA 0, 18720, .inl kd)), (mv, .inl (cA 0, 18720, .inl vl)), (mt, .inl (cA 0, 300, .inl (tx_A tn))), (m1, .inl (cA 0, 2, .inl (tx_A pa))), (m2, .inl (cA 0, 2, .inl (tx_A ps))), (m3, .inl (cA 0, 2, .inl tk)), (m4, .inl (cA 0, 2, .inl tv))] := hD.sub [0, 1, 2, 3, 4, 5, 6, 7, 8] (by decide) rfl
        exact W.iret (v := nI 4) hx hb hr (fun T9 ht hW => ⟨⟨_, (pw, kd, vl), rfl, dh_n (k := 4) (by rw [ex_l, if_pos (wn_p (by decide) rn_0 rn_0), if_neg (by decide), if_neg (by decide), if_neg (by decide), if_neg (by decide), if_neg (by decide), if_pos rfl, ex_M, q_o]) (by decide) hR, by rw [ht]; exact hP9, hD9⟩, hS.F ht⟩) hS.2.2 xd_Mo_doPath_54
      · have l_1 := (h1 rfl).2.2 (ps 1 - 1) (by have := (h1 rfl).1; omega)
        have k_1 : pk_t tn (pa 1) (ps 1 - 1) < 26 := by unfold pk_t; omega
        have n_1 : n1 < 40 := fo_F_l hO (fun j hj => by have := (h1 rfl).2.2 j (by omega); unfold pk_t; omega) q_o2
        obtain ⟨p1, hp1⟩ : ∃ z, z = n1 * 26 + pk_t tn (pa 1) (ps 1 - 1) := ⟨_, rfl⟩
        refine lx_top (z := nI p1) (by rw [q_o2]; exact congrArg nI (by omega)) ?_
        refine lv_goto (tgt := 42) hx hb xd_Mo_doPath_38 (by decide) ?_
        refine lv_istore_n (lv' := [(3, .int (nI p1)), (2, .int (-1)), (0, .ref mo), (1, .int fo)]) hx hb xd_Mo_doPath_42 rfl hl (by decide) rfl (fun ls hl => ?_)
        refine lv_iload_n hx hb xd_Mo_doPath_43 rfl (lv_at hl 1 rfl) ?_
        refine lv_iconst (v := (-1)) hx hb xd_Mo_doPath_44 (by decide) ?_
        refine lv_icmp_eq (tgt := 53) hx hb xd_Mo_doPath_45 (by decide) (fun c_45_63 => ?_) (fun c_45_63 => absurd (by decide) c_45_63)
        refine lv_iconst (v := nI 4) hx hb xd_Mo_doPath_53 (by decide) ?_
        have hP9 : va_P G xk_cl [(mo, .inr (8, [.int th, .ref ms, .ref mk, .ref mv, .int (nI mm), .int (nI ml), .int (nI cnt), .ref mt, .int mp, .int mn, .int (nI mu), .ref ma, .int (nI at_), .int (nI b), .int (nI 77), .int ob, .ref m1, .ref m2, .ref m3, .ref m4, .int (nI rn), .int (nI pw), .ref mc])), (ms, .inl (cA 0, 720, .inl sa)), (mk, .inl (cA 0, 18720, .inl kd)), (mv, .inl (cA 0, 18720, .inl vl)), (mt, .inl (cA 0, 300, .inl (tx_A tn))), (m1, .inl (cA 0, 2, .inl (tx_A pa))), (m2, .inl (cA 0, 2, .inl (tx_A ps))), (m3, .inl (cA 0, 2, .inl tk)), (m4, .inl (cA 0, 2, .inl tv))] _ := hP.sub [0, 1, 2, 3, 4, 5, 6, 7, 8] rfl
        have hD9 : va_D A [(mo, .inr (8, [.int th, .ref ms, .ref mk, .ref mv, .int (nI mm), .int (nI ml), .int (nI cnt), .ref mt, .int mp, .int mn, .int (nI mu), .ref ma, .int (nI at_), .int (nI b), .int (nI 77), .int ob, .ref m1, .ref m2, .ref m3, .ref m4, .int (nI rn), .int (nI pw), .ref mc])), (ms, .inl (cA 0, 720, .inl sa)), (mk, .inl (cA 0, 18720, .inl kd)), (mv, .inl (cA 0, 18720, .inl vl)), (mt, .inl (cA 0, 300, .inl (tx_A tn))), (m1, .inl (cA 0, 2, .inl (tx_A pa))), (m2, .inl (cA 0, 2, .inl (tx_A ps))), (m3, .inl (cA 0, 2, .inl tk)), (m4, .inl (cA 0, 2, .inl tv))] := hD.sub [0, 1, 2, 3, 4, 5, 6, 7, 8] (by decide) rfl
        exact W.iret (v := nI 4) hx hb hr (fun T9 ht hW => ⟨⟨_, (pw, kd, vl), rfl, dh_n (k := 4) (by rw [ex_l, if_pos (wn_p (by decide) rn_0 rn_0), if_neg (by decide), if_neg (by decide), if_neg (by decide), if_neg (by decide), if_neg (by decide), if_pos rfl, ex_M, q_o]) (by decide) hR, by rw [ht]; exact hP9, hD9⟩, hS.F ht⟩) hS.2.2 xd_Mo_doPath_54
    · have l_0 := h0.2.2 (ps 0 - 1) (by omega)
      have k_0 : pk_t tn (pa 0) (ps 0 - 1) < 26 := by unfold pk_t; omega
      have n_0 : n0 < 40 := fo_F_l hO (fun j hj => by have := h0.2.2 j (by omega); unfold pk_t; omega) q_o
      obtain ⟨p0, hp0⟩ : ∃ z, z = n0 * 26 + pk_t tn (pa 0) (ps 0 - 1) := ⟨_, rfl⟩
      refine lx_top (z := nI p0) (by rw [q_o]; exact congrArg nI (by omega)) ?_
      refine lv_istore_n (lv' := [(2, .int (nI p0)), (0, .ref mo), (1, .int fo)]) hx hb xd_Mo_doPath_23 rfl hl (by decide) rfl (fun ls hl => ?_)
      refine lv_aload_n hx hb xd_Mo_doPath_24 rfl (lv_at hl 1 rfl) ?_
      refine va_get (D := G) (ci := 8) (v := .int (nI 77)) (C := xc_Mo) (T := xf_Mo) (N := 23) hx hb hts xw_Mo hown hK.1 hP 0 rfl rfl 14 (by decide) (hts _ xm_633) (fun _ h9 => h9) rfl xd_Mo_doPath_25 ?_
      refine lv_bipush (v := nI 77) hx hb xd_Mo_doPath_28 (by decide) ?_
      refine lv_icmp_ne (tgt := 41) hx hb xd_Mo_doPath_30 (by decide) (fun c_30_64 => absurd (by decide) c_30_64) (fun c_30_64 => ?_)
      refine lv_aload_n hx hb xd_Mo_doPath_33 rfl (lv_at hl 1 rfl) ?_
      refine lv_iconst (v := nI 1) hx hb xd_Mo_doPath_34 (by decide) ?_
      have hPc := hP.sub (ws' := [(mo, .inr (8, [.int th, .ref ms, .ref mk, .ref mv, .int (nI mm), .int (nI ml), .int (nI cnt), .ref mt, .int mp, .int mn, .int (nI mu), .ref ma, .int (nI at_), .int (nI b), .int (nI 77), .int ob, .ref m1, .ref m2, .ref m3, .ref m4, .int (nI rn), .int (nI pw), .ref mc])), (ms, .inl (cA 0, 720, .inl sa)), (mk, .inl (cA 0, 18720, .inl kd)), (mv, .inl (cA 0, 18720, .inl vl)), (mt, .inl (cA 0, 300, .inl (tx_A tn))), (m1, .inl (cA 0, 2, .inl (tx_A pa))), (m2, .inl (cA 0, 2, .inl (tx_A ps)))]) [0, 1, 2, 3, 4, 5, 6] rfl
      refine vp_callSi (va_Run.run (va_runV (As := [.int (nI 1)]) (rest := []) ⟨hx, hb, hml, hown, hts⟩ (ct_Mo_follow l G cA mo th ms mk mv mm ml cnt mt mp mn mu ma at_ (nI 77) ob m1 m2 m3 m4 rn pw mc b tn hc (by omega) hv (by omega) sa kd vl st ce pa ps 1 (by omega) hR hO ((h1 rfl).1) ((h1 rfl).2.1) ((h1 rfl).2.2)) (cwV 1 hts (gi_v xm_755 xm_757 xs_Mo_follow xm_9 xm_758) rfl rfl rfl ⟨rfl, xh_Mo_follow⟩ ⟨Nat.le_of_ble_eq_true rfl, Nat.le_of_ble_eq_true rfl⟩) (pv_r hK hPc (ci := 8) (q0 := 0) rfl rfl) rfl rfl hl.1 rfl (lv_room (Nat.le_of_ble_eq_true rfl)) xd_Mo_doPath_35 ⟨Nat.le_of_ble_eq_true rfl, Nat.le_of_ble_eq_true rfl⟩)) (fun r_66 q_67 => ?_)
      refine lx_top (z := fq_R (fo_F st ce (pk_t tn (pa 1)) (ps 1 - 1)) (pk_t tn (pa 1) (ps 1 - 1))) (q_67) ?_
      rcases op_c (fo_F st ce (pk_t tn (pa 1)) (ps 1 - 1)) with q_o2 | ⟨n1, q_o2⟩
      · refine lx_top (z := (-1)) (by rw [q_o2]; rfl) ?_
        refine lv_goto (tgt := 42) hx hb xd_Mo_doPath_38 (by decide) ?_
        refine lv_istore_n (lv' := [(3, .int (-1)), (2, .int (nI p0)), (0, .ref mo), (1, .int fo)]) hx hb xd_Mo_doPath_42 rfl hl (by decide) rfl (fun ls hl => ?_)
        refine lv_iload_n hx hb xd_Mo_doPath_43 rfl (lv_at hl 1 rfl) ?_
        refine lv_iconst (v := (-1)) hx hb xd_Mo_doPath_44 (by decide) ?_
        refine lv_icmp_eq (tgt := 53) hx hb xd_Mo_doPath_45 (by decide) (fun c_45_67 => absurd c_45_67 (nI_nm (by omega))) (fun c_45_67 => ?_)
        refine lv_iload_n hx hb xd_Mo_doPath_48 rfl (lv_at hl 0 rfl) ?_
        refine lv_iconst (v := (-1)) hx hb xd_Mo_doPath_49 (by decide) ?_
        refine lv_icmp_ne (tgt := 55) hx hb xd_Mo_doPath_50 (by decide) (fun c_50_68 => absurd (by decide) c_50_68) (fun c_50_68 => ?_)
        refine lv_iconst (v := nI 4) hx hb xd_Mo_doPath_53 (by decide) ?_
        have hP9 : va_P G xk_cl [(mo, .inr (8, [.int th, .ref ms, .ref mk, .ref mv, .int (nI mm), .int (nI ml), .int (nI cnt), .ref mt, .int mp, .int mn, .int (nI mu), .ref ma, .int (nI at_), .int (nI b), .int (nI 77), .int ob, .ref m1, .ref m2, .ref m3, .ref m4, .int (nI rn), .int (nI pw), .ref mc])), (ms, .inl (cA 0, 720, .inl sa)), (mk, .inl (cA 0, 18720, .inl kd)), (mv, .inl (cA 0, 18720, .inl vl)), (mt, .inl (cA 0, 300, .inl (tx_A tn))), (m1, .inl (cA 0, 2, .inl (tx_A pa))), (m2, .inl (cA 0, 2, .inl (tx_A ps))), (m3, .inl (cA 0, 2, .inl tk)), (m4, .inl (cA 0, 2, .inl tv))] _ := hP.sub [0, 1, 2, 3, 4, 5, 6, 7, 8] rfl
        have hD9 : va_D A [(mo, .inr (8, [.int th, .ref ms, .ref mk, .ref mv, .int (nI mm), .int (nI ml), .int (nI cnt), .ref mt, .int mp, .int mn, .int (nI mu), .ref ma, .int (nI at_), .int (nI b), .int (nI 77), .int ob, .ref m1, .ref m2, .ref m3, .ref m4, .int (nI rn), .int (nI pw), .ref mc])), (ms, .inl (cA 0, 720, .inl sa)), (mk, .inl (cA 0, 18720, .inl kd)), (mv, .inl (cA 0, 18720, .inl vl)), (mt, .inl (cA 0, 300, .inl (tx_A tn))), (m1, .inl (cA 0, 2, .inl (tx_A pa))), (m2, .inl (cA 0, 2, .inl (tx_A ps))), (m3, .inl (cA 0, 2, .inl tk)), (m4, .inl (cA 0, 2, .inl tv))] := hD.sub [0, 1, 2, 3, 4, 5, 6, 7, 8] (by decide) rfl
        exact W.iret (v := nI 4) hx hb hr (fun T9 ht hW => ⟨⟨_, (pw, kd, vl), rfl, dh_n (k := 4) (by rw [ex_l, if_pos (wn_p (by decide) rn_0 rn_0), if_neg (by decide), if_neg (by decide), if_neg (by decide), if_neg (by decide), if_neg (by decide), if_pos rfl, ex_M, q_o]; dsimp only; rw [q_o2]) (by decide) hR, by rw [ht]; exact hP9, hD9⟩, hS.F ht⟩) hS.2.2 xd_Mo_doPath_54
      · have l_1 := (h1 rfl).2.2 (ps 1 - 1) (by have := (h1 rfl).1; omega)
        have k_1 : pk_t tn (pa 1) (ps 1 - 1) < 26 := by unfold pk_t; omega
        have n_1 : n1 < 40 := fo_F_l hO (fun j hj => by have := (h1 rfl).2.2 j (by omega); unfold pk_t; omega) q_o2
        obtain ⟨p1, hp1⟩ : ∃ z, z = n1 * 26 + pk_t tn (pa 1) (ps 1 - 1) := ⟨_, rfl⟩
        refine lx_top (z := nI p1) (by rw [q_o2]; exact congrArg nI (by omega)) ?_
        refine lv_goto (tgt := 42) hx hb xd_Mo_doPath_38 (by decide) ?_
        refine lv_istore_n (lv' := [(3, .int (nI p1)), (2, .int (nI p0)), (0, .ref mo), (1, .int fo)]) hx hb xd_Mo_doPath_42 rfl hl (by decide) rfl (fun ls hl => ?_)
        refine lv_iload_n hx hb xd_Mo_doPath_43 rfl (lv_at hl 1 rfl) ?_
        refine lv_iconst (v := (-1)) hx hb xd_Mo_doPath_44 (by decide) ?_
        refine lv_icmp_eq (tgt := 53) hx hb xd_Mo_doPath_45 (by decide) (fun c_45_69 => absurd c_45_69 (nI_nm (by omega))) (fun c_45_69 => ?_)
        refine lv_iload_n hx hb xd_Mo_doPath_48 rfl (lv_at hl 0 rfl) ?_
        refine lv_iconst (v := (-1)) hx hb xd_Mo_doPath_49 (by decide) ?_
        refine lv_icmp_ne (tgt := 55) hx hb xd_Mo_doPath_50 (by decide) (fun c_50_70 => ?_) (fun c_50_70 => absurd c_50_70 (nI_nm (by omega)))
        refine lv_aload_n hx hb xd_Mo_doPath_55 rfl (lv_at hl 2 rfl) ?_
        refine va_get (D := G) (ci := 8) (v := .int (nI 77)) (C := xc_Mo) (T := xf_Mo) (N := 23) hx hb hts xw_Mo hown hK.1 hP 0 rfl rfl 14 (by decide) (hts _ xm_633) (fun _ h9 => h9) rfl xd_Mo_doPath_56 ?_
        refine lv_bipush (v := nI 83) hx hb xd_Mo_doPath_59 (by decide) ?_
        refine lv_icmp_eq (tgt := 75) hx hb xd_Mo_doPath_61 (by decide) (fun c_61_71 => absurd c_61_71 (by decide)) (fun c_61_71 => ?_)
        refine lv_aload_n hx hb xd_Mo_doPath_64 rfl (lv_at hl 2 rfl) ?_
        refine va_get (D := G) (ci := 8) (v := .ref mk) (C := xc_Mo) (T := xf_Mo) (N := 23) hx hb hts xw_Mo hown hK.1 hP 0 rfl rfl 2 (by decide) (hts _ xm_621) (fun _ h9 => h9) rfl xd_Mo_doPath_65 ?_
        refine lv_iload_n hx hb xd_Mo_doPath_68 rfl (lv_at hl 1 rfl) ?_
        refine wx_iald hx hb hK.1 hP 2 0 rfl rfl (k := p0) (by omega) (by decide) xd_Mo_doPath_69 ?_
        refine lx_top (z := en_K (ce p0)) ((hR.2 _ (by omega)).1) ?_
        refine lv_if_ne (tgt := 75) hx hb xd_Mo_doPath_70 (by decide) (fun c_70_72 => ?_) (fun c_70_72 => ?_)
        · have q_k : ¬ ce p0 = 0 := fun z => c_70_72 (by rw [z]; decide)
          refine lv_aload_n hx hb xd_Mo_doPath_75 rfl (lv_at hl 2 rfl) ?_
          refine va_get (D := G) (ci := 8) (v := .int (nI 77)) (C := xc_Mo) (T := xf_Mo) (N := 23) hx hb hts xw_Mo hown hK.1 hP 0 rfl rfl 14 (by decide) (hts _ xm_633) (fun _ h9 => h9) rfl xd_Mo_doPath_76 ?_
          refine lv_bipush (v := nI 67) hx hb xd_Mo_doPath_79 (by decide) ?_
          refine lv_icmp_ne (tgt := 126) hx hb xd_Mo_doPath_81 (by decide) (fun c_81_73 => ?_) (fun c_81_73 => absurd c_81_73 (by decide))
          refine lv_aload_n hx hb xd_Mo_doPath_126 rfl (lv_at hl 2 rfl) ?_
          refine lv_iload_n hx hb xd_Mo_doPath_127 rfl (lv_at hl 1 rfl) ?_
          refine lv_bipush (v := nI 26) hx hb xd_Mo_doPath_128 (by decide) ?_
          refine lx_idiv (z := nI n0) hx hb xd_Mo_doPath_130 (by decide) (by rw [pk_div (by omega) (by omega) (by omega)]; exact congrArg nI (by omega)) ?_
          refine lv_iload_n hx hb xd_Mo_doPath_131 rfl (lv_at hl 3 rfl) ?_
          have hPc := hP.sub (ws' := [(mo, .inr (8, [.int th, .ref ms, .ref mk, .ref mv, .int (nI mm), .int (nI ml), .int (nI cnt), .ref mt, .int mp, .int mn, .int (nI mu), .ref ma, .int (nI at_), .int (nI b), .int (nI 77), .int ob, .ref m1, .ref m2, .ref m3, .ref m4, .int (nI rn), .int (nI pw), .ref mc])), (ms, .inl (cA 0, 720, .inl sa))]) [0, 1] rfl
          refine vp_callSi (va_Run.run (va_runV (As := [.int (nI n0), .int fo]) (rest := []) ⟨hx, hb, hml, hown, hts⟩ (ct_Mo_isShut l G cA mo th ms mk mv mm ml cnt mt mp mn mu ma at_ (nI b) (nI 77) ob m1 m2 m3 m4 rn pw mc sa n0 fo n_0) (cwV 2 hts (gi_v xm_739 xm_741 xs_Mo_isShut xm_9 xm_742) rfl rfl rfl ⟨rfl, xh_Mo_isShut⟩ ⟨Nat.le_of_ble_eq_true rfl, Nat.le_of_ble_eq_true rfl⟩) (pv_r hK hPc (ci := 8) (q0 := 0) rfl rfl) rfl rfl hl.1 rfl (lv_room (Nat.le_of_ble_eq_true rfl)) xd_Mo_doPath_132 ⟨Nat.le_of_ble_eq_true rfl, Nat.le_of_ble_eq_true rfl⟩)) (fun r_75 q_76 => ?_)
          refine lx_top (z := cl_D fo (sa n0)) (q_76) ?_
          refine lx_top (z := cl_D fo (st n0)) (by rw [hR.1 n0 n_0]) ?_
          refine lv_if_ne (tgt := 150) hx hb xd_Mo_doPath_135 (by decide) (fun c_135_76 => ?_) (fun c_135_76 => ?_)
          · have q_s0 : cl_P fo (st n0) := Classical.byContradiction fun z => c_135_76 (cl_D_z.mpr z)
            refine lv_bipush (v := nI 6) hx hb xd_Mo_doPath_150 (by decide) ?_
            have hP9 : va_P G xk_cl [(mo, .inr (8, [.int th, .ref ms, .ref mk, .ref mv, .int (nI mm), .int (nI ml), .int (nI cnt), .ref mt, .int mp, .int mn, .int (nI mu), .ref ma, .int (nI at_), .int (nI b), .int (nI 77), .int ob, .ref m1, .ref m2, .ref m3, .ref m4, .int (nI rn), .int (nI pw), .ref mc])), (ms, .inl (cA 0, 720, .inl sa)), (mk, .inl (cA 0, 18720, .inl kd)), (mv, .inl (cA 0, 18720, .inl vl)), (mt, .inl (cA 0, 300, .inl (tx_A tn))), (m1, .inl (cA 0, 2, .inl (tx_A pa))), (m2, .inl (cA 0, 2, .inl (tx_A ps))), (m3, .inl (cA 0, 2, .inl tk)), (m4, .inl (cA 0, 2, .inl tv))] _ := hP.sub [0, 1, 2, 3, 4, 5, 6, 7, 8] rfl
            have hD9 : va_D A [(mo, .inr (8, [.int th, .ref ms, .ref mk, .ref mv, .int (nI mm), .int (nI ml), .int (nI cnt), .ref mt, .int mp, .int mn, .int (nI mu), .ref ma, .int (nI at_), .int (nI b), .int (nI 77), .int ob, .ref m1, .ref m2, .ref m3, .ref m4, .int (nI rn), .int (nI pw), .ref mc])), (ms, .inl (cA 0, 720, .inl sa)), (mk, .inl (cA 0, 18720, .inl kd)), (mv, .inl (cA 0, 18720, .inl vl)), (mt, .inl (cA 0, 300, .inl (tx_A tn))), (m1, .inl (cA 0, 2, .inl (tx_A pa))), (m2, .inl (cA 0, 2, .inl (tx_A ps))), (m3, .inl (cA 0, 2, .inl tk)), (m4, .inl (cA 0, 2, .inl tv))] := hD.sub [0, 1, 2, 3, 4, 5, 6, 7, 8] (by decide) rfl
            exact W.iret (v := nI 6) hx hb hr (fun T9 ht hW => ⟨⟨_, (pw, kd, vl), rfl, dh_n (k := 6) (by rw [ex_l, if_pos (wn_p (by decide) rn_0 rn_0), if_neg (by decide), if_neg (by decide), if_neg (by decide), if_neg (by decide), if_neg (by decide), if_pos rfl, ex_M, q_o]; dsimp only; rw [q_o2]; dsimp only; rw [← hp0, ← hp1, if_neg q_k, if_pos q_s0]) (by decide) hR, by rw [ht]; exact hP9, hD9⟩, hS.F ht⟩) hS.2.2 xd_Mo_doPath_152
          · have q_s0 := cl_D_z.mp c_135_76
            refine lv_aload_n hx hb xd_Mo_doPath_138 rfl (lv_at hl 2 rfl) ?_
            refine lv_iload_n hx hb xd_Mo_doPath_139 rfl (lv_at hl 0 rfl) ?_
            refine lv_bipush (v := nI 26) hx hb xd_Mo_doPath_140 (by decide) ?_
            refine lx_idiv (z := nI n1) hx hb xd_Mo_doPath_142 (by decide) (by rw [pk_div (by omega) (by omega) (by omega)]; exact congrArg nI (by omega)) ?_
            refine lv_iload_n hx hb xd_Mo_doPath_143 rfl (lv_at hl 3 rfl) ?_
            have hPc := hP.sub (ws' := [(mo, .inr (8, [.int th, .ref ms, .ref mk, .ref mv, .int (nI mm), .int (nI ml), .int (nI cnt), .ref mt, .int mp, .int mn, .int (nI mu), .ref ma, .int (nI at_), .int (nI b), .int (nI 77), .int ob, .ref m1, .ref m2, .ref m3, .ref m4, .int (nI rn), .int (nI pw), .ref mc])), (ms, .inl (cA 0, 720, .inl sa))]) [0, 1] rfl
            refine vp_callSi (va_Run.run (va_runV (As := [.int (nI n1), .int fo]) (rest := []) ⟨hx, hb, hml, hown, hts⟩ (ct_Mo_isShut l G cA mo th ms mk mv mm ml cnt mt mp mn mu ma at_ (nI b) (nI 77) ob m1 m2 m3 m4 rn pw mc sa n1 fo n_1) (cwV 2 hts (gi_v xm_739 xm_741 xs_Mo_isShut xm_9 xm_742) rfl rfl rfl ⟨rfl, xh_Mo_isShut⟩ ⟨Nat.le_of_ble_eq_true rfl, Nat.le_of_ble_eq_true rfl⟩) (pv_r hK hPc (ci := 8) (q0 := 0) rfl rfl) rfl rfl hl.1 rfl (lv_room (Nat.le_of_ble_eq_true rfl)) xd_Mo_doPath_144 ⟨Nat.le_of_ble_eq_true rfl, Nat.le_of_ble_eq_true rfl⟩)) (fun r_78 q_79 => ?_)
            refine lx_top (z := cl_D fo (sa n1)) (q_79) ?_
            refine lx_top (z := cl_D fo (st n1)) (by rw [hR.1 n1 n_1]) ?_
            refine lv_if_eq (tgt := 153) hx hb xd_Mo_doPath_147 (by decide) (fun c_147_79 => ?_) (fun c_147_79 => ?_)
            · have q_s1 := cl_D_z.mp c_147_79
              refine lv_aload_n hx hb xd_Mo_doPath_153 rfl (lv_at hl 2 rfl) ?_
              refine va_get (D := G) (ci := 8) (v := .int (nI 77)) (C := xc_Mo) (T := xf_Mo) (N := 23) hx hb hts xw_Mo hown hK.1 hP 0 rfl rfl 14 (by decide) (hts _ xm_633) (fun _ h9 => h9) rfl xd_Mo_doPath_154 ?_
              refine lv_bipush (v := nI 83) hx hb xd_Mo_doPath_157 (by decide) ?_
              refine lv_icmp_ne (tgt := 182) hx hb xd_Mo_doPath_159 (by decide) (fun c_159_80 => ?_) (fun c_159_80 => absurd c_159_80 (by decide))
              refine lv_aload_n hx hb xd_Mo_doPath_182 rfl (lv_at hl 2 rfl) ?_
              refine va_get (D := G) (ci := 8) (v := .int (nI 77)) (C := xc_Mo) (T := xf_Mo) (N := 23) hx hb hts xw_Mo hown hK.1 hP 0 rfl rfl 14 (by decide) (hts _ xm_633) (fun _ h9 => h9) rfl xd_Mo_doPath_183 ?_
              refine lv_bipush (v := nI 67) hx hb xd_Mo_doPath_186 (by decide) ?_
              refine lv_icmp_ne (tgt := 211) hx hb xd_Mo_doPath_188 (by decide) (fun c_188_81 => ?_) (fun c_188_81 => absurd c_188_81 (by decide))
              refine lv_aload_n hx hb xd_Mo_doPath_211 rfl (lv_at hl 2 rfl) ?_
              refine va_get (D := G) (ci := 8) (v := .ref mk) (C := xc_Mo) (T := xf_Mo) (N := 23) hx hb hts xw_Mo hown hK.1 hP 0 rfl rfl 2 (by decide) (hts _ xm_621) (fun _ h9 => h9) rfl xd_Mo_doPath_212 ?_
              refine lv_iload_n hx hb xd_Mo_doPath_215 rfl (lv_at hl 1 rfl) ?_
              refine wx_iald hx hb hK.1 hP 2 0 rfl rfl (k := p0) (by omega) (by decide) xd_Mo_doPath_216 ?_
              refine lv_istore (lv' := [(4, .int (kd p0)), (3, .int (nI p1)), (2, .int (nI p0)), (0, .ref mo), (1, .int fo)]) hx hb xd_Mo_doPath_217 hl (by decide) rfl (fun ls hl => ?_)
              refine lv_aload_n hx hb xd_Mo_doPath_219 rfl (lv_at hl 3 rfl) ?_
              refine va_get (D := G) (ci := 8) (v := .ref mv) (C := xc_Mo) (T := xf_Mo) (N := 23) hx hb hts xw_Mo hown hK.1 hP 0 rfl rfl 3 (by decide) (hts _ xm_622) (fun _ h9 => h9) rfl xd_Mo_doPath_220 ?_
              refine lv_iload_n hx hb xd_Mo_doPath_223 rfl (lv_at hl 2 rfl) ?_
              refine wx_iald hx hb hK.1 hP 3 0 rfl rfl (k := p0) (by omega) (by decide) xd_Mo_doPath_224 ?_
              refine lv_istore (lv' := [(5, .int (vl p0)), (4, .int (kd p0)), (3, .int (nI p1)), (2, .int (nI p0)), (0, .ref mo), (1, .int fo)]) hx hb xd_Mo_doPath_225 hl (by decide) rfl (fun ls hl => ?_)
              refine lv_aload_n hx hb xd_Mo_doPath_227 rfl (lv_at hl 4 rfl) ?_
              refine lv_iload_n hx hb xd_Mo_doPath_228 rfl (lv_at hl 3 rfl) ?_
              refine lv_iconst (v := nI 0) hx hb xd_Mo_doPath_229 (by decide) ?_
              refine lv_iconst (v := nI 0) hx hb xd_Mo_doPath_230 (by decide) ?_
              have hPc := hP.sub (ws' := [(mo, .inr (8, [.int th, .ref ms, .ref mk, .ref mv, .int (nI mm), .int (nI ml), .int (nI cnt), .ref mt, .int mp, .int mn, .int (nI mu), .ref ma, .int (nI at_), .int (nI b), .int (nI 77), .int ob, .ref m1, .ref m2, .ref m3, .ref m4, .int (nI rn), .int (nI pw), .ref mc])), (mk, .inl (cA 0, 18720, .inl kd)), (mv, .inl (cA 0, 18720, .inl vl))]) [0, 2, 3] rfl
              have hDc := hD.sub (ws' := [(mo, .inr (8, [.int th, .ref ms, .ref mk, .ref mv, .int (nI mm), .int (nI ml), .int (nI cnt), .ref mt, .int mp, .int mn, .int (nI mu), .ref ma, .int (nI at_), .int (nI b), .int (nI 77), .int ob, .ref m1, .ref m2, .ref m3, .ref m4, .int (nI rn), .int (nI pw), .ref mc])), (mk, .inl (cA 0, 18720, .inl kd)), (mv, .inl (cA 0, 18720, .inl vl))]) [0, 2, 3] (by decide) rfl
              have hFc := va_free (wc := [(mo, .inr (8, [.int th, .ref ms, .ref mk, .ref mv, .int (nI mm), .int (nI ml), .int (nI cnt), .ref mt, .int mp, .int mn, .int (nI mu), .ref ma, .int (nI at_), .int (nI b), .int (nI 77), .int ob, .ref m1, .ref m2, .ref m3, .ref m4, .int (nI rn), .int (nI pw), .ref mc])), (mk, .inl (cA 0, 18720, .inl kd)), (mv, .inl (cA 0, 18720, .inl vl))]) hD hS hA [0, 2, 3] rfl
              refine va_callv (va_runV (As := [.int (nI p0), .int (nI 0), .int (nI 0)]) (rest := []) ⟨hx, hb, hml, hown, hts⟩ (ct_Mo_put l G cA s.heap.size mo th ms mk mv mm ml cnt mt mp mn mu ma at_ (nI b) (nI 77) ob m1 m2 m3 m4 rn pw mc kd vl p0 (nI 0) (nI 0) (by omega)) (cwV 3 hts (gi_v xm_759 xm_761 xs_Mo_put xm_9 xm_762) rfl rfl rfl ⟨rfl, xh_Mo_put⟩ ⟨Nat.le_of_ble_eq_true rfl, Nat.le_of_ble_eq_true rfl⟩) (pv_w hK hPc hDc (ci := 8) (q0 := 0) rfl rfl) rfl rfl hl.1 rfl (lv_room (Nat.le_of_ble_eq_true rfl)) xd_Mo_doPath_231 ⟨Nat.le_of_ble_eq_true rfl, Nat.le_of_ble_eq_true rfl⟩) hS (fun q _ h => hFc q h) hFc (fun u9 t9 H1 locs ht hvm q_84 hB hz1 hk1 hS => ?_)
              obtain ⟨hP1, hD1⟩ := hB
              rw [ht] at hP1
              obtain ⟨hP, hD⟩ := va_join (wr := [(ms, .inl (cA 0, 720, .inl sa)), (mt, .inl (cA 0, 300, .inl (tx_A tn))), (m1, .inl (cA 0, 2, .inl (tx_A pa))), (m2, .inl (cA 0, 2, .inl (tx_A ps))), (m3, .inl (cA 0, 2, .inl tk)), (m4, .inl (cA 0, 2, .inl tv))]) (w1 := [(mo, .inr (8, [.int th, .ref ms, .ref mk, .ref mv, .int (nI mm), .int (nI ml), .int (nI cnt), .ref mt, .int mp, .int mn, .int (nI mu), .ref ma, .int (nI at_), .int (nI b), .int (nI 77), .int ob, .ref m1, .ref m2, .ref m3, .ref m4, .int (nI rn), .int (nI pw), .ref mc])), (mk, .inl (cA 0, 18720, .inl (upd kd p0 (nI 0)))), (mv, .inl (cA 0, 18720, .inl (upd vl p0 (nI 0))))]) hP hD [0, 2, 3] [1, 4, 5, 6, 7, 8] rfl rfl (by decide) (by decide) hk1 hFc hP1 hD1
              generalize H1 = H at hP hS ⊢
              have hP : va_P G xk_cl [(ms, .inl (cA 0, 720, .inl sa)), (mt, .inl (cA 0, 300, .inl (tx_A tn))), (m1, .inl (cA 0, 2, .inl (tx_A pa))), (m2, .inl (cA 0, 2, .inl (tx_A ps))), (m3, .inl (cA 0, 2, .inl tk)), (m4, .inl (cA 0, 2, .inl tv)), (mo, .inr (8, [.int th, .ref ms, .ref mk, .ref mv, .int (nI mm), .int (nI ml), .int (nI cnt), .ref mt, .int mp, .int mn, .int (nI mu), .ref ma, .int (nI at_), .int (nI b), .int (nI 77), .int ob, .ref m1, .ref m2, .ref m3, .ref m4, .int (nI rn), .int (nI pw), .ref mc])), (mk, .inl (cA 0, 18720, .inl (upd kd p0 (nI 0)))), (mv, .inl (cA 0, 18720, .inl (upd vl p0 (nI 0))))] H := hP
              have hD : va_D A [(ms, .inl (cA 0, 720, .inl sa)), (mt, .inl (cA 0, 300, .inl (tx_A tn))), (m1, .inl (cA 0, 2, .inl (tx_A pa))), (m2, .inl (cA 0, 2, .inl (tx_A ps))), (m3, .inl (cA 0, 2, .inl tk)), (m4, .inl (cA 0, 2, .inl tv)), (mo, .inr (8, [.int th, .ref ms, .ref mk, .ref mv, .int (nI mm), .int (nI ml), .int (nI cnt), .ref mt, .int mp, .int mn, .int (nI mu), .ref ma, .int (nI at_), .int (nI b), .int (nI 77), .int ob, .ref m1, .ref m2, .ref m3, .ref m4, .int (nI rn), .int (nI pw), .ref mc])), (mk, .inl (cA 0, 18720, .inl (upd kd p0 (nI 0)))), (mv, .inl (cA 0, 18720, .inl (upd vl p0 (nI 0))))] := hD
              refine lv_aload_n hx hb xd_Mo_doPath_234 rfl (lv_at hl 4 rfl) ?_
              refine va_get (D := G) (ci := 8) (v := .int (nI 77)) (C := xc_Mo) (T := xf_Mo) (N := 23) hx hb hts xw_Mo hown hK.1 hP 6 rfl rfl 14 (by decide) (hts _ xm_633) (fun _ h9 => h9) rfl xd_Mo_doPath_235 ?_
              refine lv_bipush (v := nI 77) hx hb xd_Mo_doPath_238 (by decide) ?_
              refine lv_icmp_ne (tgt := 252) hx hb xd_Mo_doPath_240 (by decide) (fun c_240_84 => absurd (by decide) c_240_84) (fun c_240_84 => ?_)
              refine lv_aload_n hx hb xd_Mo_doPath_243 rfl (lv_at hl 4 rfl) ?_
              refine lv_iload_n hx hb xd_Mo_doPath_244 rfl (lv_at hl 2 rfl) ?_
              refine lv_iload hx hb xd_Mo_doPath_245 (lv_at hl 1 rfl) ?_
              refine lv_iload hx hb xd_Mo_doPath_247 (lv_at hl 0 rfl) ?_
              have hPc := hP.sub (ws' := [(mo, .inr (8, [.int th, .ref ms, .ref mk, .ref mv, .int (nI mm), .int (nI ml), .int (nI cnt), .ref mt, .int mp, .int mn, .int (nI mu), .ref ma, .int (nI at_), .int (nI b), .int (nI 77), .int ob, .ref m1, .ref m2, .ref m3, .ref m4, .int (nI rn), .int (nI pw), .ref mc])), (mk, .inl (cA 0, 18720, .inl (upd kd p0 (nI 0)))), (mv, .inl (cA 0, 18720, .inl (upd vl p0 (nI 0))))]) [6, 7, 8] rfl
              have hDc := hD.sub (ws' := [(mo, .inr (8, [.int th, .ref ms, .ref mk, .ref mv, .int (nI mm), .int (nI ml), .int (nI cnt), .ref mt, .int mp, .int mn, .int (nI mu), .ref ma, .int (nI at_), .int (nI b), .int (nI 77), .int ob, .ref m1, .ref m2, .ref m3, .ref m4, .int (nI rn), .int (nI pw), .ref mc])), (mk, .inl (cA 0, 18720, .inl (upd kd p0 (nI 0)))), (mv, .inl (cA 0, 18720, .inl (upd vl p0 (nI 0))))]) [6, 7, 8] (by decide) rfl
              have hFc := va_free (wc := [(mo, .inr (8, [.int th, .ref ms, .ref mk, .ref mv, .int (nI mm), .int (nI ml), .int (nI cnt), .ref mt, .int mp, .int mn, .int (nI mu), .ref ma, .int (nI at_), .int (nI b), .int (nI 77), .int ob, .ref m1, .ref m2, .ref m3, .ref m4, .int (nI rn), .int (nI pw), .ref mc])), (mk, .inl (cA 0, 18720, .inl (upd kd p0 (nI 0)))), (mv, .inl (cA 0, 18720, .inl (upd vl p0 (nI 0))))]) hD hS hA [6, 7, 8] rfl
              refine va_callv (va_runV (As := [.int (nI p1), .int (kd p0), .int (vl p0)]) (rest := []) ⟨hx, hb, hml, hown, hts⟩ (ct_Mo_put l G cA H.size mo th ms mk mv mm ml cnt mt mp mn mu ma at_ (nI b) (nI 77) ob m1 m2 m3 m4 rn pw mc (upd kd p0 (nI 0)) (upd vl p0 (nI 0)) p1 (kd p0) (vl p0) (by omega)) (cwV 3 hts (gi_v xm_759 xm_761 xs_Mo_put xm_9 xm_762) rfl rfl rfl ⟨rfl, xh_Mo_put⟩ ⟨Nat.le_of_ble_eq_true rfl, Nat.le_of_ble_eq_true rfl⟩) (pv_w hK hPc hDc (ci := 8) (q0 := 0) rfl rfl) rfl rfl hl.1 rfl (lv_room (Nat.le_of_ble_eq_true rfl)) xd_Mo_doPath_249 ⟨Nat.le_of_ble_eq_true rfl, Nat.le_of_ble_eq_true rfl⟩) hS (fun q _ h => hFc q h) hFc (fun u9 t9 H1 locs ht hvm q_87 hB hz1 hk1 hS => ?_)
              obtain ⟨hP1, hD1⟩ := hB
              rw [ht] at hP1
              obtain ⟨hP, hD⟩ := va_join (wr := [(ms, .inl (cA 0, 720, .inl sa)), (mt, .inl (cA 0, 300, .inl (tx_A tn))), (m1, .inl (cA 0, 2, .inl (tx_A pa))), (m2, .inl (cA 0, 2, .inl (tx_A ps))), (m3, .inl (cA 0, 2, .inl tk)), (m4, .inl (cA 0, 2, .inl tv))]) (w1 := [(mo, .inr (8, [.int th, .ref ms, .ref mk, .ref mv, .int (nI mm), .int (nI ml), .int (nI cnt), .ref mt, .int mp, .int mn, .int (nI mu), .ref ma, .int (nI at_), .int (nI b), .int (nI 77), .int ob, .ref m1, .ref m2, .ref m3, .ref m4, .int (nI rn), .int (nI pw), .ref mc])), (mk, .inl (cA 0, 18720, .inl (upd (upd kd p0 (nI 0)) p1 (kd p0)))), (mv, .inl (cA 0, 18720, .inl (upd (upd vl p0 (nI 0)) p1 (vl p0))))]) hP hD [6, 7, 8] [0, 1, 2, 3, 4, 5] rfl rfl (by decide) (by decide) hk1 hFc hP1 hD1
              generalize H1 = H at hP hS ⊢
              have hP : va_P G xk_cl [(ms, .inl (cA 0, 720, .inl sa)), (mt, .inl (cA 0, 300, .inl (tx_A tn))), (m1, .inl (cA 0, 2, .inl (tx_A pa))), (m2, .inl (cA 0, 2, .inl (tx_A ps))), (m3, .inl (cA 0, 2, .inl tk)), (m4, .inl (cA 0, 2, .inl tv)), (mo, .inr (8, [.int th, .ref ms, .ref mk, .ref mv, .int (nI mm), .int (nI ml), .int (nI cnt), .ref mt, .int mp, .int mn, .int (nI mu), .ref ma, .int (nI at_), .int (nI b), .int (nI 77), .int ob, .ref m1, .ref m2, .ref m3, .ref m4, .int (nI rn), .int (nI pw), .ref mc])), (mk, .inl (cA 0, 18720, .inl (upd (upd kd p0 (nI 0)) p1 (kd p0)))), (mv, .inl (cA 0, 18720, .inl (upd (upd vl p0 (nI 0)) p1 (vl p0))))] H := hP
              have hD : va_D A [(ms, .inl (cA 0, 720, .inl sa)), (mt, .inl (cA 0, 300, .inl (tx_A tn))), (m1, .inl (cA 0, 2, .inl (tx_A pa))), (m2, .inl (cA 0, 2, .inl (tx_A ps))), (m3, .inl (cA 0, 2, .inl tk)), (m4, .inl (cA 0, 2, .inl tv)), (mo, .inr (8, [.int th, .ref ms, .ref mk, .ref mv, .int (nI mm), .int (nI ml), .int (nI cnt), .ref mt, .int mp, .int mn, .int (nI mu), .ref ma, .int (nI at_), .int (nI b), .int (nI 77), .int ob, .ref m1, .ref m2, .ref m3, .ref m4, .int (nI rn), .int (nI pw), .ref mc])), (mk, .inl (cA 0, 18720, .inl (upd (upd kd p0 (nI 0)) p1 (kd p0)))), (mv, .inl (cA 0, 18720, .inl (upd (upd vl p0 (nI 0)) p1 (vl p0))))] := hD
              refine lv_iconst (v := nI 0) hx hb xd_Mo_doPath_252 (by decide) ?_
              have hP9 : va_P G xk_cl [(mo, .inr (8, [.int th, .ref ms, .ref mk, .ref mv, .int (nI mm), .int (nI ml), .int (nI cnt), .ref mt, .int mp, .int mn, .int (nI mu), .ref ma, .int (nI at_), .int (nI b), .int (nI 77), .int ob, .ref m1, .ref m2, .ref m3, .ref m4, .int (nI rn), .int (nI pw), .ref mc])), (ms, .inl (cA 0, 720, .inl sa)), (mk, .inl (cA 0, 18720, .inl (upd (upd kd p0 (nI 0)) p1 (kd p0)))), (mv, .inl (cA 0, 18720, .inl (upd (upd vl p0 (nI 0)) p1 (vl p0)))), (mt, .inl (cA 0, 300, .inl (tx_A tn))), (m1, .inl (cA 0, 2, .inl (tx_A pa))), (m2, .inl (cA 0, 2, .inl (tx_A ps))), (m3, .inl (cA 0, 2, .inl tk)), (m4, .inl (cA 0, 2, .inl tv))] _ := hP.sub [6, 0, 7, 8, 1, 2, 3, 4, 5] rfl
              have hD9 : va_D A [(mo, .inr (8, [.int th, .ref ms, .ref mk, .ref mv, .int (nI mm), .int (nI ml), .int (nI cnt), .ref mt, .int mp, .int mn, .int (nI mu), .ref ma, .int (nI at_), .int (nI b), .int (nI 77), .int ob, .ref m1, .ref m2, .ref m3, .ref m4, .int (nI rn), .int (nI pw), .ref mc])), (ms, .inl (cA 0, 720, .inl sa)), (mk, .inl (cA 0, 18720, .inl (upd (upd kd p0 (nI 0)) p1 (kd p0)))), (mv, .inl (cA 0, 18720, .inl (upd (upd vl p0 (nI 0)) p1 (vl p0)))), (mt, .inl (cA 0, 300, .inl (tx_A tn))), (m1, .inl (cA 0, 2, .inl (tx_A pa))), (m2, .inl (cA 0, 2, .inl (tx_A ps))), (m3, .inl (cA 0, 2, .inl tk)), (m4, .inl (cA 0, 2, .inl tv))] := hD.sub [6, 0, 7, 8, 1, 2, 3, 4, 5] (by decide) rfl
              exact W.iret (v := nI 0) hx hb hr (fun T9 ht hW => ⟨⟨_, (pw, upd (upd kd p0 (nI 0)) p1 (kd p0), upd (upd vl p0 (nI 0)) p1 (vl p0)), rfl, dh_y (by rw [ex_l, if_pos (wn_p (by decide) rn_0 rn_0), if_neg (by decide), if_neg (by decide), if_neg (by decide), if_neg (by decide), if_neg (by decide), if_pos rfl, ex_M, q_o]; dsimp only; rw [q_o2]; dsimp only; rw [← hp0, ← hp1, if_neg q_k, if_neg q_s0, if_neg q_s1]) (sn_k (sn_k hR p0 (x := nI 0) (by decide) (by decide)) p1 (hR.2 p0 (by omega)).1 (hR.2 p0 (by omega)).2) (fr_t (fr_k _ _ _ _ _ (by omega : p0 < 1040)) (fr_k _ _ _ _ _ (by omega : p1 < 1040))), by rw [ht]; exact hP9, hD9⟩, hS.F ht⟩) hS.2.2 xd_Mo_doPath_253
            · have q_s1 : cl_P fo (st n1) := Classical.byContradiction fun z => c_147_79 (cl_D_z.mpr z)
              refine lv_bipush (v := nI 6) hx hb xd_Mo_doPath_150 (by decide) ?_
              have hP9 : va_P G xk_cl [(mo, .inr (8, [.int th, .ref ms, .ref mk, .ref mv, .int (nI mm), .int (nI ml), .int (nI cnt), .ref mt, .int mp, .int mn, .int (nI mu), .ref ma, .int (nI at_), .int (nI b), .int (nI 77), .int ob, .ref m1, .ref m2, .ref m3, .ref m4, .int (nI rn), .int (nI pw), .ref mc])), (ms, .inl (cA 0, 720, .inl sa)), (mk, .inl (cA 0, 18720, .inl kd)), (mv, .inl (cA 0, 18720, .inl vl)), (mt, .inl (cA 0, 300, .inl (tx_A tn))), (m1, .inl (cA 0, 2, .inl (tx_A pa))), (m2, .inl (cA 0, 2, .inl (tx_A ps))), (m3, .inl (cA 0, 2, .inl tk)), (m4, .inl (cA 0, 2, .inl tv))] _ := hP.sub [0, 1, 2, 3, 4, 5, 6, 7, 8] rfl
              have hD9 : va_D A [(mo, .inr (8, [.int th, .ref ms, .ref mk, .ref mv, .int (nI mm), .int (nI ml), .int (nI cnt), .ref mt, .int mp, .int mn, .int (nI mu), .ref ma, .int (nI at_), .int (nI b), .int (nI 77), .int ob, .ref m1, .ref m2, .ref m3, .ref m4, .int (nI rn), .int (nI pw), .ref mc])), (ms, .inl (cA 0, 720, .inl sa)), (mk, .inl (cA 0, 18720, .inl kd)), (mv, .inl (cA 0, 18720, .inl vl)), (mt, .inl (cA 0, 300, .inl (tx_A tn))), (m1, .inl (cA 0, 2, .inl (tx_A pa))), (m2, .inl (cA 0, 2, .inl (tx_A ps))), (m3, .inl (cA 0, 2, .inl tk)), (m4, .inl (cA 0, 2, .inl tv))] := hD.sub [0, 1, 2, 3, 4, 5, 6, 7, 8] (by decide) rfl
              exact W.iret (v := nI 6) hx hb hr (fun T9 ht hW => ⟨⟨_, (pw, kd, vl), rfl, dh_n (k := 6) (by rw [ex_l, if_pos (wn_p (by decide) rn_0 rn_0), if_neg (by decide), if_neg (by decide), if_neg (by decide), if_neg (by decide), if_neg (by decide), if_pos rfl, ex_M, q_o]; dsimp only; rw [q_o2]; dsimp only; rw [← hp0, ← hp1, if_neg q_k, if_neg q_s0, if_pos q_s1]) (by decide) hR, by rw [ht]; exact hP9, hD9⟩, hS.F ht⟩) hS.2.2 xd_Mo_doPath_152
        · have q_k : ce p0 = 0 := hZ _ (by omega) c_70_72
          refine lv_iconst (v := nI 5) hx hb xd_Mo_doPath_73 (by decide) ?_
          have hP9 : va_P G xk_cl [(mo, .inr (8, [.int th, .ref ms, .ref mk, .ref mv, .int (nI mm), .int (nI ml), .int (nI cnt), .ref mt, .int mp, .int mn, .int (nI mu), .ref ma, .int (nI at_), .int (nI b), .int (nI 77), .int ob, .ref m1, .ref m2, .ref m3, .ref m4, .int (nI rn), .int (nI pw), .ref mc])), (ms, .inl (cA 0, 720, .inl sa)), (mk, .inl (cA 0, 18720, .inl kd)), (mv, .inl (cA 0, 18720, .inl vl)), (mt, .inl (cA 0, 300, .inl (tx_A tn))), (m1, .inl (cA 0, 2, .inl (tx_A pa))), (m2, .inl (cA 0, 2, .inl (tx_A ps))), (m3, .inl (cA 0, 2, .inl tk)), (m4, .inl (cA 0, 2, .inl tv))] _ := hP.sub [0, 1, 2, 3, 4, 5, 6, 7, 8] rfl
          have hD9 : va_D A [(mo, .inr (8, [.int th, .ref ms, .ref mk, .ref mv, .int (nI mm), .int (nI ml), .int (nI cnt), .ref mt, .int mp, .int mn, .int (nI mu), .ref ma, .int (nI at_), .int (nI b), .int (nI 77), .int ob, .ref m1, .ref m2, .ref m3, .ref m4, .int (nI rn), .int (nI pw), .ref mc])), (ms, .inl (cA 0, 720, .inl sa)), (mk, .inl (cA 0, 18720, .inl kd)), (mv, .inl (cA 0, 18720, .inl vl)), (mt, .inl (cA 0, 300, .inl (tx_A tn))), (m1, .inl (cA 0, 2, .inl (tx_A pa))), (m2, .inl (cA 0, 2, .inl (tx_A ps))), (m3, .inl (cA 0, 2, .inl tk)), (m4, .inl (cA 0, 2, .inl tv))] := hD.sub [0, 1, 2, 3, 4, 5, 6, 7, 8] (by decide) rfl
          exact W.iret (v := nI 5) hx hb hr (fun T9 ht hW => ⟨⟨_, (pw, kd, vl), rfl, dh_n (k := 5) (by rw [ex_l, if_pos (wn_p (by decide) rn_0 rn_0), if_neg (by decide), if_neg (by decide), if_neg (by decide), if_neg (by decide), if_neg (by decide), if_pos rfl, ex_M, q_o]; dsimp only; rw [q_o2]; dsimp only; rw [← hp0, ← hp1, if_pos q_k]) (by decide) hR, by rw [ht]; exact hP9, hD9⟩, hS.F ht⟩) hS.2.2 xd_Mo_doPath_74
  · obtain ⟨t0, t1, t2, t5⟩ := hk2 rfl
    refine lv_aload_n hx hb xd_Mo_doPath_0 rfl (lv_at hl 0 rfl) ?_
    refine lv_iconst (v := nI 0) hx hb xd_Mo_doPath_1 (by decide) ?_
    have hPc := hP.sub (ws' := [(mo, .inr (8, [.int th, .ref ms, .ref mk, .ref mv, .int (nI mm), .int (nI ml), .int (nI cnt), .ref mt, .int mp, .int mn, .int (nI mu), .ref ma, .int (nI at_), .int (nI b), .int (nI 67), .int ob, .ref m1, .ref m2, .ref m3, .ref m4, .int (nI rn), .int (nI pw), .ref mc])), (m3, .inl (cA 0, 2, .inl tk)), (m4, .inl (cA 0, 2, .inl tv))]) [0, 7, 8] rfl
    refine vp_callSi (va_Run.run (va_runV (As := [.int (nI 0)]) (rest := []) ⟨hx, hb, hml, hown, hts⟩ (ct_Mo_isFar l G cA mo th ms mk mv mm ml cnt mt mp mn mu ma at_ (nI b) (nI 67) ob m1 m2 m3 m4 rn pw mc tk tv 0 (by omega)) (cwV 1 hts (gi_v xm_751 xm_753 xs_Mo_isFar xm_9 xm_754) rfl rfl rfl ⟨rfl, xh_Mo_isFar⟩ ⟨Nat.le_of_ble_eq_true rfl, Nat.le_of_ble_eq_true rfl⟩) (pv_r hK hPc (ci := 8) (q0 := 0) rfl rfl) rfl rfl hl.1 rfl (lv_room (Nat.le_of_ble_eq_true rfl)) xd_Mo_doPath_2 ⟨Nat.le_of_ble_eq_true rfl, Nat.le_of_ble_eq_true rfl⟩)) (fun r_88 q_89 => ?_)
    refine lx_top (z := fr_R (tk 0) (tv 0)) (q_89) ?_
    refine lx_top (z := rn_R wt) (by rw [t0, t1]; exact fr_rn hwp) ?_
    refine lv_if_ne (tgt := 16) hx hb xd_Mo_doPath_5 (by decide) (fun c_5_89 => ?_) (fun c_5_89 => ?_)
    · have q_f : ¬ rn_R wt = 0 ∨ ¬ rn_R gv = 0 := Or.inl c_5_89
      refine lv_iconst (v := nI 2) hx hb xd_Mo_doPath_16 (by decide) ?_
      have hP9 : va_P G xk_cl [(mo, .inr (8, [.int th, .ref ms, .ref mk, .ref mv, .int (nI mm), .int (nI ml), .int (nI cnt), .ref mt, .int mp, .int mn, .int (nI mu), .ref ma, .int (nI at_), .int (nI b), .int (nI 67), .int ob, .ref m1, .ref m2, .ref m3, .ref m4, .int (nI rn), .int (nI pw), .ref mc])), (ms, .inl (cA 0, 720, .inl sa)), (mk, .inl (cA 0, 18720, .inl kd)), (mv, .inl (cA 0, 18720, .inl vl)), (mt, .inl (cA 0, 300, .inl (tx_A tn))), (m1, .inl (cA 0, 2, .inl (tx_A pa))), (m2, .inl (cA 0, 2, .inl (tx_A ps))), (m3, .inl (cA 0, 2, .inl tk)), (m4, .inl (cA 0, 2, .inl tv))] _ := hP.sub [0, 1, 2, 3, 4, 5, 6, 7, 8] rfl
      have hD9 : va_D A [(mo, .inr (8, [.int th, .ref ms, .ref mk, .ref mv, .int (nI mm), .int (nI ml), .int (nI cnt), .ref mt, .int mp, .int mn, .int (nI mu), .ref ma, .int (nI at_), .int (nI b), .int (nI 67), .int ob, .ref m1, .ref m2, .ref m3, .ref m4, .int (nI rn), .int (nI pw), .ref mc])), (ms, .inl (cA 0, 720, .inl sa)), (mk, .inl (cA 0, 18720, .inl kd)), (mv, .inl (cA 0, 18720, .inl vl)), (mt, .inl (cA 0, 300, .inl (tx_A tn))), (m1, .inl (cA 0, 2, .inl (tx_A pa))), (m2, .inl (cA 0, 2, .inl (tx_A ps))), (m3, .inl (cA 0, 2, .inl tk)), (m4, .inl (cA 0, 2, .inl tv))] := hD.sub [0, 1, 2, 3, 4, 5, 6, 7, 8] (by decide) rfl
      exact W.iret (v := nI 2) hx hb hr (fun T9 ht hW => ⟨⟨_, (pw, kd, vl), rfl, dh_n (k := 2) (by rw [ex_l, if_neg (wn_n q_f)]) (by decide) hR, by rw [ht]; exact hP9, hD9⟩, hS.F ht⟩) hS.2.2 xd_Mo_doPath_17
    · have q_f0 := c_5_89
      refine lv_aload_n hx hb xd_Mo_doPath_8 rfl (lv_at hl 0 rfl) ?_
      refine lv_iconst (v := nI 1) hx hb xd_Mo_doPath_9 (by decide) ?_
      have hPc := hP.sub (ws' := [(mo, .inr (8, [.int th, .ref ms, .ref mk, .ref mv, .int (nI mm), .int (nI ml), .int (nI cnt), .ref mt, .int mp, .int mn, .int (nI mu), .ref ma, .int (nI at_), .int (nI b), .int (nI 67), .int ob, .ref m1, .ref m2, .ref m3, .ref m4, .int (nI rn), .int (nI pw), .ref mc])), (m3, .inl (cA 0, 2, .inl tk)), (m4, .inl (cA 0, 2, .inl tv))]) [0, 7, 8] rfl
      refine vp_callSi (va_Run.run (va_runV (As := [.int (nI 1)]) (rest := []) ⟨hx, hb, hml, hown, hts⟩ (ct_Mo_isFar l G cA mo th ms mk mv mm ml cnt mt mp mn mu ma at_ (nI b) (nI 67) ob m1 m2 m3 m4 rn pw mc tk tv 1 (by omega)) (cwV 1 hts (gi_v xm_751 xm_753 xs_Mo_isFar xm_9 xm_754) rfl rfl rfl ⟨rfl, xh_Mo_isFar⟩ ⟨Nat.le_of_ble_eq_true rfl, Nat.le_of_ble_eq_true rfl⟩) (pv_r hK hPc (ci := 8) (q0 := 0) rfl rfl) rfl rfl hl.1 rfl (lv_room (Nat.le_of_ble_eq_true rfl)) xd_Mo_doPath_10 ⟨Nat.le_of_ble_eq_true rfl, Nat.le_of_ble_eq_true rfl⟩)) (fun r_91 q_92 => ?_)
      refine lx_top (z := fr_R (tk 1) (tv 1)) (q_92) ?_
      refine lx_top (z := rn_R gv) (by rw [t2, t5]; exact fr_rn hgp) ?_
      refine lv_if_eq (tgt := 18) hx hb xd_Mo_doPath_13 (by decide) (fun c_13_92 => ?_) (fun c_13_92 => ?_)
      · have q_f1 := c_13_92
        refine lv_aload_n hx hb xd_Mo_doPath_18 rfl (lv_at hl 0 rfl) ?_
        refine lv_iconst (v := nI 0) hx hb xd_Mo_doPath_19 (by decide) ?_
        have hPc := hP.sub (ws' := [(mo, .inr (8, [.int th, .ref ms, .ref mk, .ref mv, .int (nI mm), .int (nI ml), .int (nI cnt), .ref mt, .int mp, .int mn, .int (nI mu), .ref ma, .int (nI at_), .int (nI b), .int (nI 67), .int ob, .ref m1, .ref m2, .ref m3, .ref m4, .int (nI rn), .int (nI pw), .ref mc])), (ms, .inl (cA 0, 720, .inl sa)), (mk, .inl (cA 0, 18720, .inl kd)), (mv, .inl (cA 0, 18720, .inl vl)), (mt, .inl (cA 0, 300, .inl (tx_A tn))), (m1, .inl (cA 0, 2, .inl (tx_A pa))), (m2, .inl (cA 0, 2, .inl (tx_A ps)))]) [0, 1, 2, 3, 4, 5, 6] rfl
        refine vp_callSi (va_Run.run (va_runV (As := [.int (nI 0)]) (rest := []) ⟨hx, hb, hml, hown, hts⟩ (ct_Mo_follow l G cA mo th ms mk mv mm ml cnt mt mp mn mu ma at_ (nI 67) ob m1 m2 m3 m4 rn pw mc b tn hc (by omega) hv (by omega) sa kd vl st ce pa ps 0 (by omega) hR hO h0.1 h0.2.1 h0.2.2) (cwV 1 hts (gi_v xm_755 xm_757 xs_Mo_follow xm_9 xm_758) rfl rfl rfl ⟨rfl, xh_Mo_follow⟩ ⟨Nat.le_of_ble_eq_true rfl, Nat.le_of_ble_eq_true rfl⟩) (pv_r hK hPc (ci := 8) (q0 := 0) rfl rfl) rfl rfl hl.1 rfl (lv_room (Nat.le_of_ble_eq_true rfl)) xd_Mo_doPath_20 ⟨Nat.le_of_ble_eq_true rfl, Nat.le_of_ble_eq_true rfl⟩)) (fun r_94 q_95 => ?_)
        refine lx_top (z := fq_R (fo_F st ce (pk_t tn (pa 0)) (ps 0 - 1)) (pk_t tn (pa 0) (ps 0 - 1))) (q_95) ?_
        rcases op_c (fo_F st ce (pk_t tn (pa 0)) (ps 0 - 1)) with q_o | ⟨n0, q_o⟩
        · refine lx_top (z := (-1)) (by rw [q_o]; rfl) ?_
          refine lv_istore_n (lv' := [(2, .int (-1)), (0, .ref mo), (1, .int fo)]) hx hb xd_Mo_doPath_23 rfl hl (by decide) rfl (fun ls hl => ?_)
          refine lv_aload_n hx hb xd_Mo_doPath_24 rfl (lv_at hl 1 rfl) ?_
          refine va_get (D := G) (ci := 8) (v := .int (nI 67)) (C := xc_Mo) (T := xf_Mo) (N := 23) hx hb hts xw_Mo hown hK.1 hP 0 rfl rfl 14 (by decide) (hts _ xm_633) (fun _ h9 => h9) rfl xd_Mo_doPath_25 ?_
          refine lv_bipush (v := nI 77) hx hb xd_Mo_doPath_28 (by decide) ?_
          refine lv_icmp_ne (tgt := 41) hx hb xd_Mo_doPath_30 (by decide) (fun c_30_95 => ?_) (fun c_30_95 => absurd c_30_95 (by decide))
          refine lv_iload_n hx hb xd_Mo_doPath_41 rfl (lv_at hl 0 rfl) ?_
          refine lv_istore_n (lv' := [(3, .int (-1)), (2, .int (-1)), (0, .ref mo), (1, .int fo)]) hx hb xd_Mo_doPath_42 rfl hl (by decide) rfl (fun ls hl => ?_)
          refine lv_iload_n hx hb xd_Mo_doPath_43 rfl (lv_at hl 1 rfl) ?_
          refine lv_iconst (v := (-1)) hx hb xd_Mo_doPath_44 (by decide) ?_
          refine lv_icmp_eq (tgt := 53) hx hb xd_Mo_doPath_45 (by decide) (fun c_45_96 => ?_) (fun c_45_96 => absurd (by decide) c_45_96)
          refine lv_iconst (v := nI 4) hx hb xd_Mo_doPath_53 (by decide) ?_
          have hP9 : va_P G xk_cl [(mo, .inr (8, [.int th, .ref ms, .ref mk, .ref mv, .int (nI mm), .int (nI ml), .int (nI cnt), .ref mt, .int mp, .int mn, .int (nI mu), .ref ma, .int (nI at_), .int (nI b), .int (nI 67), .int ob, .ref m1, .ref m2, .ref m3, .ref m4, .int (nI rn), .int (nI pw), .ref mc])), (ms, .inl (cA 0, 720, .inl sa)), (mk, .inl (cA 0, 18720, .inl kd)), (mv, .inl (cA 0, 18720, .inl vl)), (mt, .inl (cA 0, 300, .inl (tx_A tn))), (m1, .inl (cA 0, 2, .inl (tx_A pa))), (m2, .inl (cA 0, 2, .inl (tx_A ps))), (m3, .inl (cA 0, 2, .inl tk)), (m4, .inl (cA 0, 2, .inl tv))] _ := hP.sub [0, 1, 2, 3, 4, 5, 6, 7, 8] rfl
          have hD9 : va_D A [(mo, .inr (8, [.int th, .ref ms, .ref mk, .ref mv, .int (nI mm), .int (nI ml), .int (nI cnt), .ref mt, .int mp, .int mn, .int (nI mu), .ref ma, .int (nI at_), .int (nI b), .int (nI 67), .int ob, .ref m1, .ref m2, .ref m3, .ref m4, .int (nI rn), .int (nI pw), .ref mc])), (ms, .inl (cA 0, 720, .inl sa)), (mk, .inl (cA 0, 18720, .inl kd)), (mv, .inl (cA 0, 18720, .inl vl)), (mt, .inl (cA 0, 300, .inl (tx_A tn))), (m1, .inl (cA 0, 2, .inl (tx_A pa))), (m2, .inl (cA 0, 2, .inl (tx_A ps))), (m3, .inl (cA 0, 2, .inl tk)), (m4, .inl (cA 0, 2, .inl tv))] := hD.sub [0, 1, 2, 3, 4, 5, 6, 7, 8] (by decide) rfl
          exact W.iret (v := nI 4) hx hb hr (fun T9 ht hW => ⟨⟨_, (pw, kd, vl), rfl, dh_n (k := 4) (by rw [ex_l, if_pos (wn_p (by decide) q_f0 q_f1), if_neg (by decide), if_neg (by decide), if_neg (by decide), if_neg (by decide), if_neg (by decide), if_neg (by decide), ex_C, q_o]) (by decide) hR, by rw [ht]; exact hP9, hD9⟩, hS.F ht⟩) hS.2.2 xd_Mo_doPath_54
        · have l_0 := h0.2.2 (ps 0 - 1) (by omega)
          have k_0 : pk_t tn (pa 0) (ps 0 - 1) < 26 := by unfold pk_t; omega
          have n_0 : n0 < 40 := fo_F_l hO (fun j hj => by have := h0.2.2 j (by omega); unfold pk_t; omega) q_o
          obtain ⟨p0, hp0⟩ : ∃ z, z = n0 * 26 + pk_t tn (pa 0) (ps 0 - 1) := ⟨_, rfl⟩
          refine lx_top (z := nI p0) (by rw [q_o]; exact congrArg nI (by omega)) ?_
          refine lv_istore_n (lv' := [(2, .int (nI p0)), (0, .ref mo), (1, .int fo)]) hx hb xd_Mo_doPath_23 rfl hl (by decide) rfl (fun ls hl => ?_)
          refine lv_aload_n hx hb xd_Mo_doPath_24 rfl (lv_at hl 1 rfl) ?_
          refine va_get (D := G) (ci := 8) (v := .int (nI 67)) (C := xc_Mo) (T := xf_Mo) (N := 23) hx hb hts xw_Mo hown hK.1 hP 0 rfl rfl 14 (by decide) (hts _ xm_633) (fun _ h9 => h9) rfl xd_Mo_doPath_25 ?_
          refine lv_bipush (v := nI 77) hx hb xd_Mo_doPath_28 (by decide) ?_
          refine lv_icmp_ne (tgt := 41) hx hb xd_Mo_doPath_30 (by decide) (fun c_30_97 => ?_) (fun c_30_97 => absurd c_30_97 (by decide))
          refine lv_iload_n hx hb xd_Mo_doPath_41 rfl (lv_at hl 0 rfl) ?_
          refine lv_istore_n (lv' := [(3, .int (nI p0)), (2, .int (nI p0)), (0, .ref mo), (1, .int fo)]) hx hb xd_Mo_doPath_42 rfl hl (by decide) rfl (fun ls hl => ?_)
          refine lv_iload_n hx hb xd_Mo_doPath_43 rfl (lv_at hl 1 rfl) ?_
          refine lv_iconst (v := (-1)) hx hb xd_Mo_doPath_44 (by decide) ?_
          refine lv_icmp_eq (tgt := 53) hx hb xd_Mo_doPath_45 (by decide) (fun c_45_98 => absurd c_45_98 (nI_nm (by omega))) (fun c_45_98 => ?_)
          refine lv_iload_n hx hb xd_Mo_doPath_48 rfl (lv_at hl 0 rfl) ?_
          refine lv_iconst (v := (-1)) hx hb xd_Mo_doPath_49 (by decide) ?_
          refine lv_icmp_ne (tgt := 55) hx hb xd_Mo_doPath_50 (by decide) (fun c_50_99 => ?_) (fun c_50_99 => absurd c_50_99 (nI_nm (by omega)))
          refine lv_aload_n hx hb xd_Mo_doPath_55 rfl (lv_at hl 2 rfl) ?_
          refine va_get (D := G) (ci := 8) (v := .int (nI 67)) (C := xc_Mo) (T := xf_Mo) (N := 23) hx hb hts xw_Mo hown hK.1 hP 0 rfl rfl 14 (by decide) (hts _ xm_633) (fun _ h9 => h9) rfl xd_Mo_doPath_56 ?_
          refine lv_bipush (v := nI 83) hx hb xd_Mo_doPath_59 (by decide) ?_
          refine lv_icmp_eq (tgt := 75) hx hb xd_Mo_doPath_61 (by decide) (fun c_61_100 => absurd c_61_100 (by decide)) (fun c_61_100 => ?_)
          refine lv_aload_n hx hb xd_Mo_doPath_64 rfl (lv_at hl 2 rfl) ?_
          refine va_get (D := G) (ci := 8) (v := .ref mk) (C := xc_Mo) (T := xf_Mo) (N := 23) hx hb hts xw_Mo hown hK.1 hP 0 rfl rfl 2 (by decide) (hts _ xm_621) (fun _ h9 => h9) rfl xd_Mo_doPath_65 ?_
          refine lv_iload_n hx hb xd_Mo_doPath_68 rfl (lv_at hl 1 rfl) ?_
          refine wx_iald hx hb hK.1 hP 2 0 rfl rfl (k := p0) (by omega) (by decide) xd_Mo_doPath_69 ?_
          refine lx_top (z := en_K (ce p0)) ((hR.2 _ (by omega)).1) ?_
          refine lv_if_ne (tgt := 75) hx hb xd_Mo_doPath_70 (by decide) (fun c_70_101 => ?_) (fun c_70_101 => ?_)
          · have q_k : ¬ ce p0 = 0 := fun z => c_70_101 (by rw [z]; decide)
            refine lv_aload_n hx hb xd_Mo_doPath_75 rfl (lv_at hl 2 rfl) ?_
            refine va_get (D := G) (ci := 8) (v := .int (nI 67)) (C := xc_Mo) (T := xf_Mo) (N := 23) hx hb hts xw_Mo hown hK.1 hP 0 rfl rfl 14 (by decide) (hts _ xm_633) (fun _ h9 => h9) rfl xd_Mo_doPath_76 ?_
            refine lv_bipush (v := nI 67) hx hb xd_Mo_doPath_79 (by decide) ?_
            refine lv_icmp_ne (tgt := 126) hx hb xd_Mo_doPath_81 (by decide) (fun c_81_102 => absurd (by decide) c_81_102) (fun c_81_102 => ?_)
            refine lv_aload_n hx hb xd_Mo_doPath_84 rfl (lv_at hl 2 rfl) ?_
            refine va_get (D := G) (ci := 8) (v := .ref mk) (C := xc_Mo) (T := xf_Mo) (N := 23) hx hb hts xw_Mo hown hK.1 hP 0 rfl rfl 2 (by decide) (hts _ xm_621) (fun _ h9 => h9) rfl xd_Mo_doPath_85 ?_
            refine lv_iload_n hx hb xd_Mo_doPath_88 rfl (lv_at hl 1 rfl) ?_
            refine wx_iald hx hb hK.1 hP 2 0 rfl rfl (k := p0) (by omega) (by decide) xd_Mo_doPath_89 ?_
            refine lx_top (z := en_K (ce p0)) ((hR.2 _ (by omega)).1) ?_
            refine lv_aload_n hx hb xd_Mo_doPath_90 rfl (lv_at hl 2 rfl) ?_
            refine va_get (D := G) (ci := 8) (v := .ref m3) (C := xc_Mo) (T := xf_Mo) (N := 23) hx hb hts xw_Mo hown hK.1 hP 0 rfl rfl 18 (by decide) (hts _ xm_637) (fun _ h9 => h9) rfl xd_Mo_doPath_91 ?_
            refine lv_iconst (v := nI 0) hx hb xd_Mo_doPath_94 (by decide) ?_
            refine wx_iald hx hb hK.1 hP 7 0 rfl rfl (k := 0) (by omega) (by decide) xd_Mo_doPath_95 ?_
            refine lx_top (z := en_K wt) (t0) ?_
            refine lv_icmp_ne (tgt := 114) hx hb xd_Mo_doPath_96 (by decide) (fun c_96_103 => ?_) (fun c_96_103 => ?_)
            · have q_w : ¬ ce p0 = wt := fun z => c_96_103 (by rw [z])
              refine lv_aload_n hx hb xd_Mo_doPath_114 rfl (lv_at hl 2 rfl) ?_
              refine lv_dup hx hb xd_Mo_doPath_115 rfl ?_
              refine va_get (D := G) (ci := 8) (v := .int (nI pw)) (C := xc_Mo) (T := xf_Mo) (N := 23) hx hb hts xw_Mo hown hK.1 hP 0 rfl rfl 21 (by decide) (hts _ xm_640) (fun _ h9 => h9) rfl xd_Mo_doPath_116 ?_
              refine lv_iconst (v := nI 1) hx hb xd_Mo_doPath_119 (by decide) ?_
              refine lx_iadd (z := nI (pw + 1)) hx hb xd_Mo_doPath_120 (nI_add _ _) ?_
              refine va_put (D := G) (ci := 8) (v := .int (nI (pw + 1))) (ty := .int) (C := xc_Mo) (T := xf_Mo) (N := 23) hx hb hts xw_Mo xt_Mo xt_Mo_ok xn_Mo hown hK.1 hP hD hS 0 rfl rfl 21 (by decide) (hts _ xm_640) (fun _ h9 => h9) rfl (by decide +kernel) rfl rfl (Nat.le_of_ble_eq_true rfl) xd_Mo_doPath_121 (fun H locs hP hD hS => ?_)
              have hP : va_P G xk_cl [(mo, .inr (8, [.int th, .ref ms, .ref mk, .ref mv, .int (nI mm), .int (nI ml), .int (nI cnt), .ref mt, .int mp, .int mn, .int (nI mu), .ref ma, .int (nI at_), .int (nI b), .int (nI 67), .int ob, .ref m1, .ref m2, .ref m3, .ref m4, .int (nI rn), .int (nI (pw + 1)), .ref mc])), (ms, .inl (cA 0, 720, .inl sa)), (mk, .inl (cA 0, 18720, .inl kd)), (mv, .inl (cA 0, 18720, .inl vl)), (mt, .inl (cA 0, 300, .inl (tx_A tn))), (m1, .inl (cA 0, 2, .inl (tx_A pa))), (m2, .inl (cA 0, 2, .inl (tx_A ps))), (m3, .inl (cA 0, 2, .inl tk)), (m4, .inl (cA 0, 2, .inl tv))] H := hP
              have hD : va_D A [(mo, .inr (8, [.int th, .ref ms, .ref mk, .ref mv, .int (nI mm), .int (nI ml), .int (nI cnt), .ref mt, .int mp, .int mn, .int (nI mu), .ref ma, .int (nI at_), .int (nI b), .int (nI 67), .int ob, .ref m1, .ref m2, .ref m3, .ref m4, .int (nI rn), .int (nI (pw + 1)), .ref mc])), (ms, .inl (cA 0, 720, .inl sa)), (mk, .inl (cA 0, 18720, .inl kd)), (mv, .inl (cA 0, 18720, .inl vl)), (mt, .inl (cA 0, 300, .inl (tx_A tn))), (m1, .inl (cA 0, 2, .inl (tx_A pa))), (m2, .inl (cA 0, 2, .inl (tx_A ps))), (m3, .inl (cA 0, 2, .inl tk)), (m4, .inl (cA 0, 2, .inl tv))] := hD
              refine lv_iconst (v := nI 0) hx hb xd_Mo_doPath_124 (by decide) ?_
              have hP9 : va_P G xk_cl [(mo, .inr (8, [.int th, .ref ms, .ref mk, .ref mv, .int (nI mm), .int (nI ml), .int (nI cnt), .ref mt, .int mp, .int mn, .int (nI mu), .ref ma, .int (nI at_), .int (nI b), .int (nI 67), .int ob, .ref m1, .ref m2, .ref m3, .ref m4, .int (nI rn), .int (nI (pw + 1)), .ref mc])), (ms, .inl (cA 0, 720, .inl sa)), (mk, .inl (cA 0, 18720, .inl kd)), (mv, .inl (cA 0, 18720, .inl vl)), (mt, .inl (cA 0, 300, .inl (tx_A tn))), (m1, .inl (cA 0, 2, .inl (tx_A pa))), (m2, .inl (cA 0, 2, .inl (tx_A ps))), (m3, .inl (cA 0, 2, .inl tk)), (m4, .inl (cA 0, 2, .inl tv))] _ := hP.sub [0, 1, 2, 3, 4, 5, 6, 7, 8] rfl
              have hD9 : va_D A [(mo, .inr (8, [.int th, .ref ms, .ref mk, .ref mv, .int (nI mm), .int (nI ml), .int (nI cnt), .ref mt, .int mp, .int mn, .int (nI mu), .ref ma, .int (nI at_), .int (nI b), .int (nI 67), .int ob, .ref m1, .ref m2, .ref m3, .ref m4, .int (nI rn), .int (nI (pw + 1)), .ref mc])), (ms, .inl (cA 0, 720, .inl sa)), (mk, .inl (cA 0, 18720, .inl kd)), (mv, .inl (cA 0, 18720, .inl vl)), (mt, .inl (cA 0, 300, .inl (tx_A tn))), (m1, .inl (cA 0, 2, .inl (tx_A pa))), (m2, .inl (cA 0, 2, .inl (tx_A ps))), (m3, .inl (cA 0, 2, .inl tk)), (m4, .inl (cA 0, 2, .inl tv))] := hD.sub [0, 1, 2, 3, 4, 5, 6, 7, 8] (by decide) rfl
              exact W.iret (v := nI 0) hx hb hr (fun T9 ht hW => ⟨⟨_, (pw + 1, kd, vl), rfl, dh_p (by rw [ex_l, if_pos (wn_p (by decide) q_f0 q_f1), if_neg (by decide), if_neg (by decide), if_neg (by decide), if_neg (by decide), if_neg (by decide), if_neg (by decide), ex_C, q_o]; dsimp only; rw [← hp0, if_neg q_k, if_neg q_w]) hR, by rw [ht]; exact hP9, hD9⟩, hS.F ht⟩) hS.2.2 xd_Mo_doPath_125
            · have q_w1 := c_96_103
              refine lv_aload_n hx hb xd_Mo_doPath_99 rfl (lv_at hl 2 rfl) ?_
              refine va_get (D := G) (ci := 8) (v := .ref mv) (C := xc_Mo) (T := xf_Mo) (N := 23) hx hb hts xw_Mo hown hK.1 hP 0 rfl rfl 3 (by decide) (hts _ xm_622) (fun _ h9 => h9) rfl xd_Mo_doPath_100 ?_
              refine lv_iload_n hx hb xd_Mo_doPath_103 rfl (lv_at hl 1 rfl) ?_
              refine wx_iald hx hb hK.1 hP 3 0 rfl rfl (k := p0) (by omega) (by decide) xd_Mo_doPath_104 ?_
              refine lx_top (z := en_V (ce p0)) ((hR.2 _ (by omega)).2) ?_
              refine lv_aload_n hx hb xd_Mo_doPath_105 rfl (lv_at hl 2 rfl) ?_
              refine va_get (D := G) (ci := 8) (v := .ref m4) (C := xc_Mo) (T := xf_Mo) (N := 23) hx hb hts xw_Mo hown hK.1 hP 0 rfl rfl 19 (by decide) (hts _ xm_638) (fun _ h9 => h9) rfl xd_Mo_doPath_106 ?_
              refine lv_iconst (v := nI 0) hx hb xd_Mo_doPath_109 (by decide) ?_
              refine wx_iald hx hb hK.1 hP 8 0 rfl rfl (k := 0) (by omega) (by decide) xd_Mo_doPath_110 ?_
              refine lx_top (z := en_V wt) (t1) ?_
              refine lv_icmp_eq (tgt := 126) hx hb xd_Mo_doPath_111 (by decide) (fun c_111_104 => ?_) (fun c_111_104 => ?_)
              · have q_w : ce p0 = wt := en_eq q_w1 c_111_104
                refine lv_aload_n hx hb xd_Mo_doPath_126 rfl (lv_at hl 2 rfl) ?_
                refine lv_iload_n hx hb xd_Mo_doPath_127 rfl (lv_at hl 1 rfl) ?_
                refine lv_bipush (v := nI 26) hx hb xd_Mo_doPath_128 (by decide) ?_
                refine lx_idiv (z := nI n0) hx hb xd_Mo_doPath_130 (by decide) (by rw [pk_div (by omega) (by omega) (by omega)]; exact congrArg nI (by omega)) ?_
                refine lv_iload_n hx hb xd_Mo_doPath_131 rfl (lv_at hl 3 rfl) ?_
                have hPc := hP.sub (ws' := [(mo, .inr (8, [.int th, .ref ms, .ref mk, .ref mv, .int (nI mm), .int (nI ml), .int (nI cnt), .ref mt, .int mp, .int mn, .int (nI mu), .ref ma, .int (nI at_), .int (nI b), .int (nI 67), .int ob, .ref m1, .ref m2, .ref m3, .ref m4, .int (nI rn), .int (nI pw), .ref mc])), (ms, .inl (cA 0, 720, .inl sa))]) [0, 1] rfl
                refine vp_callSi (va_Run.run (va_runV (As := [.int (nI n0), .int fo]) (rest := []) ⟨hx, hb, hml, hown, hts⟩ (ct_Mo_isShut l G cA mo th ms mk mv mm ml cnt mt mp mn mu ma at_ (nI b) (nI 67) ob m1 m2 m3 m4 rn pw mc sa n0 fo n_0) (cwV 2 hts (gi_v xm_739 xm_741 xs_Mo_isShut xm_9 xm_742) rfl rfl rfl ⟨rfl, xh_Mo_isShut⟩ ⟨Nat.le_of_ble_eq_true rfl, Nat.le_of_ble_eq_true rfl⟩) (pv_r hK hPc (ci := 8) (q0 := 0) rfl rfl) rfl rfl hl.1 rfl (lv_room (Nat.le_of_ble_eq_true rfl)) xd_Mo_doPath_132 ⟨Nat.le_of_ble_eq_true rfl, Nat.le_of_ble_eq_true rfl⟩)) (fun r_106 q_107 => ?_)
                refine lx_top (z := cl_D fo (sa n0)) (q_107) ?_
                refine lx_top (z := cl_D fo (st n0)) (by rw [hR.1 n0 n_0]) ?_
                refine lv_if_ne (tgt := 150) hx hb xd_Mo_doPath_135 (by decide) (fun c_135_107 => ?_) (fun c_135_107 => ?_)
                · have q_s0 : cl_P fo (st n0) := Classical.byContradiction fun z => c_135_107 (cl_D_z.mpr z)
                  refine lv_bipush (v := nI 6) hx hb xd_Mo_doPath_150 (by decide) ?_
                  have hP9 : va_P G xk_cl [(mo, .inr (8, [.int th, .ref ms, .ref mk, .ref mv, .int (nI mm), .int (nI ml), .int (nI cnt), .ref mt, .int mp, .int mn, .int (nI mu), .ref ma, .int (nI at_), .int (nI b), .int (nI 67), .int ob, .ref m1, .ref m2, .ref m3, .ref m4, .int (nI rn), .int (nI pw), .ref mc])), (ms, .inl (cA 0, 720, .inl sa)), (mk, .inl (cA 0, 18720, .inl kd)), (mv, .inl (cA 0, 18720, .inl vl)), (mt, .inl (cA 0, 300, .inl (tx_A tn))), (m1, .inl (cA 0, 2, .inl (tx_A pa))), (m2, .inl (cA 0, 2, .inl (tx_A ps))), (m3, .inl (cA 0, 2, .inl tk)), (m4, .inl (cA 0, 2, .inl tv))] _ := hP.sub [0, 1, 2, 3, 4, 5, 6, 7, 8] rfl
                  have hD9 : va_D A [(mo, .inr (8, [.int th, .ref ms, .ref mk, .ref mv, .int (nI mm), .int (nI ml), .int (nI cnt), .ref mt, .int mp, .int mn, .int (nI mu), .ref ma, .int (nI at_), .int (nI b), .int (nI 67), .int ob, .ref m1, .ref m2, .ref m3, .ref m4, .int (nI rn), .int (nI pw), .ref mc])), (ms, .inl (cA 0, 720, .inl sa)), (mk, .inl (cA 0, 18720, .inl kd)), (mv, .inl (cA 0, 18720, .inl vl)), (mt, .inl (cA 0, 300, .inl (tx_A tn))), (m1, .inl (cA 0, 2, .inl (tx_A pa))), (m2, .inl (cA 0, 2, .inl (tx_A ps))), (m3, .inl (cA 0, 2, .inl tk)), (m4, .inl (cA 0, 2, .inl tv))] := hD.sub [0, 1, 2, 3, 4, 5, 6, 7, 8] (by decide) rfl
                  exact W.iret (v := nI 6) hx hb hr (fun T9 ht hW => ⟨⟨_, (pw, kd, vl), rfl, dh_n (k := 6) (by rw [ex_l, if_pos (wn_p (by decide) q_f0 q_f1), if_neg (by decide), if_neg (by decide), if_neg (by decide), if_neg (by decide), if_neg (by decide), if_neg (by decide), ex_C, q_o]; dsimp only; rw [← hp0, if_neg q_k, if_pos q_w, if_pos q_s0]) (by decide) hR, by rw [ht]; exact hP9, hD9⟩, hS.F ht⟩) hS.2.2 xd_Mo_doPath_152
                · have q_s0 := cl_D_z.mp c_135_107
                  refine lv_aload_n hx hb xd_Mo_doPath_138 rfl (lv_at hl 2 rfl) ?_
                  refine lv_iload_n hx hb xd_Mo_doPath_139 rfl (lv_at hl 0 rfl) ?_
                  refine lv_bipush (v := nI 26) hx hb xd_Mo_doPath_140 (by decide) ?_
                  refine lx_idiv (z := nI n0) hx hb xd_Mo_doPath_142 (by decide) (by rw [pk_div (by omega) (by omega) (by omega)]; exact congrArg nI (by omega)) ?_
                  refine lv_iload_n hx hb xd_Mo_doPath_143 rfl (lv_at hl 3 rfl) ?_
                  have hPc := hP.sub (ws' := [(mo, .inr (8, [.int th, .ref ms, .ref mk, .ref mv, .int (nI mm), .int (nI ml), .int (nI cnt), .ref mt, .int mp, .int mn, .int (nI mu), .ref ma, .int (nI at_), .int (nI b), .int (nI 67), .int ob, .ref m1, .ref m2, .ref m3, .ref m4, .int (nI rn), .int (nI pw), .ref mc])), (ms, .inl (cA 0, 720, .inl sa))]) [0, 1] rfl
                  refine vp_callSi (va_Run.run (va_runV (As := [.int (nI n0), .int fo]) (rest := []) ⟨hx, hb, hml, hown, hts⟩ (ct_Mo_isShut l G cA mo th ms mk mv mm ml cnt mt mp mn mu ma at_ (nI b) (nI 67) ob m1 m2 m3 m4 rn pw mc sa n0 fo n_0) (cwV 2 hts (gi_v xm_739 xm_741 xs_Mo_isShut xm_9 xm_742) rfl rfl rfl ⟨rfl, xh_Mo_isShut⟩ ⟨Nat.le_of_ble_eq_true rfl, Nat.le_of_ble_eq_true rfl⟩) (pv_r hK hPc (ci := 8) (q0 := 0) rfl rfl) rfl rfl hl.1 rfl (lv_room (Nat.le_of_ble_eq_true rfl)) xd_Mo_doPath_144 ⟨Nat.le_of_ble_eq_true rfl, Nat.le_of_ble_eq_true rfl⟩)) (fun r_109 q_110 => ?_)
                  refine lx_top (z := cl_D fo (sa n0)) (q_110) ?_
                  refine lx_top (z := cl_D fo (st n0)) (by rw [hR.1 n0 n_0]) ?_
                  refine lv_if_eq (tgt := 153) hx hb xd_Mo_doPath_147 (by decide) (fun c_147_110 => ?_) (fun c_147_110 => absurd (cl_D_z.mpr q_s0) c_147_110)
                  refine lv_aload_n hx hb xd_Mo_doPath_153 rfl (lv_at hl 2 rfl) ?_
                  refine va_get (D := G) (ci := 8) (v := .int (nI 67)) (C := xc_Mo) (T := xf_Mo) (N := 23) hx hb hts xw_Mo hown hK.1 hP 0 rfl rfl 14 (by decide) (hts _ xm_633) (fun _ h9 => h9) rfl xd_Mo_doPath_154 ?_
                  refine lv_bipush (v := nI 83) hx hb xd_Mo_doPath_157 (by decide) ?_
                  refine lv_icmp_ne (tgt := 182) hx hb xd_Mo_doPath_159 (by decide) (fun c_159_111 => ?_) (fun c_159_111 => absurd c_159_111 (by decide))
                  refine lv_aload_n hx hb xd_Mo_doPath_182 rfl (lv_at hl 2 rfl) ?_
                  refine va_get (D := G) (ci := 8) (v := .int (nI 67)) (C := xc_Mo) (T := xf_Mo) (N := 23) hx hb hts xw_Mo hown hK.1 hP 0 rfl rfl 14 (by decide) (hts _ xm_633) (fun _ h9 => h9) rfl xd_Mo_doPath_183 ?_
                  refine lv_bipush (v := nI 67) hx hb xd_Mo_doPath_186 (by decide) ?_
                  refine lv_icmp_ne (tgt := 211) hx hb xd_Mo_doPath_188 (by decide) (fun c_188_112 => absurd (by decide) c_188_112) (fun c_188_112 => ?_)
                  refine lv_aload_n hx hb xd_Mo_doPath_191 rfl (lv_at hl 2 rfl) ?_
                  refine lv_iload_n hx hb xd_Mo_doPath_192 rfl (lv_at hl 1 rfl) ?_
                  refine lv_aload_n hx hb xd_Mo_doPath_193 rfl (lv_at hl 2 rfl) ?_
                  refine va_get (D := G) (ci := 8) (v := .ref m3) (C := xc_Mo) (T := xf_Mo) (N := 23) hx hb hts xw_Mo hown hK.1 hP 0 rfl rfl 18 (by decide) (hts _ xm_637) (fun _ h9 => h9) rfl xd_Mo_doPath_194 ?_
                  refine lv_iconst (v := nI 1) hx hb xd_Mo_doPath_197 (by decide) ?_
                  refine wx_iald hx hb hK.1 hP 7 0 rfl rfl (k := 1) (by omega) (by decide) xd_Mo_doPath_198 ?_
                  refine lv_aload_n hx hb xd_Mo_doPath_199 rfl (lv_at hl 2 rfl) ?_
                  refine va_get (D := G) (ci := 8) (v := .ref m4) (C := xc_Mo) (T := xf_Mo) (N := 23) hx hb hts xw_Mo hown hK.1 hP 0 rfl rfl 19 (by decide) (hts _ xm_638) (fun _ h9 => h9) rfl xd_Mo_doPath_200 ?_
                  refine lv_iconst (v := nI 1) hx hb xd_Mo_doPath_203 (by decide) ?_
                  refine wx_iald hx hb hK.1 hP 8 0 rfl rfl (k := 1) (by omega) (by decide) xd_Mo_doPath_204 ?_
                  have hPc := hP.sub (ws' := [(mo, .inr (8, [.int th, .ref ms, .ref mk, .ref mv, .int (nI mm), .int (nI ml), .int (nI cnt), .ref mt, .int mp, .int mn, .int (nI mu), .ref ma, .int (nI at_), .int (nI b), .int (nI 67), .int ob, .ref m1, .ref m2, .ref m3, .ref m4, .int (nI rn), .int (nI pw), .ref mc])), (mk, .inl (cA 0, 18720, .inl kd)), (mv, .inl (cA 0, 18720, .inl vl))]) [0, 2, 3] rfl
                  have hDc := hD.sub (ws' := [(mo, .inr (8, [.int th, .ref ms, .ref mk, .ref mv, .int (nI mm), .int (nI ml), .int (nI cnt), .ref mt, .int mp, .int mn, .int (nI mu), .ref ma, .int (nI at_), .int (nI b), .int (nI 67), .int ob, .ref m1, .ref m2, .ref m3, .ref m4, .int (nI rn), .int (nI pw), .ref mc])), (mk, .inl (cA 0, 18720, .inl kd)), (mv, .inl (cA 0, 18720, .inl vl))]) [0, 2, 3] (by decide) rfl
                  have hFc := va_free (wc := [(mo, .inr (8, [.int th, .ref ms, .ref mk, .ref mv, .int (nI mm), .int (nI ml), .int (nI cnt), .ref mt, .int mp, .int mn, .int (nI mu), .ref ma, .int (nI at_), .int (nI b), .int (nI 67), .int ob, .ref m1, .ref m2, .ref m3, .ref m4, .int (nI rn), .int (nI pw), .ref mc])), (mk, .inl (cA 0, 18720, .inl kd)), (mv, .inl (cA 0, 18720, .inl vl))]) hD hS hA [0, 2, 3] rfl
                  refine va_callv (va_runV (As := [.int (nI p0), .int (tk 1), .int (tv 1)]) (rest := []) ⟨hx, hb, hml, hown, hts⟩ (ct_Mo_put l G cA s.heap.size mo th ms mk mv mm ml cnt mt mp mn mu ma at_ (nI b) (nI 67) ob m1 m2 m3 m4 rn pw mc kd vl p0 (tk 1) (tv 1) (by omega)) (cwV 3 hts (gi_v xm_759 xm_761 xs_Mo_put xm_9 xm_762) rfl rfl rfl ⟨rfl, xh_Mo_put⟩ ⟨Nat.le_of_ble_eq_true rfl, Nat.le_of_ble_eq_true rfl⟩) (pv_w hK hPc hDc (ci := 8) (q0 := 0) rfl rfl) rfl rfl hl.1 rfl (lv_room (Nat.le_of_ble_eq_true rfl)) xd_Mo_doPath_205 ⟨Nat.le_of_ble_eq_true rfl, Nat.le_of_ble_eq_true rfl⟩) hS (fun q _ h => hFc q h) hFc (fun u9 t9 H1 locs ht hvm q_115 hB hz1 hk1 hS => ?_)
                  obtain ⟨hP1, hD1⟩ := hB
                  rw [ht] at hP1
                  obtain ⟨hP, hD⟩ := va_join (wr := [(ms, .inl (cA 0, 720, .inl sa)), (mt, .inl (cA 0, 300, .inl (tx_A tn))), (m1, .inl (cA 0, 2, .inl (tx_A pa))), (m2, .inl (cA 0, 2, .inl (tx_A ps))), (m3, .inl (cA 0, 2, .inl tk)), (m4, .inl (cA 0, 2, .inl tv))]) (w1 := [(mo, .inr (8, [.int th, .ref ms, .ref mk, .ref mv, .int (nI mm), .int (nI ml), .int (nI cnt), .ref mt, .int mp, .int mn, .int (nI mu), .ref ma, .int (nI at_), .int (nI b), .int (nI 67), .int ob, .ref m1, .ref m2, .ref m3, .ref m4, .int (nI rn), .int (nI pw), .ref mc])), (mk, .inl (cA 0, 18720, .inl (upd kd p0 (tk 1)))), (mv, .inl (cA 0, 18720, .inl (upd vl p0 (tv 1))))]) hP hD [0, 2, 3] [1, 4, 5, 6, 7, 8] rfl rfl (by decide) (by decide) hk1 hFc hP1 hD1
                  generalize H1 = H at hP hS ⊢
                  have hP : va_P G xk_cl [(ms, .inl (cA 0, 720, .inl sa)), (mt, .inl (cA 0, 300, .inl (tx_A tn))), (m1, .inl (cA 0, 2, .inl (tx_A pa))), (m2, .inl (cA 0, 2, .inl (tx_A ps))), (m3, .inl (cA 0, 2, .inl tk)), (m4, .inl (cA 0, 2, .inl tv)), (mo, .inr (8, [.int th, .ref ms, .ref mk, .ref mv, .int (nI mm), .int (nI ml), .int (nI cnt), .ref mt, .int mp, .int mn, .int (nI mu), .ref ma, .int (nI at_), .int (nI b), .int (nI 67), .int ob, .ref m1, .ref m2, .ref m3, .ref m4, .int (nI rn), .int (nI pw), .ref mc])), (mk, .inl (cA 0, 18720, .inl (upd kd p0 (tk 1)))), (mv, .inl (cA 0, 18720, .inl (upd vl p0 (tv 1))))] H := hP
                  have hD : va_D A [(ms, .inl (cA 0, 720, .inl sa)), (mt, .inl (cA 0, 300, .inl (tx_A tn))), (m1, .inl (cA 0, 2, .inl (tx_A pa))), (m2, .inl (cA 0, 2, .inl (tx_A ps))), (m3, .inl (cA 0, 2, .inl tk)), (m4, .inl (cA 0, 2, .inl tv)), (mo, .inr (8, [.int th, .ref ms, .ref mk, .ref mv, .int (nI mm), .int (nI ml), .int (nI cnt), .ref mt, .int mp, .int mn, .int (nI mu), .ref ma, .int (nI at_), .int (nI b), .int (nI 67), .int ob, .ref m1, .ref m2, .ref m3, .ref m4, .int (nI rn), .int (nI pw), .ref mc])), (mk, .inl (cA 0, 18720, .inl (upd kd p0 (tk 1)))), (mv, .inl (cA 0, 18720, .inl (upd vl p0 (tv 1))))] := hD
                  refine lv_goto (tgt := 252) hx hb xd_Mo_doPath_208 (by decide) ?_
                  refine lv_iconst (v := nI 0) hx hb xd_Mo_doPath_252 (by decide) ?_
                  have hP9 : va_P G xk_cl [(mo, .inr (8, [.int th, .ref ms, .ref mk, .ref mv, .int (nI mm), .int (nI ml), .int (nI cnt), .ref mt, .int mp, .int mn, .int (nI mu), .ref ma, .int (nI at_), .int (nI b), .int (nI 67), .int ob, .ref m1, .ref m2, .ref m3, .ref m4, .int (nI rn), .int (nI pw), .ref mc])), (ms, .inl (cA 0, 720, .inl sa)), (mk, .inl (cA 0, 18720, .inl (upd kd p0 (tk 1)))), (mv, .inl (cA 0, 18720, .inl (upd vl p0 (tv 1)))), (mt, .inl (cA 0, 300, .inl (tx_A tn))), (m1, .inl (cA 0, 2, .inl (tx_A pa))), (m2, .inl (cA 0, 2, .inl (tx_A ps))), (m3, .inl (cA 0, 2, .inl tk)), (m4, .inl (cA 0, 2, .inl tv))] _ := hP.sub [6, 0, 7, 8, 1, 2, 3, 4, 5] rfl
                  have hD9 : va_D A [(mo, .inr (8, [.int th, .ref ms, .ref mk, .ref mv, .int (nI mm), .int (nI ml), .int (nI cnt), .ref mt, .int mp, .int mn, .int (nI mu), .ref ma, .int (nI at_), .int (nI b), .int (nI 67), .int ob, .ref m1, .ref m2, .ref m3, .ref m4, .int (nI rn), .int (nI pw), .ref mc])), (ms, .inl (cA 0, 720, .inl sa)), (mk, .inl (cA 0, 18720, .inl (upd kd p0 (tk 1)))), (mv, .inl (cA 0, 18720, .inl (upd vl p0 (tv 1)))), (mt, .inl (cA 0, 300, .inl (tx_A tn))), (m1, .inl (cA 0, 2, .inl (tx_A pa))), (m2, .inl (cA 0, 2, .inl (tx_A ps))), (m3, .inl (cA 0, 2, .inl tk)), (m4, .inl (cA 0, 2, .inl tv))] := hD.sub [6, 0, 7, 8, 1, 2, 3, 4, 5] (by decide) rfl
                  exact W.iret (v := nI 0) hx hb hr (fun T9 ht hW => ⟨⟨_, (pw, upd kd p0 (tk 1), upd vl p0 (tv 1)), rfl, dh_y (by rw [ex_l, if_pos (wn_p (by decide) q_f0 q_f1), if_neg (by decide), if_neg (by decide), if_neg (by decide), if_neg (by decide), if_neg (by decide), if_neg (by decide), ex_C, q_o]; dsimp only; rw [← hp0, if_neg q_k, if_pos q_w, if_neg q_s0]) (sn_k hR p0 t2 t5) (fr_k _ _ _ _ _ (by omega : p0 < 1040)), by rw [ht]; exact hP9, hD9⟩, hS.F ht⟩) hS.2.2 xd_Mo_doPath_253
              · have q_w : ¬ ce p0 = wt := fun z => c_111_104 (by rw [z])
                refine lv_aload_n hx hb xd_Mo_doPath_114 rfl (lv_at hl 2 rfl) ?_
                refine lv_dup hx hb xd_Mo_doPath_115 rfl ?_
                refine va_get (D := G) (ci := 8) (v := .int (nI pw)) (C := xc_Mo) (T := xf_Mo) (N := 23) hx hb hts xw_Mo hown hK.1 hP 0 rfl rfl 21 (by decide) (hts _ xm_640) (fun _ h9 => h9) rfl xd_Mo_doPath_116 ?_
                refine lv_iconst (v := nI 1) hx hb xd_Mo_doPath_119 (by decide) ?_
                refine lx_iadd (z := nI (pw + 1)) hx hb xd_Mo_doPath_120 (nI_add _ _) ?_
                refine va_put (D := G) (ci := 8) (v := .int (nI (pw + 1))) (ty := .int) (C := xc_Mo) (T := xf_Mo) (N := 23) hx hb hts xw_Mo xt_Mo xt_Mo_ok xn_Mo hown hK.1 hP hD hS 0 rfl rfl 21 (by decide) (hts _ xm_640) (fun _ h9 => h9) rfl (by decide +kernel) rfl rfl (Nat.le_of_ble_eq_true rfl) xd_Mo_doPath_121 (fun H locs hP hD hS => ?_)
                have hP : va_P G xk_cl [(mo, .inr (8, [.int th, .ref ms, .ref mk, .ref mv, .int (nI mm), .int (nI ml), .int (nI cnt), .ref mt, .int mp, .int mn, .int (nI mu), .ref ma, .int (nI at_), .int (nI b), .int (nI 67), .int ob, .ref m1, .ref m2, .ref m3, .ref m4, .int (nI rn), .int (nI (pw + 1)), .ref mc])), (ms, .inl (cA 0, 720, .inl sa)), (mk, .inl (cA 0, 18720, .inl kd)), (mv, .inl (cA 0, 18720, .inl vl)), (mt, .inl (cA 0, 300, .inl (tx_A tn))), (m1, .inl (cA 0, 2, .inl (tx_A pa))), (m2, .inl (cA 0, 2, .inl (tx_A ps))), (m3, .inl (cA 0, 2, .inl tk)), (m4, .inl (cA 0, 2, .inl tv))] H := hP
                have hD : va_D A [(mo, .inr (8, [.int th, .ref ms, .ref mk, .ref mv, .int (nI mm), .int (nI ml), .int (nI cnt), .ref mt, .int mp, .int mn, .int (nI mu), .ref ma, .int (nI at_), .int (nI b), .int (nI 67), .int ob, .ref m1, .ref m2, .ref m3, .ref m4, .int (nI rn), .int (nI (pw + 1)), .ref mc])), (ms, .inl (cA 0, 720, .inl sa)), (mk, .inl (cA 0, 18720, .inl kd)), (mv, .inl (cA 0, 18720, .inl vl)), (mt, .inl (cA 0, 300, .inl (tx_A tn))), (m1, .inl (cA 0, 2, .inl (tx_A pa))), (m2, .inl (cA 0, 2, .inl (tx_A ps))), (m3, .inl (cA 0, 2, .inl tk)), (m4, .inl (cA 0, 2, .inl tv))] := hD
                refine lv_iconst (v := nI 0) hx hb xd_Mo_doPath_124 (by decide) ?_
                have hP9 : va_P G xk_cl [(mo, .inr (8, [.int th, .ref ms, .ref mk, .ref mv, .int (nI mm), .int (nI ml), .int (nI cnt), .ref mt, .int mp, .int mn, .int (nI mu), .ref ma, .int (nI at_), .int (nI b), .int (nI 67), .int ob, .ref m1, .ref m2, .ref m3, .ref m4, .int (nI rn), .int (nI (pw + 1)), .ref mc])), (ms, .inl (cA 0, 720, .inl sa)), (mk, .inl (cA 0, 18720, .inl kd)), (mv, .inl (cA 0, 18720, .inl vl)), (mt, .inl (cA 0, 300, .inl (tx_A tn))), (m1, .inl (cA 0, 2, .inl (tx_A pa))), (m2, .inl (cA 0, 2, .inl (tx_A ps))), (m3, .inl (cA 0, 2, .inl tk)), (m4, .inl (cA 0, 2, .inl tv))] _ := hP.sub [0, 1, 2, 3, 4, 5, 6, 7, 8] rfl
                have hD9 : va_D A [(mo, .inr (8, [.int th, .ref ms, .ref mk, .ref mv, .int (nI mm), .int (nI ml), .int (nI cnt), .ref mt, .int mp, .int mn, .int (nI mu), .ref ma, .int (nI at_), .int (nI b), .int (nI 67), .int ob, .ref m1, .ref m2, .ref m3, .ref m4, .int (nI rn), .int (nI (pw + 1)), .ref mc])), (ms, .inl (cA 0, 720, .inl sa)), (mk, .inl (cA 0, 18720, .inl kd)), (mv, .inl (cA 0, 18720, .inl vl)), (mt, .inl (cA 0, 300, .inl (tx_A tn))), (m1, .inl (cA 0, 2, .inl (tx_A pa))), (m2, .inl (cA 0, 2, .inl (tx_A ps))), (m3, .inl (cA 0, 2, .inl tk)), (m4, .inl (cA 0, 2, .inl tv))] := hD.sub [0, 1, 2, 3, 4, 5, 6, 7, 8] (by decide) rfl
                exact W.iret (v := nI 0) hx hb hr (fun T9 ht hW => ⟨⟨_, (pw + 1, kd, vl), rfl, dh_p (by rw [ex_l, if_pos (wn_p (by decide) q_f0 q_f1), if_neg (by decide), if_neg (by decide), if_neg (by decide), if_neg (by decide), if_neg (by decide), if_neg (by decide), ex_C, q_o]; dsimp only; rw [← hp0, if_neg q_k, if_neg q_w]) hR, by rw [ht]; exact hP9, hD9⟩, hS.F ht⟩) hS.2.2 xd_Mo_doPath_125
          · have q_k : ce p0 = 0 := hZ _ (by omega) c_70_101
            refine lv_iconst (v := nI 5) hx hb xd_Mo_doPath_73 (by decide) ?_
            have hP9 : va_P G xk_cl [(mo, .inr (8, [.int th, .ref ms, .ref mk, .ref mv, .int (nI mm), .int (nI ml), .int (nI cnt), .ref mt, .int mp, .int mn, .int (nI mu), .ref ma, .int (nI at_), .int (nI b), .int (nI 67), .int ob, .ref m1, .ref m2, .ref m3, .ref m4, .int (nI rn), .int (nI pw), .ref mc])), (ms, .inl (cA 0, 720, .inl sa)), (mk, .inl (cA 0, 18720, .inl kd)), (mv, .inl (cA 0, 18720, .inl vl)), (mt, .inl (cA 0, 300, .inl (tx_A tn))), (m1, .inl (cA 0, 2, .inl (tx_A pa))), (m2, .inl (cA 0, 2, .inl (tx_A ps))), (m3, .inl (cA 0, 2, .inl tk)), (m4, .inl (cA 0, 2, .inl tv))] _ := hP.sub [0, 1, 2, 3, 4, 5, 6, 7, 8] rfl
            have hD9 : va_D A [(mo, .inr (8, [.int th, .ref ms, .ref mk, .ref mv, .int (nI mm), .int (nI ml), .int (nI cnt), .ref mt, .int mp, .int mn, .int (nI mu), .ref ma, .int (nI at_), .int (nI b), .int (nI 67), .int ob, .ref m1, .ref m2, .ref m3, .ref m4, .int (nI rn), .int (nI pw), .ref mc])), (ms, .inl (cA 0, 720, .inl sa)), (mk, .inl (cA 0, 18720, .inl kd)), (mv, .inl (cA 0, 18720, .inl vl)), (mt, .inl (cA 0, 300, .inl (tx_A tn))), (m1, .inl (cA 0, 2, .inl (tx_A pa))), (m2, .inl (cA 0, 2, .inl (tx_A ps))), (m3, .inl (cA 0, 2, .inl tk)), (m4, .inl (cA 0, 2, .inl tv))] := hD.sub [0, 1, 2, 3, 4, 5, 6, 7, 8] (by decide) rfl
            exact W.iret (v := nI 5) hx hb hr (fun T9 ht hW => ⟨⟨_, (pw, kd, vl), rfl, dh_n (k := 5) (by rw [ex_l, if_pos (wn_p (by decide) q_f0 q_f1), if_neg (by decide), if_neg (by decide), if_neg (by decide), if_neg (by decide), if_neg (by decide), if_neg (by decide), ex_C, q_o]; dsimp only; rw [← hp0, if_pos q_k]) (by decide) hR, by rw [ht]; exact hP9, hD9⟩, hS.F ht⟩) hS.2.2 xd_Mo_doPath_74
      · have q_f : ¬ rn_R wt = 0 ∨ ¬ rn_R gv = 0 := Or.inr c_13_92
        refine lv_iconst (v := nI 2) hx hb xd_Mo_doPath_16 (by decide) ?_
        have hP9 : va_P G xk_cl [(mo, .inr (8, [.int th, .ref ms, .ref mk, .ref mv, .int (nI mm), .int (nI ml), .int (nI cnt), .ref mt, .int mp, .int mn, .int (nI mu), .ref ma, .int (nI at_), .int (nI b), .int (nI 67), .int ob, .ref m1, .ref m2, .ref m3, .ref m4, .int (nI rn), .int (nI pw), .ref mc])), (ms, .inl (cA 0, 720, .inl sa)), (mk, .inl (cA 0, 18720, .inl kd)), (mv, .inl (cA 0, 18720, .inl vl)), (mt, .inl (cA 0, 300, .inl (tx_A tn))), (m1, .inl (cA 0, 2, .inl (tx_A pa))), (m2, .inl (cA 0, 2, .inl (tx_A ps))), (m3, .inl (cA 0, 2, .inl tk)), (m4, .inl (cA 0, 2, .inl tv))] _ := hP.sub [0, 1, 2, 3, 4, 5, 6, 7, 8] rfl
        have hD9 : va_D A [(mo, .inr (8, [.int th, .ref ms, .ref mk, .ref mv, .int (nI mm), .int (nI ml), .int (nI cnt), .ref mt, .int mp, .int mn, .int (nI mu), .ref ma, .int (nI at_), .int (nI b), .int (nI 67), .int ob, .ref m1, .ref m2, .ref m3, .ref m4, .int (nI rn), .int (nI pw), .ref mc])), (ms, .inl (cA 0, 720, .inl sa)), (mk, .inl (cA 0, 18720, .inl kd)), (mv, .inl (cA 0, 18720, .inl vl)), (mt, .inl (cA 0, 300, .inl (tx_A tn))), (m1, .inl (cA 0, 2, .inl (tx_A pa))), (m2, .inl (cA 0, 2, .inl (tx_A ps))), (m3, .inl (cA 0, 2, .inl tk)), (m4, .inl (cA 0, 2, .inl tv))] := hD.sub [0, 1, 2, 3, 4, 5, 6, 7, 8] (by decide) rfl
        exact W.iret (v := nI 2) hx hb hr (fun T9 ht hW => ⟨⟨_, (pw, kd, vl), rfl, dh_n (k := 2) (by rw [ex_l, if_neg (wn_n q_f)]) (by decide) hR, by rw [ht]; exact hP9, hD9⟩, hS.F ht⟩) hS.2.2 xd_Mo_doPath_17
