def dgt_R (c : Int32) : Int32 := if ¬ c < nI 48 ∧ ¬ nI 57 < c then nI 1 else nI 0
def fr_R (k v : Int32) : Int32 := if k = nI 2 ∧ ¬ v < nI 40 then nI 1 else nI 0
abbrev mu_P (sa kd vl : Nat → Int32) (b n : Nat) : Prop := sa n = sa (40 * b + n) ∧ ∀ k, k < 26 → (kd (26 * n + k) = kd (1040 * b + (26 * n + k)) ∧ vl (26 * n + k) = vl (1040 * b + (26 * n + k)))
def mu_R (sa kd vl : Nat → Int32) (b n : Nat) : Int32 := if mu_P sa kd vl b n then nI 0 else nI 1
set_option maxHeartbeats 4000000 in
set_option maxRecDepth 100000 in
theorem ct_Mo_look (l : Launch) (G : va_G) (cA : Nat → ClassId) (mo : Nat) (th : Int32) (ms : Nat) (mk : Nat) (mv : Nat) (mm : Nat) (ml : Nat) (cnt : Nat) (mt : Nat) (mp : Int32) (mn : Int32) (mu : Nat) (ma : Nat) (at_ : Nat) (bd : Int32) (le : Int32) (ob : Int32) (m1 : Nat) (m2 : Nat) (m3 : Nat) (m4 : Nat) (rn : Nat) (pw : Nat) (mc : Nat) (tn : Nat → Nat) (hc : cnt ≤ 300) (ha : at_ < 2147483648) : Met l xy_Mo_look (.code xy_Mo_look xb_Mo_look 1 (some .int) :: tw_W) ({ frames := 0, cells := 0, slots := 0, locals := 0 }) (pc_r G cA [(mo, .inr (8, [.int th, .ref ms, .ref mk, .ref mv, .int (nI mm), .int (nI ml), .int (nI cnt), .ref mt, .int mp, .int mn, .int (nI mu), .ref ma, .int (nI at_), .int bd, .int le, .int ob, .ref m1, .ref m2, .ref m3, .ref m4, .int (nI rn), .int (nI pw), .ref mc])), (mt, .inl (cA 0, 300, .inl (tx_A tn)))] [.ref mo]) (vp_Si (fun r : Int32 => r = sp_pk tn cnt at_)) 0 0 (fun _ => False) := by
  refine Met.ofW (cc := xb_Mo_look) (maxL := 1) (ret := (some .int)) (by decide) rfl ?_
  intro p e s m args below meth c s₁ B hml hv
  obtain ⟨rfl, hK, hP⟩ := hv
  have hx := B.exec
  have hb := B.bytes
  have hr := B.returns
  have hts0 := atoms_spec (ws := .code xy_Mo_look xb_Mo_look 1 (some .int) :: tw_W) B.pre
  have hts : ∀ w9 ∈ tw_W, w9.before [.ref mo].toArray s = true := fun w9 h9 => hts0 w9 (List.mem_cons_of_mem _ h9)
  have hown : s.vm.findClass xc_Mo = some m.cls := findClass_of_methodNamed B.named
  have hlocks := B.notSynchronized
  have hP : va_P G xk_cl [(mo, .inr (8, [.int th, .ref ms, .ref mk, .ref mv, .int (nI mm), .int (nI ml), .int (nI cnt), .ref mt, .int mp, .int mn, .int (nI mu), .ref ma, .int (nI at_), .int bd, .int le, .int ob, .ref m1, .ref m2, .ref m3, .ref m4, .int (nI rn), .int (nI pw), .ref mc])), (mt, .inl (cA 0, 300, .inl (tx_A tn)))] s.heap := hP
  have hl := lv_entry ([.ref mo]) (n := 1) (Nat.le_of_ble_eq_true rfl)
  rw [lg_entry_eq]
  generalize (lg_sl ([.ref mo]) ++ List.replicate (1 - (lg_sl ([.ref mo])).length) Slot.unset).toArray = ls at hl ⊢
  have hl : lv_has ls 1 [(0, .ref mo)] := hl
  refine lv_aload_n hx hb xd_Mo_look_0 rfl (lv_at hl 0 rfl) ?_
  refine va_get (D := G) (ci := 8) (v := .int (nI at_)) (C := xc_Mo) (T := xf_Mo) (N := 23) hx hb hts xw_Mo hown hK.1 hP 0 rfl rfl 12 (by decide) (hts _ xm_631) (fun _ h9 => h9) rfl xd_Mo_look_1 ?_
  refine lv_aload_n hx hb xd_Mo_look_4 rfl (lv_at hl 0 rfl) ?_
  refine va_get (D := G) (ci := 8) (v := .int (nI cnt)) (C := xc_Mo) (T := xf_Mo) (N := 23) hx hb hts xw_Mo hown hK.1 hP 0 rfl rfl 6 (by decide) (hts _ xm_625) (fun _ h9 => h9) rfl xd_Mo_look_5 ?_
  refine lv_icmp_ge (tgt := 23) hx hb xd_Mo_look_8 (by decide) (fun c_8_0 => ?_) (fun c_8_0 => ?_)
  · have q_a := nI_gle (by omega) (by omega) c_8_0
    refine lv_iconst (v := (-1)) hx hb xd_Mo_look_23 (by decide) ?_
    exact W.iret (v := (-1)) hx hb hr (fun T9 ht _ => ⟨_, rfl, (sp_pk_f (by omega)).symm, ht⟩) (fun _ h => absurd h List.not_mem_nil) xd_Mo_look_24
  · have q_a := nI_gnl (by omega) (by omega) c_8_0
    refine lv_aload_n hx hb xd_Mo_look_11 rfl (lv_at hl 0 rfl) ?_
    refine va_get (D := G) (ci := 8) (v := .ref mt) (C := xc_Mo) (T := xf_Mo) (N := 23) hx hb hts xw_Mo hown hK.1 hP 0 rfl rfl 7 (by decide) (hts _ xm_626) (fun _ h9 => h9) rfl xd_Mo_look_12 ?_
    refine lv_aload_n hx hb xd_Mo_look_15 rfl (lv_at hl 0 rfl) ?_
    refine va_get (D := G) (ci := 8) (v := .int (nI at_)) (C := xc_Mo) (T := xf_Mo) (N := 23) hx hb hts xw_Mo hown hK.1 hP 0 rfl rfl 12 (by decide) (hts _ xm_631) (fun _ h9 => h9) rfl xd_Mo_look_16 ?_
    refine wx_iald hx hb hK.1 hP 1 0 rfl rfl (k := at_) (by omega) (by decide) xd_Mo_look_19 ?_
    refine lv_goto (tgt := 24) hx hb xd_Mo_look_20 (by decide) ?_
    exact W.iret (v := (tx_A tn) at_) hx hb hr (fun T9 ht _ => ⟨_, rfl, (sp_pk_t q_a).symm, ht⟩) (fun _ h => absurd h List.not_mem_nil) xd_Mo_look_24
set_option maxHeartbeats 4000000 in
set_option maxRecDepth 100000 in
theorem ct_Mo_isDigit (l : Launch) (G : va_G) (cA : Nat → ClassId) (c0 : Int32) : Met l xy_Mo_isDigit (.code xy_Mo_isDigit xb_Mo_isDigit 1 (some .boolean) :: tw_W) ({ frames := 0, cells := 0, slots := 0, locals := 0 }) (pc_r G cA [] [.int c0]) (vp_Si (fun r : Int32 => r = dgt_R c0)) 0 0 (fun _ => False) := by
  refine Met.ofW (cc := xb_Mo_isDigit) (maxL := 1) (ret := (some .boolean)) (by decide) rfl ?_
  intro p e s m args below meth c s₁ B hml hv
  obtain ⟨rfl, hK, hP⟩ := hv
  have hx := B.exec
  have hb := B.bytes
  have hr := B.returns
  have hts0 := atoms_spec (ws := .code xy_Mo_isDigit xb_Mo_isDigit 1 (some .boolean) :: tw_W) B.pre
  have hts : ∀ w9 ∈ tw_W, w9.before [.int c0].toArray s = true := fun w9 h9 => hts0 w9 (List.mem_cons_of_mem _ h9)
  have hown : s.vm.findClass xc_Mo = some m.cls := findClass_of_methodNamed B.named
  have hlocks := B.notSynchronized
  have hP : va_P G xk_cl [] s.heap := hP
  have hl := lv_entry ([.int c0]) (n := 1) (Nat.le_of_ble_eq_true rfl)
  rw [lg_entry_eq]
  generalize (lg_sl ([.int c0]) ++ List.replicate (1 - (lg_sl ([.int c0])).length) Slot.unset).toArray = ls at hl ⊢
  have hl : lv_has ls 1 [(0, .int c0)] := hl
  refine lv_iload_n hx hb xd_Mo_isDigit_0 rfl (lv_at hl 0 rfl) ?_
  refine lv_bipush (v := nI 48) hx hb xd_Mo_isDigit_1 (by decide) ?_
  refine lv_icmp_lt (tgt := 16) hx hb xd_Mo_isDigit_3 (by decide) (fun c_3_0 => ?_) (fun c_3_0 => ?_)
  · refine lv_iconst (v := nI 0) hx hb xd_Mo_isDigit_16 (by decide) ?_
    exact W.zret (v := nI 0) (ty := .boolean) hx hb hr (by decide) (fun T9 ht _ => ⟨_, rfl, by simp [dgt_R, c_3_0], ht⟩) (fun _ h => absurd h List.not_mem_nil) xd_Mo_isDigit_17
  · refine lv_iload_n hx hb xd_Mo_isDigit_6 rfl (lv_at hl 0 rfl) ?_
    refine lv_bipush (v := nI 57) hx hb xd_Mo_isDigit_7 (by decide) ?_
    refine lv_icmp_gt (tgt := 16) hx hb xd_Mo_isDigit_9 (by decide) (fun c_9_1 => ?_) (fun c_9_1 => ?_)
    · refine lv_iconst (v := nI 0) hx hb xd_Mo_isDigit_16 (by decide) ?_
      exact W.zret (v := nI 0) (ty := .boolean) hx hb hr (by decide) (fun T9 ht _ => ⟨_, rfl, by simp [dgt_R, c_3_0, c_9_1], ht⟩) (fun _ h => absurd h List.not_mem_nil) xd_Mo_isDigit_17
    · refine lv_iconst (v := nI 1) hx hb xd_Mo_isDigit_12 (by decide) ?_
      refine lv_goto (tgt := 17) hx hb xd_Mo_isDigit_13 (by decide) ?_
      exact W.zret (v := nI 1) (ty := .boolean) hx hb hr (by decide) (fun T9 ht _ => ⟨_, rfl, by simp [dgt_R, c_3_0, c_9_1], ht⟩) (fun _ h => absurd h List.not_mem_nil) xd_Mo_isDigit_17
set_option maxHeartbeats 4000000 in
set_option maxRecDepth 100000 in
theorem ct_Mo_put (l : Launch) (G : va_G) (cA : Nat → ClassId) (sz : Nat) (mo : Nat) (th : Int32) (ms : Nat) (mk : Nat) (mv : Nat) (mm : Nat) (ml : Nat) (cnt : Nat) (mt : Nat) (mp : Int32) (mn : Int32) (mu : Nat) (ma : Nat) (at_ : Nat) (bd : Int32) (le : Int32) (ob : Int32) (m1 : Nat) (m2 : Nat) (m3 : Nat) (m4 : Nat) (rn : Nat) (pw : Nat) (mc : Nat) (kd : Nat → Int32) (vl : Nat → Int32) (k : Nat) (a : Int32) (b : Int32) (hk : k < 1040) : Met l xy_Mo_put (.code xy_Mo_put xb_Mo_put 4 none :: tw_W) ({ frames := 0, cells := 0, slots := 0, locals := 0 }) (pc_w G cA [(mo, .inr (8, [.int th, .ref ms, .ref mk, .ref mv, .int (nI mm), .int (nI ml), .int (nI cnt), .ref mt, .int mp, .int mn, .int (nI mu), .ref ma, .int (nI at_), .int bd, .int le, .int ob, .ref m1, .ref m2, .ref m3, .ref m4, .int (nI rn), .int (nI pw), .ref mc])), (mk, .inl (cA 0, 18720, .inl kd)), (mv, .inl (cA 0, 18720, .inl vl))] sz [.ref mo, .int (nI k), .int a, .int b]) (va_Qv (fun _ : Unit => True) (fun _ T9 => at_w G (va_A [(mo, .inr (8, [.int th, .ref ms, .ref mk, .ref mv, .int (nI mm), .int (nI ml), .int (nI cnt), .ref mt, .int mp, .int mn, .int (nI mu), .ref ma, .int (nI at_), .int bd, .int le, .int ob, .ref m1, .ref m2, .ref m3, .ref m4, .int (nI rn), .int (nI pw), .ref mc])), (mk, .inl (cA 0, 18720, .inl kd)), (mv, .inl (cA 0, 18720, .inl vl))] sz) [(mo, .inr (8, [.int th, .ref ms, .ref mk, .ref mv, .int (nI mm), .int (nI ml), .int (nI cnt), .ref mt, .int mp, .int mn, .int (nI mu), .ref ma, .int (nI at_), .int bd, .int le, .int ob, .ref m1, .ref m2, .ref m3, .ref m4, .int (nI rn), .int (nI pw), .ref mc])), (mk, .inl (cA 0, 18720, .inl (upd kd k a))), (mv, .inl (cA 0, 18720, .inl (upd vl k b)))] T9) (va_A [(mo, .inr (8, [.int th, .ref ms, .ref mk, .ref mv, .int (nI mm), .int (nI ml), .int (nI cnt), .ref mt, .int mp, .int mn, .int (nI mu), .ref ma, .int (nI at_), .int bd, .int le, .int ob, .ref m1, .ref m2, .ref m3, .ref m4, .int (nI rn), .int (nI pw), .ref mc])), (mk, .inl (cA 0, 18720, .inl kd)), (mv, .inl (cA 0, 18720, .inl vl))] sz)) 0 0 (va_A [(mo, .inr (8, [.int th, .ref ms, .ref mk, .ref mv, .int (nI mm), .int (nI ml), .int (nI cnt), .ref mt, .int mp, .int mn, .int (nI mu), .ref ma, .int (nI at_), .int bd, .int le, .int ob, .ref m1, .ref m2, .ref m3, .ref m4, .int (nI rn), .int (nI pw), .ref mc])), (mk, .inl (cA 0, 18720, .inl kd)), (mv, .inl (cA 0, 18720, .inl vl))] sz) := by
  refine Met.ofW (cc := xb_Mo_put) (maxL := 4) (ret := none) (by decide) rfl ?_
  intro p e s m args below meth c s₁ B hml hv
  obtain ⟨rfl, hsz, hK, hP, hD0⟩ := hv
  have hx := B.exec
  have hb := B.bytes
  have hr := B.returns
  have hts0 := atoms_spec (ws := .code xy_Mo_put xb_Mo_put 4 none :: tw_W) B.pre
  have hts : ∀ w9 ∈ tw_W, w9.before [.ref mo, .int (nI k), .int a, .int b].toArray s = true := fun w9 h9 => hts0 w9 (List.mem_cons_of_mem _ h9)
  have hown : s.vm.findClass xc_Mo = some m.cls := findClass_of_methodNamed B.named
  have hlocks := B.notSynchronized
  subst hsz
  have hD := hD0.self (sz := s.heap.size)
  generalize hAe : va_A [(mo, .inr (8, [.int th, .ref ms, .ref mk, .ref mv, .int (nI mm), .int (nI ml), .int (nI cnt), .ref mt, .int mp, .int mn, .int (nI mu), .ref ma, .int (nI at_), .int bd, .int le, .int ob, .ref m1, .ref m2, .ref m3, .ref m4, .int (nI rn), .int (nI pw), .ref mc])), (mk, .inl (cA 0, 18720, .inl kd)), (mv, .inl (cA 0, 18720, .inl vl))] s.heap.size = A at hD ⊢
  have hA : ∀ q : Nat, s.heap.size ≤ q → A q := fun q h => by rw [← hAe]; exact Or.inr h
  have hS : va_S A s.heap s.heap [] := va_S.rf
  have hP : va_P G xk_cl [(mo, .inr (8, [.int th, .ref ms, .ref mk, .ref mv, .int (nI mm), .int (nI ml), .int (nI cnt), .ref mt, .int mp, .int mn, .int (nI mu), .ref ma, .int (nI at_), .int bd, .int le, .int ob, .ref m1, .ref m2, .ref m3, .ref m4, .int (nI rn), .int (nI pw), .ref mc])), (mk, .inl (cA 0, 18720, .inl kd)), (mv, .inl (cA 0, 18720, .inl vl))] s.heap := hP
  have hl := lv_entry ([.ref mo, .int (nI k), .int a, .int b]) (n := 4) (Nat.le_of_ble_eq_true rfl)
  rw [lg_entry_eq]
  generalize (lg_sl ([.ref mo, .int (nI k), .int a, .int b]) ++ List.replicate (4 - (lg_sl ([.ref mo, .int (nI k), .int a, .int b])).length) Slot.unset).toArray = ls at hl ⊢
  have hl : lv_has ls 4 [(0, .ref mo), (1, .int (nI k)), (2, .int a), (3, .int b)] := hl
  refine lv_aload_n hx hb xd_Mo_put_0 rfl (lv_at hl 0 rfl) ?_
  refine va_get (D := G) (ci := 8) (v := .ref mk) (C := xc_Mo) (T := xf_Mo) (N := 23) hx hb hts xw_Mo hown hK.1 hP 0 rfl rfl 2 (by decide) (hts _ xm_621) (fun _ h9 => h9) rfl xd_Mo_put_1 ?_
  refine lv_iload_n hx hb xd_Mo_put_4 rfl (lv_at hl 1 rfl) ?_
  refine lv_iload_n hx hb xd_Mo_put_5 rfl (lv_at hl 2 rfl) ?_
  refine wx_iast hx hb hK.1 hP hD hS 1 0 rfl rfl (k := k) (z := a) (rfl) (by omega) (by decide) xd_Mo_put_6 (fun H locs hP hD hS => ?_)
  have hP : va_P G xk_cl [(mo, .inr (8, [.int th, .ref ms, .ref mk, .ref mv, .int (nI mm), .int (nI ml), .int (nI cnt), .ref mt, .int mp, .int mn, .int (nI mu), .ref ma, .int (nI at_), .int bd, .int le, .int ob, .ref m1, .ref m2, .ref m3, .ref m4, .int (nI rn), .int (nI pw), .ref mc])), (mk, .inl (cA 0, 18720, .inl (upd kd k a))), (mv, .inl (cA 0, 18720, .inl vl))] H := hP
  have hD : va_D A [(mo, .inr (8, [.int th, .ref ms, .ref mk, .ref mv, .int (nI mm), .int (nI ml), .int (nI cnt), .ref mt, .int mp, .int mn, .int (nI mu), .ref ma, .int (nI at_), .int bd, .int le, .int ob, .ref m1, .ref m2, .ref m3, .ref m4, .int (nI rn), .int (nI pw), .ref mc])), (mk, .inl (cA 0, 18720, .inl (upd kd k a))), (mv, .inl (cA 0, 18720, .inl vl))] := hD
  refine lv_aload_n hx hb xd_Mo_put_7 rfl (lv_at hl 0 rfl) ?_
  refine va_get (D := G) (ci := 8) (v := .ref mv) (C := xc_Mo) (T := xf_Mo) (N := 23) hx hb hts xw_Mo hown hK.1 hP 0 rfl rfl 3 (by decide) (hts _ xm_622) (fun _ h9 => h9) rfl xd_Mo_put_8 ?_
  refine lv_iload_n hx hb xd_Mo_put_11 rfl (lv_at hl 1 rfl) ?_
  refine lv_iload_n hx hb xd_Mo_put_12 rfl (lv_at hl 3 rfl) ?_
  refine wx_iast hx hb hK.1 hP hD hS 2 0 rfl rfl (k := k) (z := b) (rfl) (by omega) (by decide) xd_Mo_put_13 (fun H locs hP hD hS => ?_)
  have hP : va_P G xk_cl [(mo, .inr (8, [.int th, .ref ms, .ref mk, .ref mv, .int (nI mm), .int (nI ml), .int (nI cnt), .ref mt, .int mp, .int mn, .int (nI mu), .ref ma, .int (nI at_), .int bd, .int le, .int ob, .ref m1, .ref m2, .ref m3, .ref m4, .int (nI rn), .int (nI pw), .ref mc])), (mk, .inl (cA 0, 18720, .inl (upd kd k a))), (mv, .inl (cA 0, 18720, .inl (upd vl k b)))] H := hP
  have hD : va_D A [(mo, .inr (8, [.int th, .ref ms, .ref mk, .ref mv, .int (nI mm), .int (nI ml), .int (nI cnt), .ref mt, .int mp, .int mn, .int (nI mu), .ref ma, .int (nI at_), .int bd, .int le, .int ob, .ref m1, .ref m2, .ref m3, .ref m4, .int (nI rn), .int (nI pw), .ref mc])), (mk, .inl (cA 0, 18720, .inl (upd kd k a))), (mv, .inl (cA 0, 18720, .inl (upd vl k b)))] := hD
  have hP9 : va_P G xk_cl [(mo, .inr (8, [.int th, .ref ms, .ref mk, .ref mv, .int (nI mm), .int (nI ml), .int (nI cnt), .ref mt, .int mp, .int mn, .int (nI mu), .ref ma, .int (nI at_), .int bd, .int le, .int ob, .ref m1, .ref m2, .ref m3, .ref m4, .int (nI rn), .int (nI pw), .ref mc])), (mk, .inl (cA 0, 18720, .inl (upd kd k a))), (mv, .inl (cA 0, 18720, .inl (upd vl k b)))] _ := hP.sub [0, 1, 2] rfl
  have hD9 : va_D A [(mo, .inr (8, [.int th, .ref ms, .ref mk, .ref mv, .int (nI mm), .int (nI ml), .int (nI cnt), .ref mt, .int mp, .int mn, .int (nI mu), .ref ma, .int (nI at_), .int bd, .int le, .int ob, .ref m1, .ref m2, .ref m3, .ref m4, .int (nI rn), .int (nI pw), .ref mc])), (mk, .inl (cA 0, 18720, .inl (upd kd k a))), (mv, .inl (cA 0, 18720, .inl (upd vl k b)))] := hD.sub [0, 1, 2] (by decide) rfl
  exact W.vret hx hb hr (fun T9 ht hW => ⟨⟨(), rfl, trivial, by rw [ht]; exact hP9, hD9⟩, hS.F ht⟩) hS.2.2 xd_Mo_put_14
set_option maxHeartbeats 4000000 in
set_option maxRecDepth 100000 in
theorem ct_Mo_isFar (l : Launch) (G : va_G) (cA : Nat → ClassId) (mo : Nat) (th : Int32) (ms : Nat) (mk : Nat) (mv : Nat) (mm : Nat) (ml : Nat) (cnt : Nat) (mt : Nat) (mp : Int32) (mn : Int32) (mu : Nat) (ma : Nat) (at_ : Nat) (bd : Int32) (le : Int32) (ob : Int32) (m1 : Nat) (m2 : Nat) (m3 : Nat) (m4 : Nat) (rn : Nat) (pw : Nat) (mc : Nat) (tk : Nat → Int32) (tv : Nat → Int32) (w : Nat) (hw : w < 2) : Met l xy_Mo_isFar (.code xy_Mo_isFar xb_Mo_isFar 2 (some .boolean) :: tw_W) ({ frames := 0, cells := 0, slots := 0, locals := 0 }) (pc_r G cA [(mo, .inr (8, [.int th, .ref ms, .ref mk, .ref mv, .int (nI mm), .int (nI ml), .int (nI cnt), .ref mt, .int mp, .int mn, .int (nI mu), .ref ma, .int (nI at_), .int bd, .int le, .int ob, .ref m1, .ref m2, .ref m3, .ref m4, .int (nI rn), .int (nI pw), .ref mc])), (m3, .inl (cA 0, 2, .inl tk)), (m4, .inl (cA 0, 2, .inl tv))] [.ref mo, .int (nI w)]) (vp_Si (fun r : Int32 => r = fr_R (tk w) (tv w))) 0 0 (fun _ => False) := by
  refine Met.ofW (cc := xb_Mo_isFar) (maxL := 2) (ret := (some .boolean)) (by decide) rfl ?_
  intro p e s m args below meth c s₁ B hml hv
  obtain ⟨rfl, hK, hP⟩ := hv
  have hx := B.exec
  have hb := B.bytes
  have hr := B.returns
  have hts0 := atoms_spec (ws := .code xy_Mo_isFar xb_Mo_isFar 2 (some .boolean) :: tw_W) B.pre
  have hts : ∀ w9 ∈ tw_W, w9.before [.ref mo, .int (nI w)].toArray s = true := fun w9 h9 => hts0 w9 (List.mem_cons_of_mem _ h9)
  have hown : s.vm.findClass xc_Mo = some m.cls := findClass_of_methodNamed B.named
  have hlocks := B.notSynchronized
  have hP : va_P G xk_cl [(mo, .inr (8, [.int th, .ref ms, .ref mk, .ref mv, .int (nI mm), .int (nI ml), .int (nI cnt), .ref mt, .int mp, .int mn, .int (nI mu), .ref ma, .int (nI at_), .int bd, .int le, .int ob, .ref m1, .ref m2, .ref m3, .ref m4, .int (nI rn), .int (nI pw), .ref mc])), (m3, .inl (cA 0, 2, .inl tk)), (m4, .inl (cA 0, 2, .inl tv))] s.heap := hP
  have hl := lv_entry ([.ref mo, .int (nI w)]) (n := 2) (Nat.le_of_ble_eq_true rfl)
  rw [lg_entry_eq]
  generalize (lg_sl ([.ref mo, .int (nI w)]) ++ List.replicate (2 - (lg_sl ([.ref mo, .int (nI w)])).length) Slot.unset).toArray = ls at hl ⊢
  have hl : lv_has ls 2 [(0, .ref mo), (1, .int (nI w))] := hl
  refine lv_aload_n hx hb xd_Mo_isFar_0 rfl (lv_at hl 0 rfl) ?_
  refine va_get (D := G) (ci := 8) (v := .ref m3) (C := xc_Mo) (T := xf_Mo) (N := 23) hx hb hts xw_Mo hown hK.1 hP 0 rfl rfl 18 (by decide) (hts _ xm_637) (fun _ h9 => h9) rfl xd_Mo_isFar_1 ?_
  refine lv_iload_n hx hb xd_Mo_isFar_4 rfl (lv_at hl 1 rfl) ?_
  refine wx_iald hx hb hK.1 hP 1 0 rfl rfl (k := w) (by omega) (by decide) xd_Mo_isFar_5 ?_
  refine lv_iconst (v := nI 2) hx hb xd_Mo_isFar_6 (by decide) ?_
  refine lv_icmp_ne (tgt := 25) hx hb xd_Mo_isFar_7 (by decide) (fun c_7_0 => ?_) (fun c_7_0 => ?_)
  · refine lv_iconst (v := nI 0) hx hb xd_Mo_isFar_25 (by decide) ?_
    exact W.zret (v := nI 0) (ty := .boolean) hx hb hr (by decide) (fun T9 ht _ => ⟨_, rfl, by simp [fr_R, c_7_0], ht⟩) (fun _ h => absurd h List.not_mem_nil) xd_Mo_isFar_26
  · refine lv_aload_n hx hb xd_Mo_isFar_10 rfl (lv_at hl 0 rfl) ?_
    refine va_get (D := G) (ci := 8) (v := .ref m4) (C := xc_Mo) (T := xf_Mo) (N := 23) hx hb hts xw_Mo hown hK.1 hP 0 rfl rfl 19 (by decide) (hts _ xm_638) (fun _ h9 => h9) rfl xd_Mo_isFar_11 ?_
    refine lv_iload_n hx hb xd_Mo_isFar_14 rfl (lv_at hl 1 rfl) ?_
    refine wx_iald hx hb hK.1 hP 2 0 rfl rfl (k := w) (by omega) (by decide) xd_Mo_isFar_15 ?_
    refine lv_bipush (v := nI 40) hx hb xd_Mo_isFar_16 (by decide) ?_
    refine lv_icmp_lt (tgt := 25) hx hb xd_Mo_isFar_18 (by decide) (fun c_18_1 => ?_) (fun c_18_1 => ?_)
    · refine lv_iconst (v := nI 0) hx hb xd_Mo_isFar_25 (by decide) ?_
      exact W.zret (v := nI 0) (ty := .boolean) hx hb hr (by decide) (fun T9 ht _ => ⟨_, rfl, by simp [fr_R, c_7_0, c_18_1], ht⟩) (fun _ h => absurd h List.not_mem_nil) xd_Mo_isFar_26
    · refine lv_iconst (v := nI 1) hx hb xd_Mo_isFar_21 (by decide) ?_
      refine lv_goto (tgt := 26) hx hb xd_Mo_isFar_22 (by decide) ?_
      exact W.zret (v := nI 1) (ty := .boolean) hx hb hr (by decide) (fun T9 ht _ => ⟨_, rfl, by simp [fr_R, c_7_0, c_18_1], ht⟩) (fun _ h => absurd h List.not_mem_nil) xd_Mo_isFar_26
set_option maxHeartbeats 4000000 in
set_option maxRecDepth 100000 in
theorem ct_Mo_isShut (l : Launch) (G : va_G) (cA : Nat → ClassId) (mo : Nat) (th : Int32) (ms : Nat) (mk : Nat) (mv : Nat) (mm : Nat) (ml : Nat) (cnt : Nat) (mt : Nat) (mp : Int32) (mn : Int32) (mu : Nat) (ma : Nat) (at_ : Nat) (bd : Int32) (le : Int32) (ob : Int32) (m1 : Nat) (m2 : Nat) (m3 : Nat) (m4 : Nat) (rn : Nat) (pw : Nat) (mc : Nat) (sa : Nat → Int32) (n : Nat) (fo : Int32) (hn : n < 40) : Met l xy_Mo_isShut (.code xy_Mo_isShut xb_Mo_isShut 3 (some .boolean) :: tw_W) ({ frames := 0, cells := 0, slots := 0, locals := 0 }) (pc_r G cA [(mo, .inr (8, [.int th, .ref ms, .ref mk, .ref mv, .int (nI mm), .int (nI ml), .int (nI cnt), .ref mt, .int mp, .int mn, .int (nI mu), .ref ma, .int (nI at_), .int bd, .int le, .int ob, .ref m1, .ref m2, .ref m3, .ref m4, .int (nI rn), .int (nI pw), .ref mc])), (ms, .inl (cA 0, 720, .inl sa))] [.ref mo, .int (nI n), .int fo]) (vp_Si (fun r : Int32 => r = cl_D fo (sa n))) 0 0 (fun _ => False) := by
  refine Met.ofW (cc := xb_Mo_isShut) (maxL := 3) (ret := (some .boolean)) (by decide) rfl ?_
  intro p e s m args below meth c s₁ B hml hv
  obtain ⟨rfl, hK, hP⟩ := hv
  have hx := B.exec
  have hb := B.bytes
  have hr := B.returns
  have hts0 := atoms_spec (ws := .code xy_Mo_isShut xb_Mo_isShut 3 (some .boolean) :: tw_W) B.pre
  have hts : ∀ w9 ∈ tw_W, w9.before [.ref mo, .int (nI n), .int fo].toArray s = true := fun w9 h9 => hts0 w9 (List.mem_cons_of_mem _ h9)
  have hown : s.vm.findClass xc_Mo = some m.cls := findClass_of_methodNamed B.named
  have hlocks := B.notSynchronized
  have hP : va_P G xk_cl [(mo, .inr (8, [.int th, .ref ms, .ref mk, .ref mv, .int (nI mm), .int (nI ml), .int (nI cnt), .ref mt, .int mp, .int mn, .int (nI mu), .ref ma, .int (nI at_), .int bd, .int le, .int ob, .ref m1, .ref m2, .ref m3, .ref m4, .int (nI rn), .int (nI pw), .ref mc])), (ms, .inl (cA 0, 720, .inl sa))] s.heap := hP
  have hl := lv_entry ([.ref mo, .int (nI n), .int fo]) (n := 3) (Nat.le_of_ble_eq_true rfl)
  rw [lg_entry_eq]
  generalize (lg_sl ([.ref mo, .int (nI n), .int fo]) ++ List.replicate (3 - (lg_sl ([.ref mo, .int (nI n), .int fo])).length) Slot.unset).toArray = ls at hl ⊢
  have hl : lv_has ls 3 [(0, .ref mo), (1, .int (nI n)), (2, .int fo)] := hl
  refine lv_aload_n hx hb xd_Mo_isShut_0 rfl (lv_at hl 0 rfl) ?_
  refine va_get (D := G) (ci := 8) (v := .ref ms) (C := xc_Mo) (T := xf_Mo) (N := 23) hx hb hts xw_Mo hown hK.1 hP 0 rfl rfl 1 (by decide) (hts _ xm_620) (fun _ h9 => h9) rfl xd_Mo_isShut_1 ?_
  refine lv_iload_n hx hb xd_Mo_isShut_4 rfl (lv_at hl 1 rfl) ?_
  refine wx_iald hx hb hK.1 hP 1 0 rfl rfl (k := n) (by omega) (by decide) xd_Mo_isShut_5 ?_
  refine lv_iconst (v := nI 2) hx hb xd_Mo_isShut_6 (by decide) ?_
  refine lv_icmp_ne (tgt := 18) hx hb xd_Mo_isShut_7 (by decide) (fun c_7_0 => ?_) (fun c_7_0 => ?_)
  · refine lv_iconst (v := nI 0) hx hb xd_Mo_isShut_18 (by decide) ?_
    exact W.zret (v := nI 0) (ty := .boolean) hx hb hr (by decide) (fun T9 ht _ => ⟨_, rfl, by simp [cl_D, c_7_0], ht⟩) (fun _ h => absurd h List.not_mem_nil) xd_Mo_isShut_19
  · refine lv_iload_n hx hb xd_Mo_isShut_10 rfl (lv_at hl 2 rfl) ?_
    refine lv_if_ne (tgt := 18) hx hb xd_Mo_isShut_11 (by decide) (fun c_11_1 => ?_) (fun c_11_1 => ?_)
    · refine lv_iconst (v := nI 0) hx hb xd_Mo_isShut_18 (by decide) ?_
      exact W.zret (v := nI 0) (ty := .boolean) hx hb hr (by decide) (fun T9 ht _ => ⟨_, rfl, by simp [cl_D, c_7_0, c_11_1], ht⟩) (fun _ h => absurd h List.not_mem_nil) xd_Mo_isShut_19
    · refine lv_iconst (v := nI 1) hx hb xd_Mo_isShut_14 (by decide) ?_
      refine lv_goto (tgt := 19) hx hb xd_Mo_isShut_15 (by decide) ?_
      exact W.zret (v := nI 1) (ty := .boolean) hx hb hr (by decide) (fun T9 ht _ => ⟨_, rfl, by simp [cl_D, c_7_0, c_11_1], ht⟩) (fun _ h => absurd h List.not_mem_nil) xd_Mo_isShut_19
theorem in_0 {x : Int32} (h : in_R x (nI 32) (nI 126) = 0) (cnt : Nat) : ¬ (¬ x < nI 32 ∧ ¬ nI 126 < x ∧ cnt < 300) := fun z => by
  unfold in_R at h
  rw [if_pos ⟨z.1, z.2.1⟩] at h
  exact absurd h (by decide)
theorem in_1 {x : Int32} (h : ¬ in_R x (nI 32) (nI 126) = 0) : ¬ x < nI 32 ∧ ¬ nI 126 < x := Classical.byContradiction fun z => h (by unfold in_R; rw [if_neg z]; rfl)
set_option maxHeartbeats 4000000 in
set_option maxRecDepth 100000 in
theorem ct_Mo_sign (l : Launch) (G : va_G) (cA : Nat → ClassId) (sz : Nat) (mo : Nat) (th : Int32) (ms : Nat) (mk : Nat) (mv : Nat) (mm : Nat) (ml : Nat) (cnt : Nat) (mt : Nat) (mp : Int32) (mn : Int32) (mu : Nat) (ma : Nat) (at_ : Nat) (bd : Int32) (le : Int32) (ob : Int32) (m1 : Nat) (m2 : Nat) (m3 : Nat) (m4 : Nat) (rn : Nat) (pw : Nat) (mc : Nat) (tn : Nat → Nat) (hc : cnt ≤ 300) (x0 : Int32) : Met l xy_Mo_sign (.code xy_Mo_sign xb_Mo_sign 2 (some .boolean) :: tw_W) ({ frames := 1, cells := 0, slots := 0, locals := 22 }) (pc_w G cA [(mo, .inr (8, [.int th, .ref ms, .ref mk, .ref mv, .int (nI mm), .int (nI ml), .int (nI cnt), .ref mt, .int mp, .int mn, .int (nI mu), .ref ma, .int (nI at_), .int bd, .int le, .int ob, .ref m1, .ref m2, .ref m3, .ref m4, .int (nI rn), .int (nI pw), .ref mc])), (mt, .inl (cA 0, 300, .inl (tx_A tn)))] sz [.ref mo, .int x0]) (va_Qi (fun (r : Int32) (_ : Unit) => r = ap_R cnt x0) (fun _ T9 => at_w G (va_A [(mo, .inr (8, [.int th, .ref ms, .ref mk, .ref mv, .int (nI mm), .int (nI ml), .int (nI cnt), .ref mt, .int mp, .int mn, .int (nI mu), .ref ma, .int (nI at_), .int bd, .int le, .int ob, .ref m1, .ref m2, .ref m3, .ref m4, .int (nI rn), .int (nI pw), .ref mc])), (mt, .inl (cA 0, 300, .inl (tx_A tn)))] sz) [(mo, .inr (8, [.int (nI 0), .ref ms, .ref mk, .ref mv, .int (nI mm), .int (nI ml), .int (nI (ap_C cnt x0)), .ref mt, .int mp, .int mn, .int (nI mu), .ref ma, .int (nI at_), .int bd, .int le, .int ob, .ref m1, .ref m2, .ref m3, .ref m4, .int (nI rn), .int (nI pw), .ref mc])), (mt, .inl (cA 0, 300, .inl (tx_A (ap_T tn cnt x0))))] T9) (va_A [(mo, .inr (8, [.int th, .ref ms, .ref mk, .ref mv, .int (nI mm), .int (nI ml), .int (nI cnt), .ref mt, .int mp, .int mn, .int (nI mu), .ref ma, .int (nI at_), .int bd, .int le, .int ob, .ref m1, .ref m2, .ref m3, .ref m4, .int (nI rn), .int (nI pw), .ref mc])), (mt, .inl (cA 0, 300, .inl (tx_A tn)))] sz)) 0 0 (va_A [(mo, .inr (8, [.int th, .ref ms, .ref mk, .ref mv, .int (nI mm), .int (nI ml), .int (nI cnt), .ref mt, .int mp, .int mn, .int (nI mu), .ref ma, .int (nI at_), .int bd, .int le, .int ob, .ref m1, .ref m2, .ref m3, .ref m4, .int (nI rn), .int (nI pw), .ref mc])), (mt, .inl (cA 0, 300, .inl (tx_A tn)))] sz) := by
  refine Met.ofW (cc := xb_Mo_sign) (maxL := 2) (ret := (some .boolean)) (by decide) rfl ?_
  intro p e s m args below meth c s₁ B hml hv
  obtain ⟨rfl, hsz, hK, hP, hD0⟩ := hv
  have hx := B.exec
  have hb := B.bytes
  have hr := B.returns
  have hts0 := atoms_spec (ws := .code xy_Mo_sign xb_Mo_sign 2 (some .boolean) :: tw_W) B.pre
  have hts : ∀ w9 ∈ tw_W, w9.before [.ref mo, .int x0].toArray s = true := fun w9 h9 => hts0 w9 (List.mem_cons_of_mem _ h9)
  have hown : s.vm.findClass xc_Mo = some m.cls := findClass_of_methodNamed B.named
  have hlocks := B.notSynchronized
  subst hsz
  have hD := hD0.self (sz := s.heap.size)
  generalize hAe : va_A [(mo, .inr (8, [.int th, .ref ms, .ref mk, .ref mv, .int (nI mm), .int (nI ml), .int (nI cnt), .ref mt, .int mp, .int mn, .int (nI mu), .ref ma, .int (nI at_), .int bd, .int le, .int ob, .ref m1, .ref m2, .ref m3, .ref m4, .int (nI rn), .int (nI pw), .ref mc])), (mt, .inl (cA 0, 300, .inl (tx_A tn)))] s.heap.size = A at hD ⊢
  have hA : ∀ q : Nat, s.heap.size ≤ q → A q := fun q h => by rw [← hAe]; exact Or.inr h
  have hS : va_S A s.heap s.heap [] := va_S.rf
  have hP : va_P G xk_cl [(mo, .inr (8, [.int th, .ref ms, .ref mk, .ref mv, .int (nI mm), .int (nI ml), .int (nI cnt), .ref mt, .int mp, .int mn, .int (nI mu), .ref ma, .int (nI at_), .int bd, .int le, .int ob, .ref m1, .ref m2, .ref m3, .ref m4, .int (nI rn), .int (nI pw), .ref mc])), (mt, .inl (cA 0, 300, .inl (tx_A tn)))] s.heap := hP
  have hl := lv_entry ([.ref mo, .int x0]) (n := 2) (Nat.le_of_ble_eq_true rfl)
  rw [lg_entry_eq]
  generalize (lg_sl ([.ref mo, .int x0]) ++ List.replicate (2 - (lg_sl ([.ref mo, .int x0])).length) Slot.unset).toArray = ls at hl ⊢
  have hl : lv_has ls 2 [(0, .ref mo), (1, .int x0)] := hl
  refine lv_aload_n hx hb xd_Mo_sign_0 rfl (lv_at hl 0 rfl) ?_
  refine lv_iconst (v := nI 0) hx hb xd_Mo_sign_1 (by decide) ?_
  refine va_put (D := G) (ci := 8) (v := .int (nI 0)) (ty := .int) (C := xc_Mo) (T := xf_Mo) (N := 23) hx hb hts xw_Mo xt_Mo xt_Mo_ok xn_Mo hown hK.1 hP hD hS 0 rfl rfl 0 (by decide) (hts _ xm_619) (fun _ h9 => h9) rfl (by decide +kernel) rfl rfl (Nat.le_of_ble_eq_true rfl) xd_Mo_sign_2 (fun H locs hP hD hS => ?_)
  have hP : va_P G xk_cl [(mo, .inr (8, [.int (nI 0), .ref ms, .ref mk, .ref mv, .int (nI mm), .int (nI ml), .int (nI cnt), .ref mt, .int mp, .int mn, .int (nI mu), .ref ma, .int (nI at_), .int bd, .int le, .int ob, .ref m1, .ref m2, .ref m3, .ref m4, .int (nI rn), .int (nI pw), .ref mc])), (mt, .inl (cA 0, 300, .inl (tx_A tn)))] H := hP
  have hD : va_D A [(mo, .inr (8, [.int (nI 0), .ref ms, .ref mk, .ref mv, .int (nI mm), .int (nI ml), .int (nI cnt), .ref mt, .int mp, .int mn, .int (nI mu), .ref ma, .int (nI at_), .int bd, .int le, .int ob, .ref m1, .ref m2, .ref m3, .ref m4, .int (nI rn), .int (nI pw), .ref mc])), (mt, .inl (cA 0, 300, .inl (tx_A tn)))] := hD
  refine lv_iload_n hx hb xd_Mo_sign_5 rfl (lv_at hl 1 rfl) ?_
  refine lv_bipush (v := nI 32) hx hb xd_Mo_sign_6 (by decide) ?_
  refine lv_bipush (v := nI 126) hx hb xd_Mo_sign_8 (by decide) ?_
  have hPc := hP.sub (ws' := []) [] rfl
  refine vp_callSi (va_Run.run (va_runS (As := [.int x0, .int (nI 32), .int (nI 126)]) (rest := []) ⟨hx, hb, hml, hown, hts⟩ (ct_Mo_in l G cA x0 (nI 32) (nI 126)) (cwS 3 hts (gi_s xm_693 xm_694 xm_9 xm_695) rfl rfl rfl ⟨rfl, xh_Mo_in⟩ ⟨Nat.le_of_ble_eq_true rfl, Nat.le_of_ble_eq_true rfl⟩) (ps_r hK hPc) rfl rfl hl.1 rfl (lv_room (Nat.le_of_ble_eq_true rfl)) xd_Mo_sign_10 ⟨Nat.le_of_ble_eq_true rfl, Nat.le_of_ble_eq_true rfl⟩)) (fun r_1 q_2 => ?_)
  refine lx_top (z := in_R x0 (nI 32) (nI 126)) (q_2) ?_
  refine lv_if_eq (tgt := 26) hx hb xd_Mo_sign_13 (by decide) (fun c_13_2 => ?_) (fun c_13_2 => ?_)
  · have q_n := in_0 c_13_2 cnt
    refine lv_iconst (v := nI 0) hx hb xd_Mo_sign_26 (by decide) ?_
    have hP : va_P G xk_cl [(mo, .inr (8, [.int (nI 0), .ref ms, .ref mk, .ref mv, .int (nI mm), .int (nI ml), .int (nI (ap_C cnt x0)), .ref mt, .int mp, .int mn, .int (nI mu), .ref ma, .int (nI at_), .int bd, .int le, .int ob, .ref m1, .ref m2, .ref m3, .ref m4, .int (nI rn), .int (nI pw), .ref mc])), (mt, .inl (cA 0, 300, .inl (tx_A (ap_T tn cnt x0))))] H := by rw [ap_T, ap_C, if_neg q_n, if_neg q_n]; exact hP
    have hD : va_D A [(mo, .inr (8, [.int (nI 0), .ref ms, .ref mk, .ref mv, .int (nI mm), .int (nI ml), .int (nI (ap_C cnt x0)), .ref mt, .int mp, .int mn, .int (nI mu), .ref ma, .int (nI at_), .int bd, .int le, .int ob, .ref m1, .ref m2, .ref m3, .ref m4, .int (nI rn), .int (nI pw), .ref mc])), (mt, .inl (cA 0, 300, .inl (tx_A (ap_T tn cnt x0))))] := by rw [ap_T, ap_C, if_neg q_n, if_neg q_n]; exact hD
    have hP9 : va_P G xk_cl [(mo, .inr (8, [.int (nI 0), .ref ms, .ref mk, .ref mv, .int (nI mm), .int (nI ml), .int (nI (ap_C cnt x0)), .ref mt, .int mp, .int mn, .int (nI mu), .ref ma, .int (nI at_), .int bd, .int le, .int ob, .ref m1, .ref m2, .ref m3, .ref m4, .int (nI rn), .int (nI pw), .ref mc])), (mt, .inl (cA 0, 300, .inl (tx_A (ap_T tn cnt x0))))] _ := hP.sub [0, 1] rfl
    have hD9 : va_D A [(mo, .inr (8, [.int (nI 0), .ref ms, .ref mk, .ref mv, .int (nI mm), .int (nI ml), .int (nI (ap_C cnt x0)), .ref mt, .int mp, .int mn, .int (nI mu), .ref ma, .int (nI at_), .int bd, .int le, .int ob, .ref m1, .ref m2, .ref m3, .ref m4, .int (nI rn), .int (nI pw), .ref mc])), (mt, .inl (cA 0, 300, .inl (tx_A (ap_T tn cnt x0))))] := hD.sub [0, 1] (by decide) rfl
    exact W.zret (v := nI 0) (ty := .boolean) hx hb hr (by decide) (fun T9 ht hW => ⟨⟨_, (), rfl, by rw [ap_R, if_neg q_n], by rw [ht]; exact hP9, hD9⟩, hS.F ht⟩) hS.2.2 xd_Mo_sign_27
  · have q_1 := in_1 c_13_2
    refine lv_aload_n hx hb xd_Mo_sign_16 rfl (lv_at hl 0 rfl) ?_
    refine va_get (D := G) (ci := 8) (v := .int (nI cnt)) (C := xc_Mo) (T := xf_Mo) (N := 23) hx hb hts xw_Mo hown hK.1 hP 0 rfl rfl 6 (by decide) (hts _ xm_625) (fun _ h9 => h9) rfl xd_Mo_sign_17 ?_
    refine lv_sipush (v := nI 300) hx hb xd_Mo_sign_20 (by decide) ?_
    refine lv_icmp_ne (tgt := 28) hx hb xd_Mo_sign_23 (by decide) (fun c_23_3 => ?_) (fun c_23_3 => ?_)
    · have q_3 : ¬ cnt = 300 := nI_gne c_23_3
      have q_y : (¬ x0 < nI 32 ∧ ¬ nI 126 < x0 ∧ cnt < 300) := ⟨q_1.1, q_1.2, by omega⟩
      obtain ⟨q_e, q_5, q_6⟩ := ap_N q_1.1 q_1.2
      refine lv_aload_n hx hb xd_Mo_sign_28 rfl (lv_at hl 0 rfl) ?_
      refine va_get (D := G) (ci := 8) (v := .ref mt) (C := xc_Mo) (T := xf_Mo) (N := 23) hx hb hts xw_Mo hown hK.1 hP 0 rfl rfl 7 (by decide) (hts _ xm_626) (fun _ h9 => h9) rfl xd_Mo_sign_29 ?_
      refine lv_aload_n hx hb xd_Mo_sign_32 rfl (lv_at hl 0 rfl) ?_
      refine va_get (D := G) (ci := 8) (v := .int (nI cnt)) (C := xc_Mo) (T := xf_Mo) (N := 23) hx hb hts xw_Mo hown hK.1 hP 0 rfl rfl 6 (by decide) (hts _ xm_625) (fun _ h9 => h9) rfl xd_Mo_sign_33 ?_
      refine lv_iload_n hx hb xd_Mo_sign_36 rfl (lv_at hl 1 rfl) ?_
      refine wx_iast hx hb hK.1 hP hD hS 1 0 rfl rfl (k := cnt) (z := nI x0.toNatClampNeg) (q_e) (by omega) (by decide) xd_Mo_sign_37 (fun H locs hP hD hS => ?_)
      have hP : va_P G xk_cl [(mo, .inr (8, [.int (nI 0), .ref ms, .ref mk, .ref mv, .int (nI mm), .int (nI ml), .int (nI cnt), .ref mt, .int mp, .int mn, .int (nI mu), .ref ma, .int (nI at_), .int bd, .int le, .int ob, .ref m1, .ref m2, .ref m3, .ref m4, .int (nI rn), .int (nI pw), .ref mc])), (mt, .inl (cA 0, 300, .inl (upd (tx_A tn) cnt (nI x0.toNatClampNeg))))] H := hP
      have hD : va_D A [(mo, .inr (8, [.int (nI 0), .ref ms, .ref mk, .ref mv, .int (nI mm), .int (nI ml), .int (nI cnt), .ref mt, .int mp, .int mn, .int (nI mu), .ref ma, .int (nI at_), .int bd, .int le, .int ob, .ref m1, .ref m2, .ref m3, .ref m4, .int (nI rn), .int (nI pw), .ref mc])), (mt, .inl (cA 0, 300, .inl (upd (tx_A tn) cnt (nI x0.toNatClampNeg))))] := hD
      refine lv_aload_n hx hb xd_Mo_sign_38 rfl (lv_at hl 0 rfl) ?_
      refine lv_dup hx hb xd_Mo_sign_39 rfl ?_
      refine va_get (D := G) (ci := 8) (v := .int (nI cnt)) (C := xc_Mo) (T := xf_Mo) (N := 23) hx hb hts xw_Mo hown hK.1 hP 0 rfl rfl 6 (by decide) (hts _ xm_625) (fun _ h9 => h9) rfl xd_Mo_sign_40 ?_
      refine lv_iconst (v := nI 1) hx hb xd_Mo_sign_43 (by decide) ?_
      refine lx_iadd (z := nI (cnt + 1)) hx hb xd_Mo_sign_44 (nI_add _ _) ?_
      refine va_put (D := G) (ci := 8) (v := .int (nI (cnt + 1))) (ty := .int) (C := xc_Mo) (T := xf_Mo) (N := 23) hx hb hts xw_Mo xt_Mo xt_Mo_ok xn_Mo hown hK.1 hP hD hS 0 rfl rfl 6 (by decide) (hts _ xm_625) (fun _ h9 => h9) rfl (by decide +kernel) rfl rfl (Nat.le_of_ble_eq_true rfl) xd_Mo_sign_45 (fun H locs hP hD hS => ?_)
      have hP : va_P G xk_cl [(mo, .inr (8, [.int (nI 0), .ref ms, .ref mk, .ref mv, .int (nI mm), .int (nI ml), .int (nI (cnt + 1)), .ref mt, .int mp, .int mn, .int (nI mu), .ref ma, .int (nI at_), .int bd, .int le, .int ob, .ref m1, .ref m2, .ref m3, .ref m4, .int (nI rn), .int (nI pw), .ref mc])), (mt, .inl (cA 0, 300, .inl (upd (tx_A tn) cnt (nI x0.toNatClampNeg))))] H := hP
      have hD : va_D A [(mo, .inr (8, [.int (nI 0), .ref ms, .ref mk, .ref mv, .int (nI mm), .int (nI ml), .int (nI (cnt + 1)), .ref mt, .int mp, .int mn, .int (nI mu), .ref ma, .int (nI at_), .int bd, .int le, .int ob, .ref m1, .ref m2, .ref m3, .ref m4, .int (nI rn), .int (nI pw), .ref mc])), (mt, .inl (cA 0, 300, .inl (upd (tx_A tn) cnt (nI x0.toNatClampNeg))))] := hD
      refine lv_iconst (v := nI 1) hx hb xd_Mo_sign_48 (by decide) ?_
      have hP : va_P G xk_cl [(mo, .inr (8, [.int (nI 0), .ref ms, .ref mk, .ref mv, .int (nI mm), .int (nI ml), .int (nI (ap_C cnt x0)), .ref mt, .int mp, .int mn, .int (nI mu), .ref ma, .int (nI at_), .int bd, .int le, .int ob, .ref m1, .ref m2, .ref m3, .ref m4, .int (nI rn), .int (nI pw), .ref mc])), (mt, .inl (cA 0, 300, .inl (tx_A (ap_T tn cnt x0))))] H := by rw [ap_T, ap_C, if_pos q_y, if_pos q_y, ← tx_up]; exact hP
      have hD : va_D A [(mo, .inr (8, [.int (nI 0), .ref ms, .ref mk, .ref mv, .int (nI mm), .int (nI ml), .int (nI (ap_C cnt x0)), .ref mt, .int mp, .int mn, .int (nI mu), .ref ma, .int (nI at_), .int bd, .int le, .int ob, .ref m1, .ref m2, .ref m3, .ref m4, .int (nI rn), .int (nI pw), .ref mc])), (mt, .inl (cA 0, 300, .inl (tx_A (ap_T tn cnt x0))))] := by rw [ap_T, ap_C, if_pos q_y, if_pos q_y, ← tx_up]; exact hD
      have hP9 : va_P G xk_cl [(mo, .inr (8, [.int (nI 0), .ref ms, .ref mk, .ref mv, .int (nI mm), .int (nI ml), .int (nI (ap_C cnt x0)), .ref mt, .int mp, .int mn, .int (nI mu), .ref ma, .int (nI at_), .int bd, .int le, .int ob, .ref m1, .ref m2, .ref m3, .ref m4, .int (nI rn), .int (nI pw), .ref mc])), (mt, .inl (cA 0, 300, .inl (tx_A (ap_T tn cnt x0))))] _ := hP.sub [0, 1] rfl
      have hD9 : va_D A [(mo, .inr (8, [.int (nI 0), .ref ms, .ref mk, .ref mv, .int (nI mm), .int (nI ml), .int (nI (ap_C cnt x0)), .ref mt, .int mp, .int mn, .int (nI mu), .ref ma, .int (nI at_), .int bd, .int le, .int ob, .ref m1, .ref m2, .ref m3, .ref m4, .int (nI rn), .int (nI pw), .ref mc])), (mt, .inl (cA 0, 300, .inl (tx_A (ap_T tn cnt x0))))] := hD.sub [0, 1] (by decide) rfl
      exact W.zret (v := nI 1) (ty := .boolean) hx hb hr (by decide) (fun T9 ht hW => ⟨⟨_, (), rfl, by rw [ap_R, if_pos q_y], by rw [ht]; exact hP9, hD9⟩, hS.F ht⟩) hS.2.2 xd_Mo_sign_49
    · have q_3 := nI_ge' (by omega) (by decide) c_23_3
      have q_n : ¬ (¬ x0 < nI 32 ∧ ¬ nI 126 < x0 ∧ cnt < 300) := fun z => by omega
      refine lv_iconst (v := nI 0) hx hb xd_Mo_sign_26 (by decide) ?_
      have hP : va_P G xk_cl [(mo, .inr (8, [.int (nI 0), .ref ms, .ref mk, .ref mv, .int (nI mm), .int (nI ml), .int (nI (ap_C cnt x0)), .ref mt, .int mp, .int mn, .int (nI mu), .ref ma, .int (nI at_), .int bd, .int le, .int ob, .ref m1, .ref m2, .ref m3, .ref m4, .int (nI rn), .int (nI pw), .ref mc])), (mt, .inl (cA 0, 300, .inl (tx_A (ap_T tn cnt x0))))] H := by rw [ap_T, ap_C, if_neg q_n, if_neg q_n]; exact hP
      have hD : va_D A [(mo, .inr (8, [.int (nI 0), .ref ms, .ref mk, .ref mv, .int (nI mm), .int (nI ml), .int (nI (ap_C cnt x0)), .ref mt, .int mp, .int mn, .int (nI mu), .ref ma, .int (nI at_), .int bd, .int le, .int ob, .ref m1, .ref m2, .ref m3, .ref m4, .int (nI rn), .int (nI pw), .ref mc])), (mt, .inl (cA 0, 300, .inl (tx_A (ap_T tn cnt x0))))] := by rw [ap_T, ap_C, if_neg q_n, if_neg q_n]; exact hD
      have hP9 : va_P G xk_cl [(mo, .inr (8, [.int (nI 0), .ref ms, .ref mk, .ref mv, .int (nI mm), .int (nI ml), .int (nI (ap_C cnt x0)), .ref mt, .int mp, .int mn, .int (nI mu), .ref ma, .int (nI at_), .int bd, .int le, .int ob, .ref m1, .ref m2, .ref m3, .ref m4, .int (nI rn), .int (nI pw), .ref mc])), (mt, .inl (cA 0, 300, .inl (tx_A (ap_T tn cnt x0))))] _ := hP.sub [0, 1] rfl
      have hD9 : va_D A [(mo, .inr (8, [.int (nI 0), .ref ms, .ref mk, .ref mv, .int (nI mm), .int (nI ml), .int (nI (ap_C cnt x0)), .ref mt, .int mp, .int mn, .int (nI mu), .ref ma, .int (nI at_), .int bd, .int le, .int ob, .ref m1, .ref m2, .ref m3, .ref m4, .int (nI rn), .int (nI pw), .ref mc])), (mt, .inl (cA 0, 300, .inl (tx_A (ap_T tn cnt x0))))] := hD.sub [0, 1] (by decide) rfl
      exact W.zret (v := nI 0) (ty := .boolean) hx hb hr (by decide) (fun T9 ht hW => ⟨⟨_, (), rfl, by rw [ap_R, if_neg q_n], by rw [ht]; exact hP9, hD9⟩, hS.F ht⟩) hS.2.2 xd_Mo_sign_27
set_option maxHeartbeats 4000000 in
set_option maxRecDepth 100000 in
theorem ct_Mo_isUnlike (l : Launch) (G : va_G) (cA : Nat → ClassId) (mo : Nat) (th : Int32) (ms : Nat) (mk : Nat) (mv : Nat) (mm : Nat) (ml : Nat) (cnt : Nat) (mt : Nat) (mp : Int32) (mn : Int32) (mu : Nat) (ma : Nat) (at_ : Nat) (bd : Int32) (le : Int32) (ob : Int32) (m1 : Nat) (m2 : Nat) (m3 : Nat) (m4 : Nat) (rn : Nat) (pw : Nat) (mc : Nat) (sa : Nat → Int32) (kd : Nat → Int32) (vl : Nat → Int32) (b : Nat) (n : Nat) (hb9 : b < 18) (hn : n < 40) : Met l xy_Mo_isUnlike (.code xy_Mo_isUnlike xb_Mo_isUnlike 5 (some .boolean) :: tw_W) ({ frames := 0, cells := 0, slots := 0, locals := 0 }) (pc_r G cA [(mo, .inr (8, [.int th, .ref ms, .ref mk, .ref mv, .int (nI mm), .int (nI ml), .int (nI cnt), .ref mt, .int mp, .int mn, .int (nI mu), .ref ma, .int (nI at_), .int bd, .int le, .int ob, .ref m1, .ref m2, .ref m3, .ref m4, .int (nI rn), .int (nI pw), .ref mc])), (ms, .inl (cA 0, 720, .inl sa)), (mk, .inl (cA 0, 18720, .inl kd)), (mv, .inl (cA 0, 18720, .inl vl))] [.ref mo, .int (nI b), .int (nI n)]) (vp_Si (fun r : Int32 => r = mu_R sa kd vl b n)) 0 0 (fun _ => False) := by
  refine Met.ofW (cc := xb_Mo_isUnlike) (maxL := 5) (ret := (some .boolean)) (by decide) rfl ?_
  intro p e s m args below meth c s₁ B hml hv
  obtain ⟨rfl, hK, hP⟩ := hv
  have hx := B.exec
  have hb := B.bytes
  have hr := B.returns
  have hts0 := atoms_spec (ws := .code xy_Mo_isUnlike xb_Mo_isUnlike 5 (some .boolean) :: tw_W) B.pre
  have hts : ∀ w9 ∈ tw_W, w9.before [.ref mo, .int (nI b), .int (nI n)].toArray s = true := fun w9 h9 => hts0 w9 (List.mem_cons_of_mem _ h9)
  have hown : s.vm.findClass xc_Mo = some m.cls := findClass_of_methodNamed B.named
  have hlocks := B.notSynchronized
  have hP : va_P G xk_cl [(mo, .inr (8, [.int th, .ref ms, .ref mk, .ref mv, .int (nI mm), .int (nI ml), .int (nI cnt), .ref mt, .int mp, .int mn, .int (nI mu), .ref ma, .int (nI at_), .int bd, .int le, .int ob, .ref m1, .ref m2, .ref m3, .ref m4, .int (nI rn), .int (nI pw), .ref mc])), (ms, .inl (cA 0, 720, .inl sa)), (mk, .inl (cA 0, 18720, .inl kd)), (mv, .inl (cA 0, 18720, .inl vl))] s.heap := hP
  have hl := lv_entry ([.ref mo, .int (nI b), .int (nI n)]) (n := 5) (Nat.le_of_ble_eq_true rfl)
  rw [lg_entry_eq]
  generalize (lg_sl ([.ref mo, .int (nI b), .int (nI n)]) ++ List.replicate (5 - (lg_sl ([.ref mo, .int (nI b), .int (nI n)])).length) Slot.unset).toArray = ls at hl ⊢
  have hl : lv_has ls 5 [(0, .ref mo), (1, .int (nI b)), (2, .int (nI n))] := hl
  refine lv_aload_n hx hb xd_Mo_isUnlike_0 rfl (lv_at hl 0 rfl) ?_
  refine va_get (D := G) (ci := 8) (v := .ref ms) (C := xc_Mo) (T := xf_Mo) (N := 23) hx hb hts xw_Mo hown hK.1 hP 0 rfl rfl 1 (by decide) (hts _ xm_620) (fun _ h9 => h9) rfl xd_Mo_isUnlike_1 ?_
  refine lv_iload_n hx hb xd_Mo_isUnlike_4 rfl (lv_at hl 2 rfl) ?_
  refine wx_iald hx hb hK.1 hP 1 0 rfl rfl (k := n) (by omega) (by decide) xd_Mo_isUnlike_5 ?_
  refine lv_aload_n hx hb xd_Mo_isUnlike_6 rfl (lv_at hl 0 rfl) ?_
  refine va_get (D := G) (ci := 8) (v := .ref ms) (C := xc_Mo) (T := xf_Mo) (N := 23) hx hb hts xw_Mo hown hK.1 hP 0 rfl rfl 1 (by decide) (hts _ xm_620) (fun _ h9 => h9) rfl xd_Mo_isUnlike_7 ?_
  refine lv_bipush (v := nI 40) hx hb xd_Mo_isUnlike_10 (by decide) ?_
  refine lv_iload_n hx hb xd_Mo_isUnlike_12 rfl (lv_at hl 1 rfl) ?_
  refine lx_imul (z := nI (40 * b)) hx hb xd_Mo_isUnlike_13 (pk_mul _ _) ?_
  refine lv_iload_n hx hb xd_Mo_isUnlike_14 rfl (lv_at hl 2 rfl) ?_
  refine lx_iadd (z := nI (40 * b + n)) hx hb xd_Mo_isUnlike_15 (nI_add _ _) ?_
  refine wx_iald hx hb hK.1 hP 1 0 rfl rfl (k := 40 * b + n) (by omega) (by decide) xd_Mo_isUnlike_16 ?_
  refine lv_icmp_eq (tgt := 24) hx hb xd_Mo_isUnlike_17 (by decide) (fun c_17_0 => ?_) (fun c_17_0 => ?_)
  · refine lv_iconst (v := nI 0) hx hb xd_Mo_isUnlike_24 (by decide) ?_
    refine lv_istore_n (lv' := [(3, .int (nI 0)), (0, .ref mo), (1, .int (nI b)), (2, .int (nI n))]) hx hb xd_Mo_isUnlike_25 rfl hl (by decide) rfl (fun ls hl => ?_)
    refine lv_bipush (v := nI 26) hx hb xd_Mo_isUnlike_26 (by decide) ?_
    refine lv_iload_n hx hb xd_Mo_isUnlike_28 rfl (lv_at hl 3 rfl) ?_
    refine lx_imul (z := nI (26 * n)) hx hb xd_Mo_isUnlike_29 (pk_mul _ _) ?_
    refine lv_istore (lv' := [(4, .int (nI (26 * n))), (3, .int (nI 0)), (0, .ref mo), (1, .int (nI b)), (2, .int (nI n))]) hx hb xd_Mo_isUnlike_30 hl (by decide) rfl (fun ls hl => ?_)
    have hl : lv_has ls 5 [(4, .int (nI (26 * n + 0))), (3, .int (nI 0)), (0, .ref mo), (1, .int (nI b)), (2, .int (nI n))] := by rw [Nat.add_zero]; exact hl
    have lp : ∀ (k_lp : Nat) (i : Nat) (is_ : Int32), (i ≤ 26) → ((is_ = nI 0 ∧ sa n = sa (40 * b + n) ∧ ∀ k, k < i → (kd (26 * n + k) = kd (1040 * b + (26 * n + k)) ∧ vl (26 * n + k) = vl (1040 * b + (26 * n + k)))) ∨ (is_ = nI 1 ∧ ¬ mu_P sa kd vl b n)) → 26 - i < k_lp → ∀ (ls : Array Slot), lv_has ls 5 [(0, .ref mo), (1, .int (nI b)), (2, .int (nI n)), (3, .int is_), (4, .int (nI (26 * n + i)))] → W p l e (headSpec (.code xy_Mo_isUnlike xb_Mo_isUnlike 5 (some .boolean) :: tw_W) ({ frames := 0, cells := 0, slots := 0, locals := 0 })).room s m ([.ref mo, .int (nI b), .int (nI n)] : List Value).toArray below meth c s.heap [] 0 0 (MQ below (vp_Si (fun r : Int32 => r = mu_R sa kd vl b n)) ([.ref mo, .int (nI b), .int (nI n)] : List Value).toArray s 0 0 (fun _ => False)) (F0 m 32 ls []) := by
      intro k_lp
      induction k_lp with
      | zero =>
        intro i is_ hi_ hx9 hk_lp
        exact absurd hk_lp (Nat.not_lt_zero _)
      | succ k_lp ih_lp =>
        intro i is_ hi_ hx9 hk_lp ls hl
        refine lv_iload hx hb xd_Mo_isUnlike_32 (lv_at hl 4 rfl) ?_
        refine lv_bipush (v := nI 26) hx hb xd_Mo_isUnlike_34 (by decide) ?_
        refine lv_iload_n hx hb xd_Mo_isUnlike_36 rfl (lv_at hl 2 rfl) ?_
        refine lx_imul (z := nI (26 * n)) hx hb xd_Mo_isUnlike_37 (pk_mul _ _) ?_
        refine lv_bipush (v := nI 26) hx hb xd_Mo_isUnlike_38 (by decide) ?_
        refine lx_iadd (z := nI (26 * n + 26)) hx hb xd_Mo_isUnlike_40 (nI_add _ _) ?_
        refine lv_icmp_ge (tgt := 106) hx hb xd_Mo_isUnlike_41 (by decide) (fun c_41_1 => ?_) (fun c_41_1 => ?_)
        · have e_i : i = 26 := by have := nI_gle (by omega) (by omega) c_41_1; omega
          subst e_i
          refine lv_iload_n hx hb xd_Mo_isUnlike_106 rfl (lv_at hl 3 rfl) ?_
          exact W.zret (v := is_) (ty := .boolean) hx hb hr (by rcases hx9 with z | z <;> rw [z.1] <;> decide) (fun T9 ht _ => ⟨_, rfl, hx9.elim (fun z => by rw [mu_R, if_pos ⟨z.2.1, z.2.2⟩]; exact z.1) (fun z => by rw [mu_R, if_neg z.2]; exact z.1), ht⟩) (fun _ h => absurd h List.not_mem_nil) xd_Mo_isUnlike_107
        · have e_i := nI_gnl (by omega) (by omega) c_41_1
          refine lv_iload_n hx hb xd_Mo_isUnlike_44 rfl (lv_at hl 3 rfl) ?_
          refine lv_if_ne (tgt := 106) hx hb xd_Mo_isUnlike_45 (by decide) (fun c_45_2 => ?_) (fun c_45_2 => ?_)
          · have q_r : ¬ mu_P sa kd vl b n := hx9.elim (fun z => absurd (by rw [z.1]; rfl) c_45_2) (fun z => z.2)
            refine lv_iload_n hx hb xd_Mo_isUnlike_106 rfl (lv_at hl 3 rfl) ?_
            exact W.zret (v := is_) (ty := .boolean) hx hb hr (by rcases hx9 with z | z <;> rw [z.1] <;> decide) (fun T9 ht _ => ⟨_, rfl, hx9.elim (fun z => absurd (by rw [z.1]; rfl) c_45_2) (fun z => by rw [mu_R, if_neg z.2]; exact z.1), ht⟩) (fun _ h => absurd h List.not_mem_nil) xd_Mo_isUnlike_107
          · have q_l : sa n = sa (40 * b + n) ∧ ∀ k, k < i → (kd (26 * n + k) = kd (1040 * b + (26 * n + k)) ∧ vl (26 * n + k) = vl (1040 * b + (26 * n + k))) := hx9.elim (fun z => z.2) (fun z => absurd (z.1.symm.trans c_45_2) (by decide))
            obtain ⟨hs, hq⟩ := q_l
            refine lv_aload_n hx hb xd_Mo_isUnlike_48 rfl (lv_at hl 0 rfl) ?_
            refine va_get (D := G) (ci := 8) (v := .ref mk) (C := xc_Mo) (T := xf_Mo) (N := 23) hx hb hts xw_Mo hown hK.1 hP 0 rfl rfl 2 (by decide) (hts _ xm_621) (fun _ h9 => h9) rfl xd_Mo_isUnlike_49 ?_
            refine lv_iload hx hb xd_Mo_isUnlike_52 (lv_at hl 4 rfl) ?_
            refine wx_iald hx hb hK.1 hP 2 0 rfl rfl (k := 26 * n + i) (by omega) (by decide) xd_Mo_isUnlike_54 ?_
            refine lv_aload_n hx hb xd_Mo_isUnlike_55 rfl (lv_at hl 0 rfl) ?_
            refine va_get (D := G) (ci := 8) (v := .ref mk) (C := xc_Mo) (T := xf_Mo) (N := 23) hx hb hts xw_Mo hown hK.1 hP 0 rfl rfl 2 (by decide) (hts _ xm_621) (fun _ h9 => h9) rfl xd_Mo_isUnlike_56 ?_
            refine lv_sipush (v := nI 1040) hx hb xd_Mo_isUnlike_59 (by decide) ?_
            refine lv_iload_n hx hb xd_Mo_isUnlike_62 rfl (lv_at hl 1 rfl) ?_
            refine lx_imul (z := nI (1040 * b)) hx hb xd_Mo_isUnlike_63 (pk_mul _ _) ?_
            refine lv_iload hx hb xd_Mo_isUnlike_64 (lv_at hl 4 rfl) ?_
            refine lx_iadd (z := nI (1040 * b + (26 * n + i))) hx hb xd_Mo_isUnlike_66 (nI_add _ _) ?_
            refine wx_iald hx hb hK.1 hP 2 0 rfl rfl (k := 1040 * b + (26 * n + i)) (by omega) (by decide) xd_Mo_isUnlike_67 ?_
            refine lv_icmp_ne (tgt := 94) hx hb xd_Mo_isUnlike_68 (by decide) (fun c_68_3 => ?_) (fun c_68_3 => ?_)
            · refine lv_iconst (v := nI 1) hx hb xd_Mo_isUnlike_94 (by decide) ?_
              refine lv_goto (tgt := 99) hx hb xd_Mo_isUnlike_95 (by decide) ?_
              refine lv_istore_n (lv' := [(3, .int (nI 1)), (0, .ref mo), (1, .int (nI b)), (2, .int (nI n)), (4, .int (nI (26 * n + i)))]) hx hb xd_Mo_isUnlike_99 rfl hl (by decide) rfl (fun ls hl => ?_)
              refine lv_iinc (v := nI (26 * n + i + 1)) (lv' := [(4, .int (nI (26 * n + i + 1))), (3, .int (nI 1)), (0, .ref mo), (1, .int (nI b)), (2, .int (nI n))]) hx hb xd_Mo_isUnlike_100 hl (k := 4) rfl (nI_inc _) (by decide) rfl (fun ls hl => ?_)
              refine lv_goto (tgt := 32) hx hb xd_Mo_isUnlike_103 (by decide) ?_
              have hl : lv_has ls 5 [(4, .int (nI (26 * n + (i + 1)))), (3, .int (nI 1)), (0, .ref mo), (1, .int (nI b)), (2, .int (nI n))] := by rw [← Nat.add_assoc]; exact hl
              exact ih_lp (i + 1) (nI 1) (by omega) (Or.inr ⟨rfl, fun z => c_68_3 (z.2 i (by omega)).1⟩) (by omega) ls (lv_sub hl [2, 3, 4, 1, 0] rfl)
            · refine lv_aload_n hx hb xd_Mo_isUnlike_71 rfl (lv_at hl 0 rfl) ?_
              refine va_get (D := G) (ci := 8) (v := .ref mv) (C := xc_Mo) (T := xf_Mo) (N := 23) hx hb hts xw_Mo hown hK.1 hP 0 rfl rfl 3 (by decide) (hts _ xm_622) (fun _ h9 => h9) rfl xd_Mo_isUnlike_72 ?_
              refine lv_iload hx hb xd_Mo_isUnlike_75 (lv_at hl 4 rfl) ?_
              refine wx_iald hx hb hK.1 hP 3 0 rfl rfl (k := 26 * n + i) (by omega) (by decide) xd_Mo_isUnlike_77 ?_
              refine lv_aload_n hx hb xd_Mo_isUnlike_78 rfl (lv_at hl 0 rfl) ?_
              refine va_get (D := G) (ci := 8) (v := .ref mv) (C := xc_Mo) (T := xf_Mo) (N := 23) hx hb hts xw_Mo hown hK.1 hP 0 rfl rfl 3 (by decide) (hts _ xm_622) (fun _ h9 => h9) rfl xd_Mo_isUnlike_79 ?_
              refine lv_sipush (v := nI 1040) hx hb xd_Mo_isUnlike_82 (by decide) ?_
              refine lv_iload_n hx hb xd_Mo_isUnlike_85 rfl (lv_at hl 1 rfl) ?_
              refine lx_imul (z := nI (1040 * b)) hx hb xd_Mo_isUnlike_86 (pk_mul _ _) ?_
              refine lv_iload hx hb xd_Mo_isUnlike_87 (lv_at hl 4 rfl) ?_
              refine lx_iadd (z := nI (1040 * b + (26 * n + i))) hx hb xd_Mo_isUnlike_89 (nI_add _ _) ?_
              refine wx_iald hx hb hK.1 hP 3 0 rfl rfl (k := 1040 * b + (26 * n + i)) (by omega) (by decide) xd_Mo_isUnlike_90 ?_
              refine lv_icmp_eq (tgt := 98) hx hb xd_Mo_isUnlike_91 (by decide) (fun c_91_4 => ?_) (fun c_91_4 => ?_)
              · refine lv_iconst (v := nI 0) hx hb xd_Mo_isUnlike_98 (by decide) ?_
                refine lv_istore_n (lv' := [(3, .int (nI 0)), (0, .ref mo), (1, .int (nI b)), (2, .int (nI n)), (4, .int (nI (26 * n + i)))]) hx hb xd_Mo_isUnlike_99 rfl hl (by decide) rfl (fun ls hl => ?_)
                refine lv_iinc (v := nI (26 * n + i + 1)) (lv' := [(4, .int (nI (26 * n + i + 1))), (3, .int (nI 0)), (0, .ref mo), (1, .int (nI b)), (2, .int (nI n))]) hx hb xd_Mo_isUnlike_100 hl (k := 4) rfl (nI_inc _) (by decide) rfl (fun ls hl => ?_)
                refine lv_goto (tgt := 32) hx hb xd_Mo_isUnlike_103 (by decide) ?_
                have hl : lv_has ls 5 [(4, .int (nI (26 * n + (i + 1)))), (3, .int (nI 0)), (0, .ref mo), (1, .int (nI b)), (2, .int (nI n))] := by rw [← Nat.add_assoc]; exact hl
                exact ih_lp (i + 1) (nI 0) (by omega) (Or.inl ⟨rfl, hs, lt_s hq ⟨c_68_3, c_91_4⟩⟩) (by omega) ls (lv_sub hl [2, 3, 4, 1, 0] rfl)
              · refine lv_iconst (v := nI 1) hx hb xd_Mo_isUnlike_94 (by decide) ?_
                refine lv_goto (tgt := 99) hx hb xd_Mo_isUnlike_95 (by decide) ?_
                refine lv_istore_n (lv' := [(3, .int (nI 1)), (0, .ref mo), (1, .int (nI b)), (2, .int (nI n)), (4, .int (nI (26 * n + i)))]) hx hb xd_Mo_isUnlike_99 rfl hl (by decide) rfl (fun ls hl => ?_)
                refine lv_iinc (v := nI (26 * n + i + 1)) (lv' := [(4, .int (nI (26 * n + i + 1))), (3, .int (nI 1)), (0, .ref mo), (1, .int (nI b)), (2, .int (nI n))]) hx hb xd_Mo_isUnlike_100 hl (k := 4) rfl (nI_inc _) (by decide) rfl (fun ls hl => ?_)
                refine lv_goto (tgt := 32) hx hb xd_Mo_isUnlike_103 (by decide) ?_
                have hl : lv_has ls 5 [(4, .int (nI (26 * n + (i + 1)))), (3, .int (nI 1)), (0, .ref mo), (1, .int (nI b)), (2, .int (nI n))] := by rw [← Nat.add_assoc]; exact hl
                exact ih_lp (i + 1) (nI 1) (by omega) (Or.inr ⟨rfl, fun z => c_91_4 (z.2 i (by omega)).2⟩) (by omega) ls (lv_sub hl [2, 3, 4, 1, 0] rfl)
    exact lp ((26 - 0) + 1) 0 (nI 0) (by omega) (Or.inl ⟨rfl, c_17_0, fun k hk => absurd hk (Nat.not_lt_zero _)⟩) (Nat.lt_succ_self _) ls (lv_sub hl [2, 3, 4, 1, 0] rfl)
  · refine lv_iconst (v := nI 1) hx hb xd_Mo_isUnlike_20 (by decide) ?_
    refine lv_goto (tgt := 25) hx hb xd_Mo_isUnlike_21 (by decide) ?_
    refine lv_istore_n (lv' := [(3, .int (nI 1)), (0, .ref mo), (1, .int (nI b)), (2, .int (nI n))]) hx hb xd_Mo_isUnlike_25 rfl hl (by decide) rfl (fun ls hl => ?_)
    refine lv_bipush (v := nI 26) hx hb xd_Mo_isUnlike_26 (by decide) ?_
    refine lv_iload_n hx hb xd_Mo_isUnlike_28 rfl (lv_at hl 3 rfl) ?_
    refine lx_imul (z := nI (26 * n)) hx hb xd_Mo_isUnlike_29 (pk_mul _ _) ?_
    refine lv_istore (lv' := [(4, .int (nI (26 * n))), (3, .int (nI 1)), (0, .ref mo), (1, .int (nI b)), (2, .int (nI n))]) hx hb xd_Mo_isUnlike_30 hl (by decide) rfl (fun ls hl => ?_)
    have hl : lv_has ls 5 [(4, .int (nI (26 * n + 0))), (3, .int (nI 1)), (0, .ref mo), (1, .int (nI b)), (2, .int (nI n))] := by rw [Nat.add_zero]; exact hl
    have lp : ∀ (k_lp : Nat) (i : Nat) (is_ : Int32), (i ≤ 26) → ((is_ = nI 0 ∧ sa n = sa (40 * b + n) ∧ ∀ k, k < i → (kd (26 * n + k) = kd (1040 * b + (26 * n + k)) ∧ vl (26 * n + k) = vl (1040 * b + (26 * n + k)))) ∨ (is_ = nI 1 ∧ ¬ mu_P sa kd vl b n)) → 26 - i < k_lp → ∀ (ls : Array Slot), lv_has ls 5 [(0, .ref mo), (1, .int (nI b)), (2, .int (nI n)), (3, .int is_), (4, .int (nI (26 * n + i)))] → W p l e (headSpec (.code xy_Mo_isUnlike xb_Mo_isUnlike 5 (some .boolean) :: tw_W) ({ frames := 0, cells := 0, slots := 0, locals := 0 })).room s m ([.ref mo, .int (nI b), .int (nI n)] : List Value).toArray below meth c s.heap [] 0 0 (MQ below (vp_Si (fun r : Int32 => r = mu_R sa kd vl b n)) ([.ref mo, .int (nI b), .int (nI n)] : List Value).toArray s 0 0 (fun _ => False)) (F0 m 32 ls []) := by
      intro k_lp
      induction k_lp with
      | zero =>
        intro i is_ hi_ hx9 hk_lp
        exact absurd hk_lp (Nat.not_lt_zero _)
      | succ k_lp ih_lp =>
        intro i is_ hi_ hx9 hk_lp ls hl
        refine lv_iload hx hb xd_Mo_isUnlike_32 (lv_at hl 4 rfl) ?_
        refine lv_bipush (v := nI 26) hx hb xd_Mo_isUnlike_34 (by decide) ?_
        refine lv_iload_n hx hb xd_Mo_isUnlike_36 rfl (lv_at hl 2 rfl) ?_
        refine lx_imul (z := nI (26 * n)) hx hb xd_Mo_isUnlike_37 (pk_mul _ _) ?_
        refine lv_bipush (v := nI 26) hx hb xd_Mo_isUnlike_38 (by decide) ?_
        refine lx_iadd (z := nI (26 * n + 26)) hx hb xd_Mo_isUnlike_40 (nI_add _ _) ?_
        refine lv_icmp_ge (tgt := 106) hx hb xd_Mo_isUnlike_41 (by decide) (fun c_41_5 => ?_) (fun c_41_5 => ?_)
        · have e_i : i = 26 := by have := nI_gle (by omega) (by omega) c_41_5; omega
          subst e_i
          refine lv_iload_n hx hb xd_Mo_isUnlike_106 rfl (lv_at hl 3 rfl) ?_
          exact W.zret (v := is_) (ty := .boolean) hx hb hr (by rcases hx9 with z | z <;> rw [z.1] <;> decide) (fun T9 ht _ => ⟨_, rfl, hx9.elim (fun z => by rw [mu_R, if_pos ⟨z.2.1, z.2.2⟩]; exact z.1) (fun z => by rw [mu_R, if_neg z.2]; exact z.1), ht⟩) (fun _ h => absurd h List.not_mem_nil) xd_Mo_isUnlike_107
        · have e_i := nI_gnl (by omega) (by omega) c_41_5
          refine lv_iload_n hx hb xd_Mo_isUnlike_44 rfl (lv_at hl 3 rfl) ?_
          refine lv_if_ne (tgt := 106) hx hb xd_Mo_isUnlike_45 (by decide) (fun c_45_6 => ?_) (fun c_45_6 => ?_)
          · have q_r : ¬ mu_P sa kd vl b n := hx9.elim (fun z => absurd (by rw [z.1]; rfl) c_45_6) (fun z => z.2)
            refine lv_iload_n hx hb xd_Mo_isUnlike_106 rfl (lv_at hl 3 rfl) ?_
            exact W.zret (v := is_) (ty := .boolean) hx hb hr (by rcases hx9 with z | z <;> rw [z.1] <;> decide) (fun T9 ht _ => ⟨_, rfl, hx9.elim (fun z => absurd (by rw [z.1]; rfl) c_45_6) (fun z => by rw [mu_R, if_neg z.2]; exact z.1), ht⟩) (fun _ h => absurd h List.not_mem_nil) xd_Mo_isUnlike_107
          · have q_l : sa n = sa (40 * b + n) ∧ ∀ k, k < i → (kd (26 * n + k) = kd (1040 * b + (26 * n + k)) ∧ vl (26 * n + k) = vl (1040 * b + (26 * n + k))) := hx9.elim (fun z => z.2) (fun z => absurd (z.1.symm.trans c_45_6) (by decide))
            obtain ⟨hs, hq⟩ := q_l
            refine lv_aload_n hx hb xd_Mo_isUnlike_48 rfl (lv_at hl 0 rfl) ?_
            refine va_get (D := G) (ci := 8) (v := .ref mk) (C := xc_Mo) (T := xf_Mo) (N := 23) hx hb hts xw_Mo hown hK.1 hP 0 rfl rfl 2 (by decide) (hts _ xm_621) (fun _ h9 => h9) rfl xd_Mo_isUnlike_49 ?_
            refine lv_iload hx hb xd_Mo_isUnlike_52 (lv_at hl 4 rfl) ?_
            refine wx_iald hx hb hK.1 hP 2 0 rfl rfl (k := 26 * n + i) (by omega) (by decide) xd_Mo_isUnlike_54 ?_
            refine lv_aload_n hx hb xd_Mo_isUnlike_55 rfl (lv_at hl 0 rfl) ?_
            refine va_get (D := G) (ci := 8) (v := .ref mk) (C := xc_Mo) (T := xf_Mo) (N := 23) hx hb hts xw_Mo hown hK.1 hP 0 rfl rfl 2 (by decide) (hts _ xm_621) (fun _ h9 => h9) rfl xd_Mo_isUnlike_56 ?_
            refine lv_sipush (v := nI 1040) hx hb xd_Mo_isUnlike_59 (by decide) ?_
            refine lv_iload_n hx hb xd_Mo_isUnlike_62 rfl (lv_at hl 1 rfl) ?_
            refine lx_imul (z := nI (1040 * b)) hx hb xd_Mo_isUnlike_63 (pk_mul _ _) ?_
            refine lv_iload hx hb xd_Mo_isUnlike_64 (lv_at hl 4 rfl) ?_
            refine lx_iadd (z := nI (1040 * b + (26 * n + i))) hx hb xd_Mo_isUnlike_66 (nI_add _ _) ?_
            refine wx_iald hx hb hK.1 hP 2 0 rfl rfl (k := 1040 * b + (26 * n + i)) (by omega) (by decide) xd_Mo_isUnlike_67 ?_
            refine lv_icmp_ne (tgt := 94) hx hb xd_Mo_isUnlike_68 (by decide) (fun c_68_7 => ?_) (fun c_68_7 => ?_)
            · refine lv_iconst (v := nI 1) hx hb xd_Mo_isUnlike_94 (by decide) ?_
              refine lv_goto (tgt := 99) hx hb xd_Mo_isUnlike_95 (by decide) ?_
              refine lv_istore_n (lv' := [(3, .int (nI 1)), (0, .ref mo), (1, .int (nI b)), (2, .int (nI n)), (4, .int (nI (26 * n + i)))]) hx hb xd_Mo_isUnlike_99 rfl hl (by decide) rfl (fun ls hl => ?_)
              refine lv_iinc (v := nI (26 * n + i + 1)) (lv' := [(4, .int (nI (26 * n + i + 1))), (3, .int (nI 1)), (0, .ref mo), (1, .int (nI b)), (2, .int (nI n))]) hx hb xd_Mo_isUnlike_100 hl (k := 4) rfl (nI_inc _) (by decide) rfl (fun ls hl => ?_)
              refine lv_goto (tgt := 32) hx hb xd_Mo_isUnlike_103 (by decide) ?_
              have hl : lv_has ls 5 [(4, .int (nI (26 * n + (i + 1)))), (3, .int (nI 1)), (0, .ref mo), (1, .int (nI b)), (2, .int (nI n))] := by rw [← Nat.add_assoc]; exact hl
              exact ih_lp (i + 1) (nI 1) (by omega) (Or.inr ⟨rfl, fun z => c_68_7 (z.2 i (by omega)).1⟩) (by omega) ls (lv_sub hl [2, 3, 4, 1, 0] rfl)
            · refine lv_aload_n hx hb xd_Mo_isUnlike_71 rfl (lv_at hl 0 rfl) ?_
              refine va_get (D := G) (ci := 8) (v := .ref mv) (C := xc_Mo) (T := xf_Mo) (N := 23) hx hb hts xw_Mo hown hK.1 hP 0 rfl rfl 3 (by decide) (hts _ xm_622) (fun _ h9 => h9) rfl xd_Mo_isUnlike_72 ?_
              refine lv_iload hx hb xd_Mo_isUnlike_75 (lv_at hl 4 rfl) ?_
              refine wx_iald hx hb hK.1 hP 3 0 rfl rfl (k := 26 * n + i) (by omega) (by decide) xd_Mo_isUnlike_77 ?_
              refine lv_aload_n hx hb xd_Mo_isUnlike_78 rfl (lv_at hl 0 rfl) ?_
              refine va_get (D := G) (ci := 8) (v := .ref mv) (C := xc_Mo) (T := xf_Mo) (N := 23) hx hb hts xw_Mo hown hK.1 hP 0 rfl rfl 3 (by decide) (hts _ xm_622) (fun _ h9 => h9) rfl xd_Mo_isUnlike_79 ?_
              refine lv_sipush (v := nI 1040) hx hb xd_Mo_isUnlike_82 (by decide) ?_
              refine lv_iload_n hx hb xd_Mo_isUnlike_85 rfl (lv_at hl 1 rfl) ?_
              refine lx_imul (z := nI (1040 * b)) hx hb xd_Mo_isUnlike_86 (pk_mul _ _) ?_
              refine lv_iload hx hb xd_Mo_isUnlike_87 (lv_at hl 4 rfl) ?_
              refine lx_iadd (z := nI (1040 * b + (26 * n + i))) hx hb xd_Mo_isUnlike_89 (nI_add _ _) ?_
              refine wx_iald hx hb hK.1 hP 3 0 rfl rfl (k := 1040 * b + (26 * n + i)) (by omega) (by decide) xd_Mo_isUnlike_90 ?_
              refine lv_icmp_eq (tgt := 98) hx hb xd_Mo_isUnlike_91 (by decide) (fun c_91_8 => ?_) (fun c_91_8 => ?_)
              · refine lv_iconst (v := nI 0) hx hb xd_Mo_isUnlike_98 (by decide) ?_
                refine lv_istore_n (lv' := [(3, .int (nI 0)), (0, .ref mo), (1, .int (nI b)), (2, .int (nI n)), (4, .int (nI (26 * n + i)))]) hx hb xd_Mo_isUnlike_99 rfl hl (by decide) rfl (fun ls hl => ?_)
                refine lv_iinc (v := nI (26 * n + i + 1)) (lv' := [(4, .int (nI (26 * n + i + 1))), (3, .int (nI 0)), (0, .ref mo), (1, .int (nI b)), (2, .int (nI n))]) hx hb xd_Mo_isUnlike_100 hl (k := 4) rfl (nI_inc _) (by decide) rfl (fun ls hl => ?_)
                refine lv_goto (tgt := 32) hx hb xd_Mo_isUnlike_103 (by decide) ?_
                have hl : lv_has ls 5 [(4, .int (nI (26 * n + (i + 1)))), (3, .int (nI 0)), (0, .ref mo), (1, .int (nI b)), (2, .int (nI n))] := by rw [← Nat.add_assoc]; exact hl
                exact ih_lp (i + 1) (nI 0) (by omega) (Or.inl ⟨rfl, hs, lt_s hq ⟨c_68_7, c_91_8⟩⟩) (by omega) ls (lv_sub hl [2, 3, 4, 1, 0] rfl)
              · refine lv_iconst (v := nI 1) hx hb xd_Mo_isUnlike_94 (by decide) ?_
                refine lv_goto (tgt := 99) hx hb xd_Mo_isUnlike_95 (by decide) ?_
                refine lv_istore_n (lv' := [(3, .int (nI 1)), (0, .ref mo), (1, .int (nI b)), (2, .int (nI n)), (4, .int (nI (26 * n + i)))]) hx hb xd_Mo_isUnlike_99 rfl hl (by decide) rfl (fun ls hl => ?_)
                refine lv_iinc (v := nI (26 * n + i + 1)) (lv' := [(4, .int (nI (26 * n + i + 1))), (3, .int (nI 1)), (0, .ref mo), (1, .int (nI b)), (2, .int (nI n))]) hx hb xd_Mo_isUnlike_100 hl (k := 4) rfl (nI_inc _) (by decide) rfl (fun ls hl => ?_)
                refine lv_goto (tgt := 32) hx hb xd_Mo_isUnlike_103 (by decide) ?_
                have hl : lv_has ls 5 [(4, .int (nI (26 * n + (i + 1)))), (3, .int (nI 1)), (0, .ref mo), (1, .int (nI b)), (2, .int (nI n))] := by rw [← Nat.add_assoc]; exact hl
                exact ih_lp (i + 1) (nI 1) (by omega) (Or.inr ⟨rfl, fun z => c_91_8 (z.2 i (by omega)).2⟩) (by omega) ls (lv_sub hl [2, 3, 4, 1, 0] rfl)
    exact lp ((26 - 0) + 1) 0 (nI 1) (by omega) (Or.inr ⟨rfl, fun z => c_17_0 z.1⟩) (Nat.lt_succ_self _) ls (lv_sub hl [2, 3, 4, 1, 0] rfl)
