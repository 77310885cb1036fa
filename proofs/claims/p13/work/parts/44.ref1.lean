def in_R (v a b : Int32) : Int32 := if ¬ v < a ∧ ¬ b < v then nI 1 else nI 0
def gs_T (g : Int32) : Int32 := if g = 0 then nI 1 else nI 0
def cp_A (N f t : Nat) (g : Nat → Int32) (i : Nat) : Nat → Int32 := fun j => if N * t ≤ j ∧ j < N * t + i then g (N * f + (j - N * t)) else g j
theorem cp_0 (N f t : Nat) (g : Nat → Int32) : cp_A N f t g 0 = g := by
  funext j
  unfold cp_A
  rw [if_neg (by omega)]
theorem cp_s {N f t : Nat} (g : Nat → Int32) {i : Nat} (hf : N * f + N ≤ N * t ∨ N * t + N ≤ N * f) (hi : i < N) : cp_A N f t g (i + 1) = upd (cp_A N f t g i) (N * t + i) (cp_A N f t g i (N * f + i)) := by
  have e1 : cp_A N f t g i (N * f + i) = g (N * f + i) := if_neg (by omega)
  funext j
  by_cases e : j = N * t + i
  · rw [e, pk_us, e1]
    unfold cp_A
    rw [if_pos (by omega), show N * t + i - N * t = i by omega]
  · rw [pk_un e]
    unfold cp_A
    by_cases q : N * t ≤ j ∧ j < N * t + i
    · rw [if_pos q, if_pos (by omega)]
    · rw [if_neg q, if_neg (by omega)]
def ey_A (g : Nat → Int32) (n i : Nat) : Nat → Int32 := fun j => if 26 * n ≤ j ∧ j < 26 * n + i then nI 0 else g j
theorem ey_0 (g : Nat → Int32) (n : Nat) : ey_A g n 0 = g := by
  funext j
  unfold ey_A
  rw [if_neg (by omega)]
theorem ey_s (g : Nat → Int32) (n i : Nat) : ey_A g n (i + 1) = upd (ey_A g n i) (26 * n + i) (nI 0) := by
  funext j
  by_cases e : j = 26 * n + i
  · rw [e, pk_us]
    unfold ey_A
    rw [if_pos (by omega)]
  · rw [pk_un e]
    unfold ey_A
    by_cases q : 26 * n ≤ j ∧ j < 26 * n + i
    · rw [if_pos q, if_pos (by omega)]
    · rw [if_neg q, if_neg (by omega)]
set_option maxHeartbeats 4000000 in
set_option maxRecDepth 100000 in
theorem ct_Mo_in (l : Launch) (G : va_G) (cA : Nat → ClassId) (v : Int32) (a : Int32) (b : Int32) : Met l xy_Mo_in (.code xy_Mo_in xb_Mo_in 3 (some .boolean) :: tw_W) ({ frames := 0, cells := 0, slots := 0, locals := 0 }) (pc_r G cA [] [.int v, .int a, .int b]) (vp_Si (fun r : Int32 => r = in_R v a b)) 0 0 (fun _ => False) := by
  refine Met.ofW (cc := xb_Mo_in) (maxL := 3) (ret := (some .boolean)) (by decide) rfl ?_
  intro p e s m args below meth c s₁ B hml hv
  obtain ⟨rfl, hK, hP⟩ := hv
  have hx := B.exec
  have hb := B.bytes
  have hr := B.returns
  have hts0 := atoms_spec (ws := .code xy_Mo_in xb_Mo_in 3 (some .boolean) :: tw_W) B.pre
  have hts : ∀ w9 ∈ tw_W, w9.before [.int v, .int a, .int b].toArray s = true := fun w9 h9 => hts0 w9 (List.mem_cons_of_mem _ h9)
  have hown : s.vm.findClass xc_Mo = some m.cls := findClass_of_methodNamed B.named
  have hlocks := B.notSynchronized
  have hP : va_P G xk_cl [] s.heap := hP
  have hl := lv_entry ([.int v, .int a, .int b]) (n := 3) (Nat.le_of_ble_eq_true rfl)
  rw [lg_entry_eq]
  generalize (lg_sl ([.int v, .int a, .int b]) ++ List.replicate (3 - (lg_sl ([.int v, .int a, .int b])).length) Slot.unset).toArray = ls at hl ⊢
  have hl : lv_has ls 3 [(0, .int v), (1, .int a), (2, .int b)] := hl
  refine lv_iload_n hx hb xd_Mo_in_0 rfl (lv_at hl 0 rfl) ?_
  refine lv_iload_n hx hb xd_Mo_in_1 rfl (lv_at hl 1 rfl) ?_
  refine lv_icmp_lt (tgt := 14) hx hb xd_Mo_in_2 (by decide) (fun c_2_0 => ?_) (fun c_2_0 => ?_)
  · refine lv_iconst (v := nI 0) hx hb xd_Mo_in_14 (by decide) ?_
    exact W.zret (v := nI 0) (ty := .boolean) hx hb hr (by decide) (fun T9 ht _ => ⟨_, rfl, by simp [in_R, c_2_0], ht⟩) (fun _ h => absurd h List.not_mem_nil) xd_Mo_in_15
  · refine lv_iload_n hx hb xd_Mo_in_5 rfl (lv_at hl 0 rfl) ?_
    refine lv_iload_n hx hb xd_Mo_in_6 rfl (lv_at hl 2 rfl) ?_
    refine lv_icmp_gt (tgt := 14) hx hb xd_Mo_in_7 (by decide) (fun c_7_1 => ?_) (fun c_7_1 => ?_)
    · refine lv_iconst (v := nI 0) hx hb xd_Mo_in_14 (by decide) ?_
      exact W.zret (v := nI 0) (ty := .boolean) hx hb hr (by decide) (fun T9 ht _ => ⟨_, rfl, by simp [in_R, c_2_0, c_7_1], ht⟩) (fun _ h => absurd h List.not_mem_nil) xd_Mo_in_15
    · refine lv_iconst (v := nI 1) hx hb xd_Mo_in_10 (by decide) ?_
      refine lv_goto (tgt := 15) hx hb xd_Mo_in_11 (by decide) ?_
      exact W.zret (v := nI 1) (ty := .boolean) hx hb hr (by decide) (fun T9 ht _ => ⟨_, rfl, by simp [in_R, c_2_0, c_7_1], ht⟩) (fun _ h => absurd h List.not_mem_nil) xd_Mo_in_15
set_option maxHeartbeats 4000000 in
set_option maxRecDepth 100000 in
theorem ct_Mo_goes (l : Launch) (G : va_G) (cA : Nat → ClassId) (sz : Nat) (mo : Nat) (th : Int32) (ms : Nat) (mk : Nat) (mv : Nat) (mm : Nat) (ml : Nat) (cnt : Nat) (mt : Nat) (mp : Int32) (mn : Int32) (mu : Nat) (ma : Nat) (at_ : Nat) (bd : Int32) (le : Int32) (ob : Int32) (m1 : Nat) (m2 : Nat) (m3 : Nat) (m4 : Nat) (rn : Nat) (pw : Nat) (mc : Nat) (g : Int32) (hg : g = 0 ∨ g = nI 1) : Met l xy_Mo_goes (.code xy_Mo_goes xb_Mo_goes 2 (some .boolean) :: tw_W) ({ frames := 0, cells := 0, slots := 0, locals := 0 }) (pc_w G cA [(mo, .inr (8, [.int th, .ref ms, .ref mk, .ref mv, .int (nI mm), .int (nI ml), .int (nI cnt), .ref mt, .int mp, .int mn, .int (nI mu), .ref ma, .int (nI at_), .int bd, .int le, .int ob, .ref m1, .ref m2, .ref m3, .ref m4, .int (nI rn), .int (nI pw), .ref mc]))] sz [.ref mo, .int g]) (va_Qi (fun (r : Int32) (_ : Unit) => r = g) (fun _ T9 => at_w G (va_A [(mo, .inr (8, [.int th, .ref ms, .ref mk, .ref mv, .int (nI mm), .int (nI ml), .int (nI cnt), .ref mt, .int mp, .int mn, .int (nI mu), .ref ma, .int (nI at_), .int bd, .int le, .int ob, .ref m1, .ref m2, .ref m3, .ref m4, .int (nI rn), .int (nI pw), .ref mc]))] sz) [(mo, .inr (8, [.int (gs_T g), .ref ms, .ref mk, .ref mv, .int (nI mm), .int (nI ml), .int (nI cnt), .ref mt, .int mp, .int mn, .int (nI mu), .ref ma, .int (nI at_), .int bd, .int le, .int ob, .ref m1, .ref m2, .ref m3, .ref m4, .int (nI rn), .int (nI pw), .ref mc]))] T9) (va_A [(mo, .inr (8, [.int th, .ref ms, .ref mk, .ref mv, .int (nI mm), .int (nI ml), .int (nI cnt), .ref mt, .int mp, .int mn, .int (nI mu), .ref ma, .int (nI at_), .int bd, .int le, .int ob, .ref m1, .ref m2, .ref m3, .ref m4, .int (nI rn), .int (nI pw), .ref mc]))] sz)) 0 0 (va_A [(mo, .inr (8, [.int th, .ref ms, .ref mk, .ref mv, .int (nI mm), .int (nI ml), .int (nI cnt), .ref mt, .int mp, .int mn, .int (nI mu), .ref ma, .int (nI at_), .int bd, .int le, .int ob, .ref m1, .ref m2, .ref m3, .ref m4, .int (nI rn), .int (nI pw), .ref mc]))] sz) := by
  refine Met.ofW (cc := xb_Mo_goes) (maxL := 2) (ret := (some .boolean)) (by decide) rfl ?_
  intro p e s m args below meth c s₁ B hml hv
  obtain ⟨rfl, hsz, hK, hP, hD0⟩ := hv
  have hx := B.exec
  have hb := B.bytes
  have hr := B.returns
  have hts0 := atoms_spec (ws := .code xy_Mo_goes xb_Mo_goes 2 (some .boolean) :: tw_W) B.pre
  have hts : ∀ w9 ∈ tw_W, w9.before [.ref mo, .int g].toArray s = true := fun w9 h9 => hts0 w9 (List.mem_cons_of_mem _ h9)
  have hown : s.vm.findClass xc_Mo = some m.cls := findClass_of_methodNamed B.named
  have hlocks := B.notSynchronized
  subst hsz
  have hD := hD0.self (sz := s.heap.size)
  generalize hAe : va_A [(mo, .inr (8, [.int th, .ref ms, .ref mk, .ref mv, .int (nI mm), .int (nI ml), .int (nI cnt), .ref mt, .int mp, .int mn, .int (nI mu), .ref ma, .int (nI at_), .int bd, .int le, .int ob, .ref m1, .ref m2, .ref m3, .ref m4, .int (nI rn), .int (nI pw), .ref mc]))] s.heap.size = A at hD ⊢
  have hA : ∀ q : Nat, s.heap.size ≤ q → A q := fun q h => by rw [← hAe]; exact Or.inr h
  have hS : va_S A s.heap s.heap [] := va_S.rf
  have hP : va_P G xk_cl [(mo, .inr (8, [.int th, .ref ms, .ref mk, .ref mv, .int (nI mm), .int (nI ml), .int (nI cnt), .ref mt, .int mp, .int mn, .int (nI mu), .ref ma, .int (nI at_), .int bd, .int le, .int ob, .ref m1, .ref m2, .ref m3, .ref m4, .int (nI rn), .int (nI pw), .ref mc]))] s.heap := hP
  have hl := lv_entry ([.ref mo, .int g]) (n := 2) (Nat.le_of_ble_eq_true rfl)
  rw [lg_entry_eq]
  generalize (lg_sl ([.ref mo, .int g]) ++ List.replicate (2 - (lg_sl ([.ref mo, .int g])).length) Slot.unset).toArray = ls at hl ⊢
  have hl : lv_has ls 2 [(0, .ref mo), (1, .int g)] := hl
  refine lv_aload_n hx hb xd_Mo_goes_0 rfl (lv_at hl 0 rfl) ?_
  refine lv_iload_n hx hb xd_Mo_goes_1 rfl (lv_at hl 1 rfl) ?_
  refine lv_if_eq (tgt := 9) hx hb xd_Mo_goes_2 (by decide) (fun c_2_0 => ?_) (fun c_2_0 => ?_)
  · refine lv_iconst (v := nI 1) hx hb xd_Mo_goes_9 (by decide) ?_
    refine va_put (D := G) (ci := 8) (v := .int (nI 1)) (ty := .int) (C := xc_Mo) (T := xf_Mo) (N := 23) hx hb hts xw_Mo xt_Mo xt_Mo_ok xn_Mo hown hK.1 hP hD hS 0 rfl rfl 0 (by decide) (hts _ xm_619) (fun _ h9 => h9) rfl (by decide +kernel) rfl rfl (Nat.le_of_ble_eq_true rfl) xd_Mo_goes_10 (fun H locs hP hD hS => ?_)
    have hP : va_P G xk_cl [(mo, .inr (8, [.int (nI 1), .ref ms, .ref mk, .ref mv, .int (nI mm), .int (nI ml), .int (nI cnt), .ref mt, .int mp, .int mn, .int (nI mu), .ref ma, .int (nI at_), .int bd, .int le, .int ob, .ref m1, .ref m2, .ref m3, .ref m4, .int (nI rn), .int (nI pw), .ref mc]))] H := hP
    have hD : va_D A [(mo, .inr (8, [.int (nI 1), .ref ms, .ref mk, .ref mv, .int (nI mm), .int (nI ml), .int (nI cnt), .ref mt, .int mp, .int mn, .int (nI mu), .ref ma, .int (nI at_), .int bd, .int le, .int ob, .ref m1, .ref m2, .ref m3, .ref m4, .int (nI rn), .int (nI pw), .ref mc]))] := hD
    have hP : va_P G xk_cl [(mo, .inr (8, [.int (gs_T g), .ref ms, .ref mk, .ref mv, .int (nI mm), .int (nI ml), .int (nI cnt), .ref mt, .int mp, .int mn, .int (nI mu), .ref ma, .int (nI at_), .int bd, .int le, .int ob, .ref m1, .ref m2, .ref m3, .ref m4, .int (nI rn), .int (nI pw), .ref mc]))] H := by rw [gs_T, if_pos c_2_0]; exact hP
    have hD : va_D A [(mo, .inr (8, [.int (gs_T g), .ref ms, .ref mk, .ref mv, .int (nI mm), .int (nI ml), .int (nI cnt), .ref mt, .int mp, .int mn, .int (nI mu), .ref ma, .int (nI at_), .int bd, .int le, .int ob, .ref m1, .ref m2, .ref m3, .ref m4, .int (nI rn), .int (nI pw), .ref mc]))] := by rw [gs_T, if_pos c_2_0]; exact hD
    refine lv_iload_n hx hb xd_Mo_goes_13 rfl (lv_at hl 1 rfl) ?_
    have hP9 : va_P G xk_cl [(mo, .inr (8, [.int (gs_T g), .ref ms, .ref mk, .ref mv, .int (nI mm), .int (nI ml), .int (nI cnt), .ref mt, .int mp, .int mn, .int (nI mu), .ref ma, .int (nI at_), .int bd, .int le, .int ob, .ref m1, .ref m2, .ref m3, .ref m4, .int (nI rn), .int (nI pw), .ref mc]))] _ := hP.sub [0] rfl
    have hD9 : va_D A [(mo, .inr (8, [.int (gs_T g), .ref ms, .ref mk, .ref mv, .int (nI mm), .int (nI ml), .int (nI cnt), .ref mt, .int mp, .int mn, .int (nI mu), .ref ma, .int (nI at_), .int bd, .int le, .int ob, .ref m1, .ref m2, .ref m3, .ref m4, .int (nI rn), .int (nI pw), .ref mc]))] := hD.sub [0] (by decide) rfl
    exact W.zret (v := g) (ty := .boolean) hx hb hr (by rcases hg with rfl | rfl <;> decide) (fun T9 ht hW => ⟨⟨_, (), rfl, rfl, by rw [ht]; exact hP9, hD9⟩, hS.F ht⟩) hS.2.2 xd_Mo_goes_14
  · refine lv_iconst (v := nI 0) hx hb xd_Mo_goes_5 (by decide) ?_
    refine lv_goto (tgt := 10) hx hb xd_Mo_goes_6 (by decide) ?_
    refine va_put (D := G) (ci := 8) (v := .int (nI 0)) (ty := .int) (C := xc_Mo) (T := xf_Mo) (N := 23) hx hb hts xw_Mo xt_Mo xt_Mo_ok xn_Mo hown hK.1 hP hD hS 0 rfl rfl 0 (by decide) (hts _ xm_619) (fun _ h9 => h9) rfl (by decide +kernel) rfl rfl (Nat.le_of_ble_eq_true rfl) xd_Mo_goes_10 (fun H locs hP hD hS => ?_)
    have hP : va_P G xk_cl [(mo, .inr (8, [.int (nI 0), .ref ms, .ref mk, .ref mv, .int (nI mm), .int (nI ml), .int (nI cnt), .ref mt, .int mp, .int mn, .int (nI mu), .ref ma, .int (nI at_), .int bd, .int le, .int ob, .ref m1, .ref m2, .ref m3, .ref m4, .int (nI rn), .int (nI pw), .ref mc]))] H := hP
    have hD : va_D A [(mo, .inr (8, [.int (nI 0), .ref ms, .ref mk, .ref mv, .int (nI mm), .int (nI ml), .int (nI cnt), .ref mt, .int mp, .int mn, .int (nI mu), .ref ma, .int (nI at_), .int bd, .int le, .int ob, .ref m1, .ref m2, .ref m3, .ref m4, .int (nI rn), .int (nI pw), .ref mc]))] := hD
    have hP : va_P G xk_cl [(mo, .inr (8, [.int (gs_T g), .ref ms, .ref mk, .ref mv, .int (nI mm), .int (nI ml), .int (nI cnt), .ref mt, .int mp, .int mn, .int (nI mu), .ref ma, .int (nI at_), .int bd, .int le, .int ob, .ref m1, .ref m2, .ref m3, .ref m4, .int (nI rn), .int (nI pw), .ref mc]))] H := by rw [gs_T, if_neg c_2_0]; exact hP
    have hD : va_D A [(mo, .inr (8, [.int (gs_T g), .ref ms, .ref mk, .ref mv, .int (nI mm), .int (nI ml), .int (nI cnt), .ref mt, .int mp, .int mn, .int (nI mu), .ref ma, .int (nI at_), .int bd, .int le, .int ob, .ref m1, .ref m2, .ref m3, .ref m4, .int (nI rn), .int (nI pw), .ref mc]))] := by rw [gs_T, if_neg c_2_0]; exact hD
    refine lv_iload_n hx hb xd_Mo_goes_13 rfl (lv_at hl 1 rfl) ?_
    have hP9 : va_P G xk_cl [(mo, .inr (8, [.int (gs_T g), .ref ms, .ref mk, .ref mv, .int (nI mm), .int (nI ml), .int (nI cnt), .ref mt, .int mp, .int mn, .int (nI mu), .ref ma, .int (nI at_), .int bd, .int le, .int ob, .ref m1, .ref m2, .ref m3, .ref m4, .int (nI rn), .int (nI pw), .ref mc]))] _ := hP.sub [0] rfl
    have hD9 : va_D A [(mo, .inr (8, [.int (gs_T g), .ref ms, .ref mk, .ref mv, .int (nI mm), .int (nI ml), .int (nI cnt), .ref mt, .int mp, .int mn, .int (nI mu), .ref ma, .int (nI at_), .int bd, .int le, .int ob, .ref m1, .ref m2, .ref m3, .ref m4, .int (nI rn), .int (nI pw), .ref mc]))] := hD.sub [0] (by decide) rfl
    exact W.zret (v := g) (ty := .boolean) hx hb hr (by rcases hg with rfl | rfl <;> decide) (fun T9 ht hW => ⟨⟨_, (), rfl, rfl, by rw [ht]; exact hP9, hD9⟩, hS.F ht⟩) hS.2.2 xd_Mo_goes_14
set_option maxHeartbeats 4000000 in
set_option maxRecDepth 100000 in
theorem ct_Mo_copy (l : Launch) (G : va_G) (cA : Nat → ClassId) (sz : Nat) (mo : Nat) (th : Int32) (ms : Nat) (mk : Nat) (mv : Nat) (mm : Nat) (ml : Nat) (cnt : Nat) (mt : Nat) (mp : Int32) (mn : Int32) (mu : Nat) (ma : Nat) (at_ : Nat) (bd : Int32) (le : Int32) (ob : Int32) (m1 : Nat) (m2 : Nat) (m3 : Nat) (m4 : Nat) (rn : Nat) (pw : Nat) (mc : Nat) (sa : Nat → Int32) (kd : Nat → Int32) (vl : Nat → Int32) (f : Nat) (t : Nat) (hf : f < 18) (ht_ : t < 18) (hft : ¬ f = t) : Met l xy_Mo_copy (.code xy_Mo_copy xb_Mo_copy 4 none :: tw_W) ({ frames := 0, cells := 0, slots := 0, locals := 0 }) (pc_w G cA [(mo, .inr (8, [.int th, .ref ms, .ref mk, .ref mv, .int (nI mm), .int (nI ml), .int (nI cnt), .ref mt, .int mp, .int mn, .int (nI mu), .ref ma, .int (nI at_), .int bd, .int le, .int ob, .ref m1, .ref m2, .ref m3, .ref m4, .int (nI rn), .int (nI pw), .ref mc])), (ms, .inl (cA 0, 720, .inl sa)), (mk, .inl (cA 0, 18720, .inl kd)), (mv, .inl (cA 0, 18720, .inl vl))] sz [.ref mo, .int (nI f), .int (nI t)]) (va_Qv (fun _ : Unit => True) (fun _ T9 => at_w G (va_A [(mo, .inr (8, [.int th, .ref ms, .ref mk, .ref mv, .int (nI mm), .int (nI ml), .int (nI cnt), .ref mt, .int mp, .int mn, .int (nI mu), .ref ma, .int (nI at_), .int bd, .int le, .int ob, .ref m1, .ref m2, .ref m3, .ref m4, .int (nI rn), .int (nI pw), .ref mc])), (ms, .inl (cA 0, 720, .inl sa)), (mk, .inl (cA 0, 18720, .inl kd)), (mv, .inl (cA 0, 18720, .inl vl))] sz) [(mo, .inr (8, [.int th, .ref ms, .ref mk, .ref mv, .int (nI mm), .int (nI ml), .int (nI cnt), .ref mt, .int mp, .int mn, .int (nI mu), .ref ma, .int (nI at_), .int bd, .int le, .int ob, .ref m1, .ref m2, .ref m3, .ref m4, .int (nI rn), .int (nI pw), .ref mc])), (ms, .inl (cA 0, 720, .inl (cp_A 40 f t sa 40))), (mk, .inl (cA 0, 18720, .inl (cp_A 1040 f t kd 1040))), (mv, .inl (cA 0, 18720, .inl (cp_A 1040 f t vl 1040)))] T9) (va_A [(mo, .inr (8, [.int th, .ref ms, .ref mk, .ref mv, .int (nI mm), .int (nI ml), .int (nI cnt), .ref mt, .int mp, .int mn, .int (nI mu), .ref ma, .int (nI at_), .int bd, .int le, .int ob, .ref m1, .ref m2, .ref m3, .ref m4, .int (nI rn), .int (nI pw), .ref mc])), (ms, .inl (cA 0, 720, .inl sa)), (mk, .inl (cA 0, 18720, .inl kd)), (mv, .inl (cA 0, 18720, .inl vl))] sz)) 0 0 (va_A [(mo, .inr (8, [.int th, .ref ms, .ref mk, .ref mv, .int (nI mm), .int (nI ml), .int (nI cnt), .ref mt, .int mp, .int mn, .int (nI mu), .ref ma, .int (nI at_), .int bd, .int le, .int ob, .ref m1, .ref m2, .ref m3, .ref m4, .int (nI rn), .int (nI pw), .ref mc])), (ms, .inl (cA 0, 720, .inl sa)), (mk, .inl (cA 0, 18720, .inl kd)), (mv, .inl (cA 0, 18720, .inl vl))] sz) := by
  refine Met.ofW (cc := xb_Mo_copy) (maxL := 4) (ret := none) (by decide) rfl ?_
  intro p e s m args below meth c s₁ B hml hv
  obtain ⟨rfl, hsz, hK, hP, hD0⟩ := hv
  have hx := B.exec
  have hb := B.bytes
  have hr := B.returns
  have hts0 := atoms_spec (ws := .code xy_Mo_copy xb_Mo_copy 4 none :: tw_W) B.pre
  have hts : ∀ w9 ∈ tw_W, w9.before [.ref mo, .int (nI f), .int (nI t)].toArray s = true := fun w9 h9 => hts0 w9 (List.mem_cons_of_mem _ h9)
  have hown : s.vm.findClass xc_Mo = some m.cls := findClass_of_methodNamed B.named
  have hlocks := B.notSynchronized
  subst hsz
  have hD := hD0.self (sz := s.heap.size)
  generalize hAe : va_A [(mo, .inr (8, [.int th, .ref ms, .ref mk, .ref mv, .int (nI mm), .int (nI ml), .int (nI cnt), .ref mt, .int mp, .int mn, .int (nI mu), .ref ma, .int (nI at_), .int bd, .int le, .int ob, .ref m1, .ref m2, .ref m3, .ref m4, .int (nI rn), .int (nI pw), .ref mc])), (ms, .inl (cA 0, 720, .inl sa)), (mk, .inl (cA 0, 18720, .inl kd)), (mv, .inl (cA 0, 18720, .inl vl))] s.heap.size = A at hD ⊢
  have hA : ∀ q : Nat, s.heap.size ≤ q → A q := fun q h => by rw [← hAe]; exact Or.inr h
  have hS : va_S A s.heap s.heap [] := va_S.rf
  have hP : va_P G xk_cl [(mo, .inr (8, [.int th, .ref ms, .ref mk, .ref mv, .int (nI mm), .int (nI ml), .int (nI cnt), .ref mt, .int mp, .int mn, .int (nI mu), .ref ma, .int (nI at_), .int bd, .int le, .int ob, .ref m1, .ref m2, .ref m3, .ref m4, .int (nI rn), .int (nI pw), .ref mc])), (ms, .inl (cA 0, 720, .inl sa)), (mk, .inl (cA 0, 18720, .inl kd)), (mv, .inl (cA 0, 18720, .inl vl))] s.heap := hP
  have hl := lv_entry ([.ref mo, .int (nI f), .int (nI t)]) (n := 4) (Nat.le_of_ble_eq_true rfl)
  rw [lg_entry_eq]
  generalize (lg_sl ([.ref mo, .int (nI f), .int (nI t)]) ++ List.replicate (4 - (lg_sl ([.ref mo, .int (nI f), .int (nI t)])).length) Slot.unset).toArray = ls at hl ⊢
  have hl : lv_has ls 4 [(0, .ref mo), (1, .int (nI f)), (2, .int (nI t))] := hl
  refine lv_iconst (v := nI 0) hx hb xd_Mo_copy_0 (by decide) ?_
  refine lv_istore_n (lv' := [(3, .int (nI 0)), (0, .ref mo), (1, .int (nI f)), (2, .int (nI t))]) hx hb xd_Mo_copy_1 rfl hl (by decide) rfl (fun ls hl => ?_)
  have hP : va_P G xk_cl [(mo, .inr (8, [.int th, .ref ms, .ref mk, .ref mv, .int (nI mm), .int (nI ml), .int (nI cnt), .ref mt, .int mp, .int mn, .int (nI mu), .ref ma, .int (nI at_), .int bd, .int le, .int ob, .ref m1, .ref m2, .ref m3, .ref m4, .int (nI rn), .int (nI pw), .ref mc])), (ms, .inl (cA 0, 720, .inl (cp_A 40 f t sa 0))), (mk, .inl (cA 0, 18720, .inl kd)), (mv, .inl (cA 0, 18720, .inl vl))] s.heap := by rw [cp_0]; exact hP
  have hD : va_D A [(mo, .inr (8, [.int th, .ref ms, .ref mk, .ref mv, .int (nI mm), .int (nI ml), .int (nI cnt), .ref mt, .int mp, .int mn, .int (nI mu), .ref ma, .int (nI at_), .int bd, .int le, .int ob, .ref m1, .ref m2, .ref m3, .ref m4, .int (nI rn), .int (nI pw), .ref mc])), (ms, .inl (cA 0, 720, .inl (cp_A 40 f t sa 0))), (mk, .inl (cA 0, 18720, .inl kd)), (mv, .inl (cA 0, 18720, .inl vl))] := by rw [cp_0]; exact hD
  have lp : ∀ (k_lp : Nat) (i : Nat), (i ≤ 40) → 40 - i < k_lp → ∀ (H : Heap) (locs : List Loc), va_P G xk_cl [(mo, .inr (8, [.int th, .ref ms, .ref mk, .ref mv, .int (nI mm), .int (nI ml), .int (nI cnt), .ref mt, .int mp, .int mn, .int (nI mu), .ref ma, .int (nI at_), .int bd, .int le, .int ob, .ref m1, .ref m2, .ref m3, .ref m4, .int (nI rn), .int (nI pw), .ref mc])), (ms, .inl (cA 0, 720, .inl (cp_A 40 f t sa i))), (mk, .inl (cA 0, 18720, .inl kd)), (mv, .inl (cA 0, 18720, .inl vl))] H → va_D A [(mo, .inr (8, [.int th, .ref ms, .ref mk, .ref mv, .int (nI mm), .int (nI ml), .int (nI cnt), .ref mt, .int mp, .int mn, .int (nI mu), .ref ma, .int (nI at_), .int bd, .int le, .int ob, .ref m1, .ref m2, .ref m3, .ref m4, .int (nI rn), .int (nI pw), .ref mc])), (ms, .inl (cA 0, 720, .inl (cp_A 40 f t sa i))), (mk, .inl (cA 0, 18720, .inl kd)), (mv, .inl (cA 0, 18720, .inl vl))] → va_S A s.heap H locs → ∀ (ls : Array Slot), lv_has ls 4 [(0, .ref mo), (1, .int (nI f)), (2, .int (nI t)), (3, .int (nI i))] → W p l e (headSpec (.code xy_Mo_copy xb_Mo_copy 4 none :: tw_W) ({ frames := 0, cells := 0, slots := 0, locals := 0 })).room s m ([.ref mo, .int (nI f), .int (nI t)] : List Value).toArray below meth c H locs 0 0 (MQ below (va_Qv (fun _ : Unit => True) (fun _ T9 => at_w G A [(mo, .inr (8, [.int th, .ref ms, .ref mk, .ref mv, .int (nI mm), .int (nI ml), .int (nI cnt), .ref mt, .int mp, .int mn, .int (nI mu), .ref ma, .int (nI at_), .int bd, .int le, .int ob, .ref m1, .ref m2, .ref m3, .ref m4, .int (nI rn), .int (nI pw), .ref mc])), (ms, .inl (cA 0, 720, .inl (cp_A 40 f t sa 40))), (mk, .inl (cA 0, 18720, .inl (cp_A 1040 f t kd 1040))), (mv, .inl (cA 0, 18720, .inl (cp_A 1040 f t vl 1040)))] T9) A) ([.ref mo, .int (nI f), .int (nI t)] : List Value).toArray s 0 0 A) (F0 m 2 ls []) := by
    intro k_lp
    induction k_lp with
    | zero =>
      intro i hi_ hk_lp
      exact absurd hk_lp (Nat.not_lt_zero _)
    | succ k_lp ih_lp =>
      intro i hi_ hk_lp H locs hP hD hS ls hl
      refine lv_iload_n hx hb xd_Mo_copy_2 rfl (lv_at hl 3 rfl) ?_
      refine lv_bipush (v := nI 40) hx hb xd_Mo_copy_3 (by decide) ?_
      refine lv_icmp_ge (tgt := 36) hx hb xd_Mo_copy_5 (by decide) (fun c_5_0 => ?_) (fun c_5_0 => ?_)
      · have e_i : i = 40 := Nat.le_antisymm hi_ (nI_gle (by decide) (by omega) c_5_0)
        subst e_i
        refine lv_iconst (v := nI 0) hx hb xd_Mo_copy_36 (by decide) ?_
        refine lv_istore_n (lv' := [(3, .int (nI 0)), (0, .ref mo), (1, .int (nI f)), (2, .int (nI t))]) hx hb xd_Mo_copy_37 rfl hl (by decide) rfl (fun ls hl => ?_)
        have hP : va_P G xk_cl [(mo, .inr (8, [.int th, .ref ms, .ref mk, .ref mv, .int (nI mm), .int (nI ml), .int (nI cnt), .ref mt, .int mp, .int mn, .int (nI mu), .ref ma, .int (nI at_), .int bd, .int le, .int ob, .ref m1, .ref m2, .ref m3, .ref m4, .int (nI rn), .int (nI pw), .ref mc])), (ms, .inl (cA 0, 720, .inl (cp_A 40 f t sa 40))), (mk, .inl (cA 0, 18720, .inl (cp_A 1040 f t kd 0))), (mv, .inl (cA 0, 18720, .inl (cp_A 1040 f t vl 0)))] H := by rw [cp_0, cp_0]; exact hP
        have hD : va_D A [(mo, .inr (8, [.int th, .ref ms, .ref mk, .ref mv, .int (nI mm), .int (nI ml), .int (nI cnt), .ref mt, .int mp, .int mn, .int (nI mu), .ref ma, .int (nI at_), .int bd, .int le, .int ob, .ref m1, .ref m2, .ref m3, .ref m4, .int (nI rn), .int (nI pw), .ref mc])), (ms, .inl (cA 0, 720, .inl (cp_A 40 f t sa 40))), (mk, .inl (cA 0, 18720, .inl (cp_A 1040 f t kd 0))), (mv, .inl (cA 0, 18720, .inl (cp_A 1040 f t vl 0)))] := by rw [cp_0, cp_0]; exact hD
        have lq : ∀ (k_lq : Nat) (j : Nat), (j ≤ 1040) → 1040 - j < k_lq → ∀ (H : Heap) (locs : List Loc), va_P G xk_cl [(mo, .inr (8, [.int th, .ref ms, .ref mk, .ref mv, .int (nI mm), .int (nI ml), .int (nI cnt), .ref mt, .int mp, .int mn, .int (nI mu), .ref ma, .int (nI at_), .int bd, .int le, .int ob, .ref m1, .ref m2, .ref m3, .ref m4, .int (nI rn), .int (nI pw), .ref mc])), (ms, .inl (cA 0, 720, .inl (cp_A 40 f t sa 40))), (mk, .inl (cA 0, 18720, .inl (cp_A 1040 f t kd j))), (mv, .inl (cA 0, 18720, .inl (cp_A 1040 f t vl j)))] H → va_D A [(mo, .inr (8, [.int th, .ref ms, .ref mk, .ref mv, .int (nI mm), .int (nI ml), .int (nI cnt), .ref mt, .int mp, .int mn, .int (nI mu), .ref ma, .int (nI at_), .int bd, .int le, .int ob, .ref m1, .ref m2, .ref m3, .ref m4, .int (nI rn), .int (nI pw), .ref mc])), (ms, .inl (cA 0, 720, .inl (cp_A 40 f t sa 40))), (mk, .inl (cA 0, 18720, .inl (cp_A 1040 f t kd j))), (mv, .inl (cA 0, 18720, .inl (cp_A 1040 f t vl j)))] → va_S A s.heap H locs → ∀ (ls : Array Slot), lv_has ls 4 [(0, .ref mo), (1, .int (nI f)), (2, .int (nI t)), (3, .int (nI j))] → W p l e (headSpec (.code xy_Mo_copy xb_Mo_copy 4 none :: tw_W) ({ frames := 0, cells := 0, slots := 0, locals := 0 })).room s m ([.ref mo, .int (nI f), .int (nI t)] : List Value).toArray below meth c H locs 0 0 (MQ below (va_Qv (fun _ : Unit => True) (fun _ T9 => at_w G A [(mo, .inr (8, [.int th, .ref ms, .ref mk, .ref mv, .int (nI mm), .int (nI ml), .int (nI cnt), .ref mt, .int mp, .int mn, .int (nI mu), .ref ma, .int (nI at_), .int bd, .int le, .int ob, .ref m1, .ref m2, .ref m3, .ref m4, .int (nI rn), .int (nI pw), .ref mc])), (ms, .inl (cA 0, 720, .inl (cp_A 40 f t sa 40))), (mk, .inl (cA 0, 18720, .inl (cp_A 1040 f t kd 1040))), (mv, .inl (cA 0, 18720, .inl (cp_A 1040 f t vl 1040)))] T9) A) ([.ref mo, .int (nI f), .int (nI t)] : List Value).toArray s 0 0 A) (F0 m 38 ls []) := by
          intro k_lq
          induction k_lq with
          | zero =>
            intro j hj_ hk_lq
            exact absurd hk_lq (Nat.not_lt_zero _)
          | succ k_lq ih_lq =>
            intro j hj_ hk_lq H locs hP hD hS ls hl
            refine lv_iload_n hx hb xd_Mo_copy_38 rfl (lv_at hl 3 rfl) ?_
            refine lv_sipush (v := nI 1040) hx hb xd_Mo_copy_39 (by decide) ?_
            refine lv_icmp_ge (tgt := 99) hx hb xd_Mo_copy_42 (by decide) (fun c_42_1 => ?_) (fun c_42_1 => ?_)
            · have e_j : j = 1040 := Nat.le_antisymm hj_ (nI_gle (by decide) (by omega) c_42_1)
              subst e_j
              have hP9 : va_P G xk_cl [(mo, .inr (8, [.int th, .ref ms, .ref mk, .ref mv, .int (nI mm), .int (nI ml), .int (nI cnt), .ref mt, .int mp, .int mn, .int (nI mu), .ref ma, .int (nI at_), .int bd, .int le, .int ob, .ref m1, .ref m2, .ref m3, .ref m4, .int (nI rn), .int (nI pw), .ref mc])), (ms, .inl (cA 0, 720, .inl (cp_A 40 f t sa 40))), (mk, .inl (cA 0, 18720, .inl (cp_A 1040 f t kd 1040))), (mv, .inl (cA 0, 18720, .inl (cp_A 1040 f t vl 1040)))] _ := hP.sub [0, 1, 2, 3] rfl
              have hD9 : va_D A [(mo, .inr (8, [.int th, .ref ms, .ref mk, .ref mv, .int (nI mm), .int (nI ml), .int (nI cnt), .ref mt, .int mp, .int mn, .int (nI mu), .ref ma, .int (nI at_), .int bd, .int le, .int ob, .ref m1, .ref m2, .ref m3, .ref m4, .int (nI rn), .int (nI pw), .ref mc])), (ms, .inl (cA 0, 720, .inl (cp_A 40 f t sa 40))), (mk, .inl (cA 0, 18720, .inl (cp_A 1040 f t kd 1040))), (mv, .inl (cA 0, 18720, .inl (cp_A 1040 f t vl 1040)))] := hD.sub [0, 1, 2, 3] (by decide) rfl
              exact W.vret hx hb hr (fun T9 ht hW => ⟨⟨(), rfl, trivial, by rw [ht]; exact hP9, hD9⟩, hS.F ht⟩) hS.2.2 xd_Mo_copy_99
            · have e_j := nI_gnl (by decide) (by omega) c_42_1
              refine lv_aload_n hx hb xd_Mo_copy_45 rfl (lv_at hl 0 rfl) ?_
              refine va_get (D := G) (ci := 8) (v := .ref mk) (C := xc_Mo) (T := xf_Mo) (N := 23) hx hb hts xw_Mo hown hK.1 hP 0 rfl rfl 2 (by decide) (hts _ xm_621) (fun _ h9 => h9) rfl xd_Mo_copy_46 ?_
              refine lv_sipush (v := nI 1040) hx hb xd_Mo_copy_49 (by decide) ?_
              refine lv_iload_n hx hb xd_Mo_copy_52 rfl (lv_at hl 2 rfl) ?_
              refine lx_imul (z := nI (1040 * t)) hx hb xd_Mo_copy_53 (pk_mul _ _) ?_
              refine lv_iload_n hx hb xd_Mo_copy_54 rfl (lv_at hl 3 rfl) ?_
              refine lx_iadd (z := nI (1040 * t + j)) hx hb xd_Mo_copy_55 (nI_add _ _) ?_
              refine lv_aload_n hx hb xd_Mo_copy_56 rfl (lv_at hl 0 rfl) ?_
              refine va_get (D := G) (ci := 8) (v := .ref mk) (C := xc_Mo) (T := xf_Mo) (N := 23) hx hb hts xw_Mo hown hK.1 hP 0 rfl rfl 2 (by decide) (hts _ xm_621) (fun _ h9 => h9) rfl xd_Mo_copy_57 ?_
              refine lv_sipush (v := nI 1040) hx hb xd_Mo_copy_60 (by decide) ?_
              refine lv_iload_n hx hb xd_Mo_copy_63 rfl (lv_at hl 1 rfl) ?_
              refine lx_imul (z := nI (1040 * f)) hx hb xd_Mo_copy_64 (pk_mul _ _) ?_
              refine lv_iload_n hx hb xd_Mo_copy_65 rfl (lv_at hl 3 rfl) ?_
              refine lx_iadd (z := nI (1040 * f + j)) hx hb xd_Mo_copy_66 (nI_add _ _) ?_
              refine wx_iald hx hb hK.1 hP 2 0 rfl rfl (k := 1040 * f + j) (by omega) (by decide) xd_Mo_copy_67 ?_
              refine wx_iast hx hb hK.1 hP hD hS 2 0 rfl rfl (k := 1040 * t + j) (z := (cp_A 1040 f t kd j) (1040 * f + j)) (rfl) (by omega) (by decide) xd_Mo_copy_68 (fun H locs hP hD hS => ?_)
              have hP : va_P G xk_cl [(mo, .inr (8, [.int th, .ref ms, .ref mk, .ref mv, .int (nI mm), .int (nI ml), .int (nI cnt), .ref mt, .int mp, .int mn, .int (nI mu), .ref ma, .int (nI at_), .int bd, .int le, .int ob, .ref m1, .ref m2, .ref m3, .ref m4, .int (nI rn), .int (nI pw), .ref mc])), (ms, .inl (cA 0, 720, .inl (cp_A 40 f t sa 40))), (mk, .inl (cA 0, 18720, .inl (upd (cp_A 1040 f t kd j) (1040 * t + j) ((cp_A 1040 f t kd j) (1040 * f + j))))), (mv, .inl (cA 0, 18720, .inl (cp_A 1040 f t vl j)))] H := hP
              have hD : va_D A [(mo, .inr (8, [.int th, .ref ms, .ref mk, .ref mv, .int (nI mm), .int (nI ml), .int (nI cnt), .ref mt, .int mp, .int mn, .int (nI mu), .ref ma, .int (nI at_), .int bd, .int le, .int ob, .ref m1, .ref m2, .ref m3, .ref m4, .int (nI rn), .int (nI pw), .ref mc])), (ms, .inl (cA 0, 720, .inl (cp_A 40 f t sa 40))), (mk, .inl (cA 0, 18720, .inl (upd (cp_A 1040 f t kd j) (1040 * t + j) ((cp_A 1040 f t kd j) (1040 * f + j))))), (mv, .inl (cA 0, 18720, .inl (cp_A 1040 f t vl j)))] := hD
              refine lv_aload_n hx hb xd_Mo_copy_69 rfl (lv_at hl 0 rfl) ?_
              refine va_get (D := G) (ci := 8) (v := .ref mv) (C := xc_Mo) (T := xf_Mo) (N := 23) hx hb hts xw_Mo hown hK.1 hP 0 rfl rfl 3 (by decide) (hts _ xm_622) (fun _ h9 => h9) rfl xd_Mo_copy_70 ?_
              refine lv_sipush (v := nI 1040) hx hb xd_Mo_copy_73 (by decide) ?_
              refine lv_iload_n hx hb xd_Mo_copy_76 rfl (lv_at hl 2 rfl) ?_
              refine lx_imul (z := nI (1040 * t)) hx hb xd_Mo_copy_77 (pk_mul _ _) ?_
              refine lv_iload_n hx hb xd_Mo_copy_78 rfl (lv_at hl 3 rfl) ?_
              refine lx_iadd (z := nI (1040 * t + j)) hx hb xd_Mo_copy_79 (nI_add _ _) ?_
              refine lv_aload_n hx hb xd_Mo_copy_80 rfl (lv_at hl 0 rfl) ?_
              refine va_get (D := G) (ci := 8) (v := .ref mv) (C := xc_Mo) (T := xf_Mo) (N := 23) hx hb hts xw_Mo hown hK.1 hP 0 rfl rfl 3 (by decide) (hts _ xm_622) (fun _ h9 => h9) rfl xd_Mo_copy_81 ?_
              refine lv_sipush (v := nI 1040) hx hb xd_Mo_copy_84 (by decide) ?_
              refine lv_iload_n hx hb xd_Mo_copy_87 rfl (lv_at hl 1 rfl) ?_
              refine lx_imul (z := nI (1040 * f)) hx hb xd_Mo_copy_88 (pk_mul _ _) ?_
              refine lv_iload_n hx hb xd_Mo_copy_89 rfl (lv_at hl 3 rfl) ?_
              refine lx_iadd (z := nI (1040 * f + j)) hx hb xd_Mo_copy_90 (nI_add _ _) ?_
              refine wx_iald hx hb hK.1 hP 3 0 rfl rfl (k := 1040 * f + j) (by omega) (by decide) xd_Mo_copy_91 ?_
              refine wx_iast hx hb hK.1 hP hD hS 3 0 rfl rfl (k := 1040 * t + j) (z := (cp_A 1040 f t vl j) (1040 * f + j)) (rfl) (by omega) (by decide) xd_Mo_copy_92 (fun H locs hP hD hS => ?_)
              have hP : va_P G xk_cl [(mo, .inr (8, [.int th, .ref ms, .ref mk, .ref mv, .int (nI mm), .int (nI ml), .int (nI cnt), .ref mt, .int mp, .int mn, .int (nI mu), .ref ma, .int (nI at_), .int bd, .int le, .int ob, .ref m1, .ref m2, .ref m3, .ref m4, .int (nI rn), .int (nI pw), .ref mc])), (ms, .inl (cA 0, 720, .inl (cp_A 40 f t sa 40))), (mk, .inl (cA 0, 18720, .inl (upd (cp_A 1040 f t kd j) (1040 * t + j) ((cp_A 1040 f t kd j) (1040 * f + j))))), (mv, .inl (cA 0, 18720, .inl (upd (cp_A 1040 f t vl j) (1040 * t + j) ((cp_A 1040 f t vl j) (1040 * f + j)))))] H := hP
              have hD : va_D A [(mo, .inr (8, [.int th, .ref ms, .ref mk, .ref mv, .int (nI mm), .int (nI ml), .int (nI cnt), .ref mt, .int mp, .int mn, .int (nI mu), .ref ma, .int (nI at_), .int bd, .int le, .int ob, .ref m1, .ref m2, .ref m3, .ref m4, .int (nI rn), .int (nI pw), .ref mc])), (ms, .inl (cA 0, 720, .inl (cp_A 40 f t sa 40))), (mk, .inl (cA 0, 18720, .inl (upd (cp_A 1040 f t kd j) (1040 * t + j) ((cp_A 1040 f t kd j) (1040 * f + j))))), (mv, .inl (cA 0, 18720, .inl (upd (cp_A 1040 f t vl j) (1040 * t + j) ((cp_A 1040 f t vl j) (1040 * f + j)))))] := hD
              refine lv_iinc (v := nI (j + 1)) (lv' := [(3, .int (nI (j + 1))), (0, .ref mo), (1, .int (nI f)), (2, .int (nI t))]) hx hb xd_Mo_copy_93 hl (k := 3) rfl (nI_inc _) (by decide) rfl (fun ls hl => ?_)
              refine lv_goto (tgt := 38) hx hb xd_Mo_copy_96 (by decide) ?_
              have hP : va_P G xk_cl [(mo, .inr (8, [.int th, .ref ms, .ref mk, .ref mv, .int (nI mm), .int (nI ml), .int (nI cnt), .ref mt, .int mp, .int mn, .int (nI mu), .ref ma, .int (nI at_), .int bd, .int le, .int ob, .ref m1, .ref m2, .ref m3, .ref m4, .int (nI rn), .int (nI pw), .ref mc])), (ms, .inl (cA 0, 720, .inl (cp_A 40 f t sa 40))), (mk, .inl (cA 0, 18720, .inl (cp_A 1040 f t kd (j + 1)))), (mv, .inl (cA 0, 18720, .inl (cp_A 1040 f t vl (j + 1))))] H := by rw [cp_s kd (by omega) e_j, cp_s vl (by omega) e_j]; exact hP
              have hD : va_D A [(mo, .inr (8, [.int th, .ref ms, .ref mk, .ref mv, .int (nI mm), .int (nI ml), .int (nI cnt), .ref mt, .int mp, .int mn, .int (nI mu), .ref ma, .int (nI at_), .int bd, .int le, .int ob, .ref m1, .ref m2, .ref m3, .ref m4, .int (nI rn), .int (nI pw), .ref mc])), (ms, .inl (cA 0, 720, .inl (cp_A 40 f t sa 40))), (mk, .inl (cA 0, 18720, .inl (cp_A 1040 f t kd (j + 1)))), (mv, .inl (cA 0, 18720, .inl (cp_A 1040 f t vl (j + 1))))] := by rw [cp_s kd (by omega) e_j, cp_s vl (by omega) e_j]; exact hD
              exact ih_lq (j + 1) (by omega) (by omega) _ _ (hP.sub [0, 1, 2, 3] rfl) (hD.sub [0, 1, 2, 3] (by decide) rfl) hS ls (lv_sub hl [1, 2, 3, 0] rfl)
        exact lq ((1040 - 0) + 1) 0 (by omega) (Nat.lt_succ_self _) _ _ (hP.sub [0, 1, 2, 3] rfl) (hD.sub [0, 1, 2, 3] (by decide) rfl) hS ls (lv_sub hl [1, 2, 3, 0] rfl)
      · have e_i := nI_gnl (by decide) (by omega) c_5_0
        refine lv_aload_n hx hb xd_Mo_copy_8 rfl (lv_at hl 0 rfl) ?_
        refine va_get (D := G) (ci := 8) (v := .ref ms) (C := xc_Mo) (T := xf_Mo) (N := 23) hx hb hts xw_Mo hown hK.1 hP 0 rfl rfl 1 (by decide) (hts _ xm_620) (fun _ h9 => h9) rfl xd_Mo_copy_9 ?_
        refine lv_bipush (v := nI 40) hx hb xd_Mo_copy_12 (by decide) ?_
        refine lv_iload_n hx hb xd_Mo_copy_14 rfl (lv_at hl 2 rfl) ?_
        refine lx_imul (z := nI (40 * t)) hx hb xd_Mo_copy_15 (pk_mul _ _) ?_
        refine lv_iload_n hx hb xd_Mo_copy_16 rfl (lv_at hl 3 rfl) ?_
        refine lx_iadd (z := nI (40 * t + i)) hx hb xd_Mo_copy_17 (nI_add _ _) ?_
        refine lv_aload_n hx hb xd_Mo_copy_18 rfl (lv_at hl 0 rfl) ?_
        refine va_get (D := G) (ci := 8) (v := .ref ms) (C := xc_Mo) (T := xf_Mo) (N := 23) hx hb hts xw_Mo hown hK.1 hP 0 rfl rfl 1 (by decide) (hts _ xm_620) (fun _ h9 => h9) rfl xd_Mo_copy_19 ?_
        refine lv_bipush (v := nI 40) hx hb xd_Mo_copy_22 (by decide) ?_
        refine lv_iload_n hx hb xd_Mo_copy_24 rfl (lv_at hl 1 rfl) ?_
        refine lx_imul (z := nI (40 * f)) hx hb xd_Mo_copy_25 (pk_mul _ _) ?_
        refine lv_iload_n hx hb xd_Mo_copy_26 rfl (lv_at hl 3 rfl) ?_
        refine lx_iadd (z := nI (40 * f + i)) hx hb xd_Mo_copy_27 (nI_add _ _) ?_
        refine wx_iald hx hb hK.1 hP 1 0 rfl rfl (k := 40 * f + i) (by omega) (by decide) xd_Mo_copy_28 ?_
        refine wx_iast hx hb hK.1 hP hD hS 1 0 rfl rfl (k := 40 * t + i) (z := (cp_A 40 f t sa i) (40 * f + i)) (rfl) (by omega) (by decide) xd_Mo_copy_29 (fun H locs hP hD hS => ?_)
        have hP : va_P G xk_cl [(mo, .inr (8, [.int th, .ref ms, .ref mk, .ref mv, .int (nI mm), .int (nI ml), .int (nI cnt), .ref mt, .int mp, .int mn, .int (nI mu), .ref ma, .int (nI at_), .int bd, .int le, .int ob, .ref m1, .ref m2, .ref m3, .ref m4, .int (nI rn), .int (nI pw), .ref mc])), (ms, .inl (cA 0, 720, .inl (upd (cp_A 40 f t sa i) (40 * t + i) ((cp_A 40 f t sa i) (40 * f + i))))), (mk, .inl (cA 0, 18720, .inl kd)), (mv, .inl (cA 0, 18720, .inl vl))] H := hP
        have hD : va_D A [(mo, .inr (8, [.int th, .ref ms, .ref mk, .ref mv, .int (nI mm), .int (nI ml), .int (nI cnt), .ref mt, .int mp, .int mn, .int (nI mu), .ref ma, .int (nI at_), .int bd, .int le, .int ob, .ref m1, .ref m2, .ref m3, .ref m4, .int (nI rn), .int (nI pw), .ref mc])), (ms, .inl (cA 0, 720, .inl (upd (cp_A 40 f t sa i) (40 * t + i) ((cp_A 40 f t sa i) (40 * f + i))))), (mk, .inl (cA 0, 18720, .inl kd)), (mv, .inl (cA 0, 18720, .inl vl))] := hD
        refine lv_iinc (v := nI (i + 1)) (lv' := [(3, .int (nI (i + 1))), (0, .ref mo), (1, .int (nI f)), (2, .int (nI t))]) hx hb xd_Mo_copy_30 hl (k := 3) rfl (nI_inc _) (by decide) rfl (fun ls hl => ?_)
        refine lv_goto (tgt := 2) hx hb xd_Mo_copy_33 (by decide) ?_
        have hP : va_P G xk_cl [(mo, .inr (8, [.int th, .ref ms, .ref mk, .ref mv, .int (nI mm), .int (nI ml), .int (nI cnt), .ref mt, .int mp, .int mn, .int (nI mu), .ref ma, .int (nI at_), .int bd, .int le, .int ob, .ref m1, .ref m2, .ref m3, .ref m4, .int (nI rn), .int (nI pw), .ref mc])), (ms, .inl (cA 0, 720, .inl (cp_A 40 f t sa (i + 1)))), (mk, .inl (cA 0, 18720, .inl kd)), (mv, .inl (cA 0, 18720, .inl vl))] H := by rw [cp_s sa (by omega) e_i]; exact hP
        have hD : va_D A [(mo, .inr (8, [.int th, .ref ms, .ref mk, .ref mv, .int (nI mm), .int (nI ml), .int (nI cnt), .ref mt, .int mp, .int mn, .int (nI mu), .ref ma, .int (nI at_), .int bd, .int le, .int ob, .ref m1, .ref m2, .ref m3, .ref m4, .int (nI rn), .int (nI pw), .ref mc])), (ms, .inl (cA 0, 720, .inl (cp_A 40 f t sa (i + 1)))), (mk, .inl (cA 0, 18720, .inl kd)), (mv, .inl (cA 0, 18720, .inl vl))] := by rw [cp_s sa (by omega) e_i]; exact hD
        exact ih_lp (i + 1) (by omega) (by omega) _ _ (hP.sub [0, 1, 2, 3] rfl) (hD.sub [0, 1, 2, 3] (by decide) rfl) hS ls (lv_sub hl [1, 2, 3, 0] rfl)
  exact lp ((40 - 0) + 1) 0 (by omega) (Nat.lt_succ_self _) _ _ (hP.sub [0, 1, 2, 3] rfl) (hD.sub [0, 1, 2, 3] (by decide) rfl) hS ls (lv_sub hl [1, 2, 3, 0] rfl)
set_option maxHeartbeats 4000000 in
set_option maxRecDepth 100000 in
theorem ct_Mo_empty (l : Launch) (G : va_G) (cA : Nat → ClassId) (sz : Nat) (mo : Nat) (th : Int32) (ms : Nat) (mk : Nat) (mv : Nat) (mm : Nat) (ml : Nat) (cnt : Nat) (mt : Nat) (mp : Int32) (mn : Int32) (mu : Nat) (ma : Nat) (at_ : Nat) (bd : Int32) (le : Int32) (ob : Int32) (m1 : Nat) (m2 : Nat) (m3 : Nat) (m4 : Nat) (rn : Nat) (pw : Nat) (mc : Nat) (kd : Nat → Int32) (vl : Nat → Int32) (n : Nat) (hn : n < 40) : Met l xy_Mo_empty (.code xy_Mo_empty xb_Mo_empty 3 none :: tw_W) ({ frames := 0, cells := 0, slots := 0, locals := 0 }) (pc_w G cA [(mo, .inr (8, [.int th, .ref ms, .ref mk, .ref mv, .int (nI mm), .int (nI ml), .int (nI cnt), .ref mt, .int mp, .int mn, .int (nI mu), .ref ma, .int (nI at_), .int bd, .int le, .int ob, .ref m1, .ref m2, .ref m3, .ref m4, .int (nI rn), .int (nI pw), .ref mc])), (mk, .inl (cA 0, 18720, .inl kd)), (mv, .inl (cA 0, 18720, .inl vl))] sz [.ref mo, .int (nI n)]) (va_Qv (fun _ : Unit => True) (fun _ T9 => at_w G (va_A [(mo, .inr (8, [.int th, .ref ms, .ref mk, .ref mv, .int (nI mm), .int (nI ml), .int (nI cnt), .ref mt, .int mp, .int mn, .int (nI mu), .ref ma, .int (nI at_), .int bd, .int le, .int ob, .ref m1, .ref m2, .ref m3, .ref m4, .int (nI rn), .int (nI pw), .ref mc])), (mk, .inl (cA 0, 18720, .inl kd)), (mv, .inl (cA 0, 18720, .inl vl))] sz) [(mo, .inr (8, [.int th, .ref ms, .ref mk, .ref mv, .int (nI mm), .int (nI ml), .int (nI cnt), .ref mt, .int mp, .int mn, .int (nI mu), .ref ma, .int (nI at_), .int bd, .int le, .int ob, .ref m1, .ref m2, .ref m3, .ref m4, .int (nI rn), .int (nI pw), .ref mc])), (mk, .inl (cA 0, 18720, .inl (ey_A kd n 26))), (mv, .inl (cA 0, 18720, .inl (ey_A vl n 26)))] T9) (va_A [(mo, .inr (8, [.int th, .ref ms, .ref mk, .ref mv, .int (nI mm), .int (nI ml), .int (nI cnt), .ref mt, .int mp, .int mn, .int (nI mu), .ref ma, .int (nI at_), .int bd, .int le, .int ob, .ref m1, .ref m2, .ref m3, .ref m4, .int (nI rn), .int (nI pw), .ref mc])), (mk, .inl (cA 0, 18720, .inl kd)), (mv, .inl (cA 0, 18720, .inl vl))] sz)) 0 0 (va_A [(mo, .inr (8, [.int th, .ref ms, .ref mk, .ref mv, .int (nI mm), .int (nI ml), .int (nI cnt), .ref mt, .int mp, .int mn, .int (nI mu), .ref ma, .int (nI at_), .int bd, .int le, .int ob, .ref m1, .ref m2, .ref m3, .ref m4, .int (nI rn), .int (nI pw), .ref mc])), (mk, .inl (cA 0, 18720, .inl kd)), (mv, .inl (cA 0, 18720, .inl vl))] sz) := by
  refine Met.ofW (cc := xb_Mo_empty) (maxL := 3) (ret := none) (by decide) rfl ?_
  intro p e s m args below meth c s₁ B hml hv
  obtain ⟨rfl, hsz, hK, hP, hD0⟩ := hv
  have hx := B.exec
  have hb := B.bytes
  have hr := B.returns
  have hts0 := atoms_spec (ws := .code xy_Mo_empty xb_Mo_empty 3 none :: tw_W) B.pre
  have hts : ∀ w9 ∈ tw_W, w9.before [.ref mo, .int (nI n)].toArray s = true := fun w9 h9 => hts0 w9 (List.mem_cons_of_mem _ h9)
  have hown : s.vm.findClass xc_Mo = some m.cls := findClass_of_methodNamed B.named
  have hlocks := B.notSynchronized
  subst hsz
  have hD := hD0.self (sz := s.heap.size)
  generalize hAe : va_A [(mo, .inr (8, [.int th, .ref ms, .ref mk, .ref mv, .int (nI mm), .int (nI ml), .int (nI cnt), .ref mt, .int mp, .int mn, .int (nI mu), .ref ma, .int (nI at_), .int bd, .int le, .int ob, .ref m1, .ref m2, .ref m3, .ref m4, .int (nI rn), .int (nI pw), .ref mc])), (mk, .inl (cA 0, 18720, .inl kd)), (mv, .inl (cA 0, 18720, .inl vl))] s.heap.size = A at hD ⊢
  have hA : ∀ q : Nat, s.heap.size ≤ q → A q := fun q h => by rw [← hAe]; exact Or.inr h
  have hS : va_S A s.heap s.heap [] := va_S.rf
  have hP : va_P G xk_cl [(mo, .inr (8, [.int th, .ref ms, .ref mk, .ref mv, .int (nI mm), .int (nI ml), .int (nI cnt), .ref mt, .int mp, .int mn, .int (nI mu), .ref ma, .int (nI at_), .int bd, .int le, .int ob, .ref m1, .ref m2, .ref m3, .ref m4, .int (nI rn), .int (nI pw), .ref mc])), (mk, .inl (cA 0, 18720, .inl kd)), (mv, .inl (cA 0, 18720, .inl vl))] s.heap := hP
  have hl := lv_entry ([.ref mo, .int (nI n)]) (n := 3) (Nat.le_of_ble_eq_true rfl)
  rw [lg_entry_eq]
  generalize (lg_sl ([.ref mo, .int (nI n)]) ++ List.replicate (3 - (lg_sl ([.ref mo, .int (nI n)])).length) Slot.unset).toArray = ls at hl ⊢
  have hl : lv_has ls 3 [(0, .ref mo), (1, .int (nI n))] := hl
  refine lv_bipush (v := nI 26) hx hb xd_Mo_empty_0 (by decide) ?_
  refine lv_iload_n hx hb xd_Mo_empty_2 rfl (lv_at hl 1 rfl) ?_
  refine lx_imul (z := nI (26 * n)) hx hb xd_Mo_empty_3 (pk_mul _ _) ?_
  refine lv_istore_n (lv' := [(2, .int (nI (26 * n))), (0, .ref mo), (1, .int (nI n))]) hx hb xd_Mo_empty_4 rfl hl (by decide) rfl (fun ls hl => ?_)
  have hP : va_P G xk_cl [(mo, .inr (8, [.int th, .ref ms, .ref mk, .ref mv, .int (nI mm), .int (nI ml), .int (nI cnt), .ref mt, .int mp, .int mn, .int (nI mu), .ref ma, .int (nI at_), .int bd, .int le, .int ob, .ref m1, .ref m2, .ref m3, .ref m4, .int (nI rn), .int (nI pw), .ref mc])), (mk, .inl (cA 0, 18720, .inl (ey_A kd n 0))), (mv, .inl (cA 0, 18720, .inl (ey_A vl n 0)))] s.heap := by rw [ey_0, ey_0]; exact hP
  have hD : va_D A [(mo, .inr (8, [.int th, .ref ms, .ref mk, .ref mv, .int (nI mm), .int (nI ml), .int (nI cnt), .ref mt, .int mp, .int mn, .int (nI mu), .ref ma, .int (nI at_), .int bd, .int le, .int ob, .ref m1, .ref m2, .ref m3, .ref m4, .int (nI rn), .int (nI pw), .ref mc])), (mk, .inl (cA 0, 18720, .inl (ey_A kd n 0))), (mv, .inl (cA 0, 18720, .inl (ey_A vl n 0)))] := by rw [ey_0, ey_0]; exact hD
  have hl : lv_has ls 3 [(2, .int (nI (26 * n + 0))), (0, .ref mo), (1, .int (nI n))] := by rw [Nat.add_zero]; exact hl
  have lp : ∀ (k_lp : Nat) (i : Nat), (i ≤ 26) → 26 - i < k_lp → ∀ (H : Heap) (locs : List Loc), va_P G xk_cl [(mo, .inr (8, [.int th, .ref ms, .ref mk, .ref mv, .int (nI mm), .int (nI ml), .int (nI cnt), .ref mt, .int mp, .int mn, .int (nI mu), .ref ma, .int (nI at_), .int bd, .int le, .int ob, .ref m1, .ref m2, .ref m3, .ref m4, .int (nI rn), .int (nI pw), .ref mc])), (mk, .inl (cA 0, 18720, .inl (ey_A kd n i))), (mv, .inl (cA 0, 18720, .inl (ey_A vl n i)))] H → va_D A [(mo, .inr (8, [.int th, .ref ms, .ref mk, .ref mv, .int (nI mm), .int (nI ml), .int (nI cnt), .ref mt, .int mp, .int mn, .int (nI mu), .ref ma, .int (nI at_), .int bd, .int le, .int ob, .ref m1, .ref m2, .ref m3, .ref m4, .int (nI rn), .int (nI pw), .ref mc])), (mk, .inl (cA 0, 18720, .inl (ey_A kd n i))), (mv, .inl (cA 0, 18720, .inl (ey_A vl n i)))] → va_S A s.heap H locs → ∀ (ls : Array Slot), lv_has ls 3 [(0, .ref mo), (1, .int (nI n)), (2, .int (nI (26 * n + i)))] → W p l e (headSpec (.code xy_Mo_empty xb_Mo_empty 3 none :: tw_W) ({ frames := 0, cells := 0, slots := 0, locals := 0 })).room s m ([.ref mo, .int (nI n)] : List Value).toArray below meth c H locs 0 0 (MQ below (va_Qv (fun _ : Unit => True) (fun _ T9 => at_w G A [(mo, .inr (8, [.int th, .ref ms, .ref mk, .ref mv, .int (nI mm), .int (nI ml), .int (nI cnt), .ref mt, .int mp, .int mn, .int (nI mu), .ref ma, .int (nI at_), .int bd, .int le, .int ob, .ref m1, .ref m2, .ref m3, .ref m4, .int (nI rn), .int (nI pw), .ref mc])), (mk, .inl (cA 0, 18720, .inl (ey_A kd n 26))), (mv, .inl (cA 0, 18720, .inl (ey_A vl n 26)))] T9) A) ([.ref mo, .int (nI n)] : List Value).toArray s 0 0 A) (F0 m 5 ls []) := by
    intro k_lp
    induction k_lp with
    | zero =>
      intro i hi_ hk_lp
      exact absurd hk_lp (Nat.not_lt_zero _)
    | succ k_lp ih_lp =>
      intro i hi_ hk_lp H locs hP hD hS ls hl
      refine lv_iload_n hx hb xd_Mo_empty_5 rfl (lv_at hl 2 rfl) ?_
      refine lv_bipush (v := nI 26) hx hb xd_Mo_empty_6 (by decide) ?_
      refine lv_iload_n hx hb xd_Mo_empty_8 rfl (lv_at hl 1 rfl) ?_
      refine lx_imul (z := nI (26 * n)) hx hb xd_Mo_empty_9 (pk_mul _ _) ?_
      refine lv_bipush (v := nI 26) hx hb xd_Mo_empty_10 (by decide) ?_
      refine lx_iadd (z := nI (26 * n + 26)) hx hb xd_Mo_empty_12 (nI_add _ _) ?_
      refine lv_icmp_ge (tgt := 36) hx hb xd_Mo_empty_13 (by decide) (fun c_13_0 => ?_) (fun c_13_0 => ?_)
      · have e_i : i = 26 := by have := nI_gle (by omega) (by omega) c_13_0; omega
        subst e_i
        have hP9 : va_P G xk_cl [(mo, .inr (8, [.int th, .ref ms, .ref mk, .ref mv, .int (nI mm), .int (nI ml), .int (nI cnt), .ref mt, .int mp, .int mn, .int (nI mu), .ref ma, .int (nI at_), .int bd, .int le, .int ob, .ref m1, .ref m2, .ref m3, .ref m4, .int (nI rn), .int (nI pw), .ref mc])), (mk, .inl (cA 0, 18720, .inl (ey_A kd n 26))), (mv, .inl (cA 0, 18720, .inl (ey_A vl n 26)))] _ := hP.sub [0, 1, 2] rfl
        have hD9 : va_D A [(mo, .inr (8, [.int th, .ref ms, .ref mk, .ref mv, .int (nI mm), .int (nI ml), .int (nI cnt), .ref mt, .int mp, .int mn, .int (nI mu), .ref ma, .int (nI at_), .int bd, .int le, .int ob, .ref m1, .ref m2, .ref m3, .ref m4, .int (nI rn), .int (nI pw), .ref mc])), (mk, .inl (cA 0, 18720, .inl (ey_A kd n 26))), (mv, .inl (cA 0, 18720, .inl (ey_A vl n 26)))] := hD.sub [0, 1, 2] (by decide) rfl
        exact W.vret hx hb hr (fun T9 ht hW => ⟨⟨(), rfl, trivial, by rw [ht]; exact hP9, hD9⟩, hS.F ht⟩) hS.2.2 xd_Mo_empty_36
      · have e_i := nI_gnl (by omega) (by omega) c_13_0
        refine lv_aload_n hx hb xd_Mo_empty_16 rfl (lv_at hl 0 rfl) ?_
        refine va_get (D := G) (ci := 8) (v := .ref mk) (C := xc_Mo) (T := xf_Mo) (N := 23) hx hb hts xw_Mo hown hK.1 hP 0 rfl rfl 2 (by decide) (hts _ xm_621) (fun _ h9 => h9) rfl xd_Mo_empty_17 ?_
        refine lv_iload_n hx hb xd_Mo_empty_20 rfl (lv_at hl 2 rfl) ?_
        refine lv_iconst (v := nI 0) hx hb xd_Mo_empty_21 (by decide) ?_
        refine wx_iast hx hb hK.1 hP hD hS 1 0 rfl rfl (k := 26 * n + i) (z := nI 0) (rfl) (by omega) (by decide) xd_Mo_empty_22 (fun H locs hP hD hS => ?_)
        have hP : va_P G xk_cl [(mo, .inr (8, [.int th, .ref ms, .ref mk, .ref mv, .int (nI mm), .int (nI ml), .int (nI cnt), .ref mt, .int mp, .int mn, .int (nI mu), .ref ma, .int (nI at_), .int bd, .int le, .int ob, .ref m1, .ref m2, .ref m3, .ref m4, .int (nI rn), .int (nI pw), .ref mc])), (mk, .inl (cA 0, 18720, .inl (upd (ey_A kd n i) (26 * n + i) (nI 0)))), (mv, .inl (cA 0, 18720, .inl (ey_A vl n i)))] H := hP
        have hD : va_D A [(mo, .inr (8, [.int th, .ref ms, .ref mk, .ref mv, .int (nI mm), .int (nI ml), .int (nI cnt), .ref mt, .int mp, .int mn, .int (nI mu), .ref ma, .int (nI at_), .int bd, .int le, .int ob, .ref m1, .ref m2, .ref m3, .ref m4, .int (nI rn), .int (nI pw), .ref mc])), (mk, .inl (cA 0, 18720, .inl (upd (ey_A kd n i) (26 * n + i) (nI 0)))), (mv, .inl (cA 0, 18720, .inl (ey_A vl n i)))] := hD
        refine lv_aload_n hx hb xd_Mo_empty_23 rfl (lv_at hl 0 rfl) ?_
        refine va_get (D := G) (ci := 8) (v := .ref mv) (C := xc_Mo) (T := xf_Mo) (N := 23) hx hb hts xw_Mo hown hK.1 hP 0 rfl rfl 3 (by decide) (hts _ xm_622) (fun _ h9 => h9) rfl xd_Mo_empty_24 ?_
        refine lv_iload_n hx hb xd_Mo_empty_27 rfl (lv_at hl 2 rfl) ?_
        refine lv_iconst (v := nI 0) hx hb xd_Mo_empty_28 (by decide) ?_
        refine wx_iast hx hb hK.1 hP hD hS 2 0 rfl rfl (k := 26 * n + i) (z := nI 0) (rfl) (by omega) (by decide) xd_Mo_empty_29 (fun H locs hP hD hS => ?_)
        have hP : va_P G xk_cl [(mo, .inr (8, [.int th, .ref ms, .ref mk, .ref mv, .int (nI mm), .int (nI ml), .int (nI cnt), .ref mt, .int mp, .int mn, .int (nI mu), .ref ma, .int (nI at_), .int bd, .int le, .int ob, .ref m1, .ref m2, .ref m3, .ref m4, .int (nI rn), .int (nI pw), .ref mc])), (mk, .inl (cA 0, 18720, .inl (upd (ey_A kd n i) (26 * n + i) (nI 0)))), (mv, .inl (cA 0, 18720, .inl (upd (ey_A vl n i) (26 * n + i) (nI 0))))] H := hP
        have hD : va_D A [(mo, .inr (8, [.int th, .ref ms, .ref mk, .ref mv, .int (nI mm), .int (nI ml), .int (nI cnt), .ref mt, .int mp, .int mn, .int (nI mu), .ref ma, .int (nI at_), .int bd, .int le, .int ob, .ref m1, .ref m2, .ref m3, .ref m4, .int (nI rn), .int (nI pw), .ref mc])), (mk, .inl (cA 0, 18720, .inl (upd (ey_A kd n i) (26 * n + i) (nI 0)))), (mv, .inl (cA 0, 18720, .inl (upd (ey_A vl n i) (26 * n + i) (nI 0))))] := hD
        refine lv_iinc (v := nI (26 * n + i + 1)) (lv' := [(2, .int (nI (26 * n + i + 1))), (0, .ref mo), (1, .int (nI n))]) hx hb xd_Mo_empty_30 hl (k := 2) rfl (nI_inc _) (by decide) rfl (fun ls hl => ?_)
        refine lv_goto (tgt := 5) hx hb xd_Mo_empty_33 (by decide) ?_
        have hP : va_P G xk_cl [(mo, .inr (8, [.int th, .ref ms, .ref mk, .ref mv, .int (nI mm), .int (nI ml), .int (nI cnt), .ref mt, .int mp, .int mn, .int (nI mu), .ref ma, .int (nI at_), .int bd, .int le, .int ob, .ref m1, .ref m2, .ref m3, .ref m4, .int (nI rn), .int (nI pw), .ref mc])), (mk, .inl (cA 0, 18720, .inl (ey_A kd n (i + 1)))), (mv, .inl (cA 0, 18720, .inl (ey_A vl n (i + 1))))] H := by rw [ey_s, ey_s]; exact hP
        have hD : va_D A [(mo, .inr (8, [.int th, .ref ms, .ref mk, .ref mv, .int (nI mm), .int (nI ml), .int (nI cnt), .ref mt, .int mp, .int mn, .int (nI mu), .ref ma, .int (nI at_), .int bd, .int le, .int ob, .ref m1, .ref m2, .ref m3, .ref m4, .int (nI rn), .int (nI pw), .ref mc])), (mk, .inl (cA 0, 18720, .inl (ey_A kd n (i + 1)))), (mv, .inl (cA 0, 18720, .inl (ey_A vl n (i + 1))))] := by rw [ey_s, ey_s]; exact hD
        have hl : lv_has ls 3 [(2, .int (nI (26 * n + (i + 1)))), (0, .ref mo), (1, .int (nI n))] := by rw [← Nat.add_assoc]; exact hl
        exact ih_lp (i + 1) (by omega) (by omega) _ _ (hP.sub [0, 1, 2] rfl) (hD.sub [0, 1, 2] (by decide) rfl) hS ls (lv_sub hl [1, 2, 0] rfl)
  exact lp ((26 - 0) + 1) 0 (by omega) (Nat.lt_succ_self _) _ _ (hP.sub [0, 1, 2] rfl) (hD.sub [0, 1, 2] (by decide) rfl) hS ls (lv_sub hl [1, 2, 0] rfl)
