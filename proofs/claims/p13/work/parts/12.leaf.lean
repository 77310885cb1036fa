def sp_ob (n : Int32) : Int32 := if n < 0 then nI 0 else if nI 40 ≤ n then nI 0 else nI 1
def sp_ky (n : Int32) : Int32 := if n < 0 then nI 0 else if nI 26 ≤ n then nI 0 else nI 1
theorem sp_ob_t {k : Nat} (h : k < 40) : sp_ob (nI k) = nI 1 := by rw [sp_ob, if_neg (nI_pos (by omega)), if_neg (nI_ge h (by decide))]
theorem sp_ky_t {k : Nat} (h : k < 26) : sp_ky (nI k) = nI 1 := by rw [sp_ky, if_neg (nI_pos (by omega)), if_neg (nI_ge h (by decide))]
theorem sp_ob_f {k : Nat} (h : 40 ≤ k) (h2 : k < 2147483648) : sp_ob (nI k) = nI 0 := by rw [sp_ob, if_neg (nI_pos h2), if_pos (nI_le h h2)]
set_option maxHeartbeats 4000000 in
set_option maxRecDepth 100000 in
theorem ct_X_isObject (l : Launch) (G : va_G) (cA : Nat → ClassId) (n : Int32) : Met l xy_X_isObject (.code xy_X_isObject xb_X_isObject 1 (some .boolean) :: tw_W) ({ frames := 0, cells := 0, slots := 0, locals := 0 }) (pc_r G cA [] [.int n]) (vp_Si (fun r : Int32 => r = sp_ob n)) 0 0 (fun _ => False) := by
  refine Met.ofW (cc := xb_X_isObject) (maxL := 1) (ret := (some .boolean)) (by decide) rfl ?_
  intro p e s m args below meth c s₁ B hml hv
  obtain ⟨rfl, hK, hP⟩ := hv
  have hx := B.exec
  have hb := B.bytes
  have hr := B.returns
  have hts0 := atoms_spec (ws := .code xy_X_isObject xb_X_isObject 1 (some .boolean) :: tw_W) B.pre
  have hts : ∀ w9 ∈ tw_W, w9.before [.int n].toArray s = true := fun w9 h9 => hts0 w9 (List.mem_cons_of_mem _ h9)
  have hown : s.vm.findClass xc_X = some m.cls := findClass_of_methodNamed B.named
  have hlocks := B.notSynchronized
  have hP : va_P G xk_cl [] s.heap := hP
  have hl := lv_entry ([.int n]) (n := 1) (Nat.le_of_ble_eq_true rfl)
  rw [lg_entry_eq]
  generalize (lg_sl ([.int n]) ++ List.replicate (1 - (lg_sl ([.int n])).length) Slot.unset).toArray = ls at hl ⊢
  have hl : lv_has ls 1 [(0, .int n)] := hl
  refine lv_iload_n hx hb xd_X_isObject_0 rfl (lv_at hl 0 rfl) ?_
  refine lv_if_lt (tgt := 14) hx hb xd_X_isObject_1 (by decide) (fun c_1_0 => ?_) (fun c_1_0 => ?_)
  · refine lv_iconst (v := nI 0) hx hb xd_X_isObject_14 (by decide) ?_
    exact W.zret (v := nI 0) (ty := .boolean) hx hb hr (by decide) (fun T9 ht _ => ⟨_, rfl, by simp [sp_ob, c_1_0], ht⟩) (fun _ h => absurd h List.not_mem_nil) xd_X_isObject_15
  · refine lv_iload_n hx hb xd_X_isObject_4 rfl (lv_at hl 0 rfl) ?_
    refine lv_bipush (v := nI 40) hx hb xd_X_isObject_5 (by decide) ?_
    refine lv_icmp_ge (tgt := 14) hx hb xd_X_isObject_7 (by decide) (fun c_7_1 => ?_) (fun c_7_1 => ?_)
    · refine lv_iconst (v := nI 0) hx hb xd_X_isObject_14 (by decide) ?_
      exact W.zret (v := nI 0) (ty := .boolean) hx hb hr (by decide) (fun T9 ht _ => ⟨_, rfl, by simp [sp_ob, c_1_0, c_7_1], ht⟩) (fun _ h => absurd h List.not_mem_nil) xd_X_isObject_15
    · refine lv_iconst (v := nI 1) hx hb xd_X_isObject_10 (by decide) ?_
      refine lv_goto (tgt := 15) hx hb xd_X_isObject_11 (by decide) ?_
      exact W.zret (v := nI 1) (ty := .boolean) hx hb hr (by decide) (fun T9 ht _ => ⟨_, rfl, by simp [sp_ob, c_1_0, c_7_1], ht⟩) (fun _ h => absurd h List.not_mem_nil) xd_X_isObject_15
set_option maxHeartbeats 4000000 in
set_option maxRecDepth 100000 in
theorem ct_X_isKey (l : Launch) (G : va_G) (cA : Nat → ClassId) (n : Int32) : Met l xy_X_isKey (.code xy_X_isKey xb_X_isKey 1 (some .boolean) :: tw_W) ({ frames := 0, cells := 0, slots := 0, locals := 0 }) (pc_r G cA [] [.int n]) (vp_Si (fun r : Int32 => r = sp_ky n)) 0 0 (fun _ => False) := by
  refine Met.ofW (cc := xb_X_isKey) (maxL := 1) (ret := (some .boolean)) (by decide) rfl ?_
  intro p e s m args below meth c s₁ B hml hv
  obtain ⟨rfl, hK, hP⟩ := hv
  have hx := B.exec
  have hb := B.bytes
  have hr := B.returns
  have hts0 := atoms_spec (ws := .code xy_X_isKey xb_X_isKey 1 (some .boolean) :: tw_W) B.pre
  have hts : ∀ w9 ∈ tw_W, w9.before [.int n].toArray s = true := fun w9 h9 => hts0 w9 (List.mem_cons_of_mem _ h9)
  have hown : s.vm.findClass xc_X = some m.cls := findClass_of_methodNamed B.named
  have hlocks := B.notSynchronized
  have hP : va_P G xk_cl [] s.heap := hP
  have hl := lv_entry ([.int n]) (n := 1) (Nat.le_of_ble_eq_true rfl)
  rw [lg_entry_eq]
  generalize (lg_sl ([.int n]) ++ List.replicate (1 - (lg_sl ([.int n])).length) Slot.unset).toArray = ls at hl ⊢
  have hl : lv_has ls 1 [(0, .int n)] := hl
  refine lv_iload_n hx hb xd_X_isKey_0 rfl (lv_at hl 0 rfl) ?_
  refine lv_if_lt (tgt := 14) hx hb xd_X_isKey_1 (by decide) (fun c_1_0 => ?_) (fun c_1_0 => ?_)
  · refine lv_iconst (v := nI 0) hx hb xd_X_isKey_14 (by decide) ?_
    exact W.zret (v := nI 0) (ty := .boolean) hx hb hr (by decide) (fun T9 ht _ => ⟨_, rfl, by simp [sp_ky, c_1_0], ht⟩) (fun _ h => absurd h List.not_mem_nil) xd_X_isKey_15
  · refine lv_iload_n hx hb xd_X_isKey_4 rfl (lv_at hl 0 rfl) ?_
    refine lv_bipush (v := nI 26) hx hb xd_X_isKey_5 (by decide) ?_
    refine lv_icmp_ge (tgt := 14) hx hb xd_X_isKey_7 (by decide) (fun c_7_1 => ?_) (fun c_7_1 => ?_)
    · refine lv_iconst (v := nI 0) hx hb xd_X_isKey_14 (by decide) ?_
      exact W.zret (v := nI 0) (ty := .boolean) hx hb hr (by decide) (fun T9 ht _ => ⟨_, rfl, by simp [sp_ky, c_1_0, c_7_1], ht⟩) (fun _ h => absurd h List.not_mem_nil) xd_X_isKey_15
    · refine lv_iconst (v := nI 1) hx hb xd_X_isKey_10 (by decide) ?_
      refine lv_goto (tgt := 15) hx hb xd_X_isKey_11 (by decide) ?_
      exact W.zret (v := nI 1) (ty := .boolean) hx hb hr (by decide) (fun T9 ht _ => ⟨_, rfl, by simp [sp_ky, c_1_0, c_7_1], ht⟩) (fun _ h => absurd h List.not_mem_nil) xd_X_isKey_15
def en_C (k x : Int32) : Int32 := x <<< (nI 2 &&& 31) ||| k
def en_K (x : Int32) : Int32 := x &&& nI 3
def en_V (x : Int32) : Int32 := x >>> (nI 2 &&& 31)
set_option maxHeartbeats 4000000 in
set_option maxRecDepth 100000 in
theorem ct_X_cellOf (l : Launch) (G : va_G) (cA : Nat → ClassId) (k : Int32) (x : Int32) : Met l xy_X_cellOf (.code xy_X_cellOf xb_X_cellOf 2 (some .int) :: tw_W) ({ frames := 0, cells := 0, slots := 0, locals := 0 }) (pc_r G cA [] [.int k, .int x]) (vp_Si (fun r : Int32 => r = en_C k x)) 0 0 (fun _ => False) := by
  refine Met.ofW (cc := xb_X_cellOf) (maxL := 2) (ret := (some .int)) (by decide) rfl ?_
  intro p e s m args below meth c s₁ B hml hv
  obtain ⟨rfl, hK, hP⟩ := hv
  have hx := B.exec
  have hb := B.bytes
  have hr := B.returns
  have hts0 := atoms_spec (ws := .code xy_X_cellOf xb_X_cellOf 2 (some .int) :: tw_W) B.pre
  have hts : ∀ w9 ∈ tw_W, w9.before [.int k, .int x].toArray s = true := fun w9 h9 => hts0 w9 (List.mem_cons_of_mem _ h9)
  have hown : s.vm.findClass xc_X = some m.cls := findClass_of_methodNamed B.named
  have hlocks := B.notSynchronized
  have hP : va_P G xk_cl [] s.heap := hP
  have hl := lv_entry ([.int k, .int x]) (n := 2) (Nat.le_of_ble_eq_true rfl)
  rw [lg_entry_eq]
  generalize (lg_sl ([.int k, .int x]) ++ List.replicate (2 - (lg_sl ([.int k, .int x])).length) Slot.unset).toArray = ls at hl ⊢
  have hl : lv_has ls 2 [(0, .int k), (1, .int x)] := hl
  refine lv_iload_n hx hb xd_X_cellOf_0 rfl (lv_at hl 1 rfl) ?_
  refine lv_iconst (v := nI 2) hx hb xd_X_cellOf_1 (by decide) ?_
  refine lx_ishl (z := x <<< (nI 2 &&& 31)) hx hb xd_X_cellOf_2 (rfl) ?_
  refine lv_iload_n hx hb xd_X_cellOf_3 rfl (lv_at hl 0 rfl) ?_
  refine lx_ior (z := (x <<< (nI 2 &&& 31)) ||| k) hx hb xd_X_cellOf_4 (rfl) ?_
  exact W.iret (v := (x <<< (nI 2 &&& 31)) ||| k) hx hb hr (fun T9 ht _ => ⟨_, rfl, rfl, ht⟩) (fun _ h => absurd h List.not_mem_nil) xd_X_cellOf_5
set_option maxHeartbeats 4000000 in
set_option maxRecDepth 100000 in
theorem ct_X_kindOf (l : Launch) (G : va_G) (cA : Nat → ClassId) (x : Int32) : Met l xy_X_kindOf (.code xy_X_kindOf xb_X_kindOf 1 (some .int) :: tw_W) ({ frames := 0, cells := 0, slots := 0, locals := 0 }) (pc_r G cA [] [.int x]) (vp_Si (fun r : Int32 => r = en_K x)) 0 0 (fun _ => False) := by
  refine Met.ofW (cc := xb_X_kindOf) (maxL := 1) (ret := (some .int)) (by decide) rfl ?_
  intro p e s m args below meth c s₁ B hml hv
  obtain ⟨rfl, hK, hP⟩ := hv
  have hx := B.exec
  have hb := B.bytes
  have hr := B.returns
  have hts0 := atoms_spec (ws := .code xy_X_kindOf xb_X_kindOf 1 (some .int) :: tw_W) B.pre
  have hts : ∀ w9 ∈ tw_W, w9.before [.int x].toArray s = true := fun w9 h9 => hts0 w9 (List.mem_cons_of_mem _ h9)
  have hown : s.vm.findClass xc_X = some m.cls := findClass_of_methodNamed B.named
  have hlocks := B.notSynchronized
  have hP : va_P G xk_cl [] s.heap := hP
  have hl := lv_entry ([.int x]) (n := 1) (Nat.le_of_ble_eq_true rfl)
  rw [lg_entry_eq]
  generalize (lg_sl ([.int x]) ++ List.replicate (1 - (lg_sl ([.int x])).length) Slot.unset).toArray = ls at hl ⊢
  have hl : lv_has ls 1 [(0, .int x)] := hl
  refine lv_iload_n hx hb xd_X_kindOf_0 rfl (lv_at hl 0 rfl) ?_
  refine lv_iconst (v := nI 3) hx hb xd_X_kindOf_1 (by decide) ?_
  refine lx_iand (z := x &&& (nI 3)) hx hb xd_X_kindOf_2 (rfl) ?_
  exact W.iret (v := x &&& (nI 3)) hx hb hr (fun T9 ht _ => ⟨_, rfl, rfl, ht⟩) (fun _ h => absurd h List.not_mem_nil) xd_X_kindOf_3
set_option maxHeartbeats 4000000 in
set_option maxRecDepth 100000 in
theorem ct_X_contentOf (l : Launch) (G : va_G) (cA : Nat → ClassId) (x : Int32) : Met l xy_X_contentOf (.code xy_X_contentOf xb_X_contentOf 1 (some .int) :: tw_W) ({ frames := 0, cells := 0, slots := 0, locals := 0 }) (pc_r G cA [] [.int x]) (vp_Si (fun r : Int32 => r = en_V x)) 0 0 (fun _ => False) := by
  refine Met.ofW (cc := xb_X_contentOf) (maxL := 1) (ret := (some .int)) (by decide) rfl ?_
  intro p e s m args below meth c s₁ B hml hv
  obtain ⟨rfl, hK, hP⟩ := hv
  have hx := B.exec
  have hb := B.bytes
  have hr := B.returns
  have hts0 := atoms_spec (ws := .code xy_X_contentOf xb_X_contentOf 1 (some .int) :: tw_W) B.pre
  have hts : ∀ w9 ∈ tw_W, w9.before [.int x].toArray s = true := fun w9 h9 => hts0 w9 (List.mem_cons_of_mem _ h9)
  have hown : s.vm.findClass xc_X = some m.cls := findClass_of_methodNamed B.named
  have hlocks := B.notSynchronized
  have hP : va_P G xk_cl [] s.heap := hP
  have hl := lv_entry ([.int x]) (n := 1) (Nat.le_of_ble_eq_true rfl)
  rw [lg_entry_eq]
  generalize (lg_sl ([.int x]) ++ List.replicate (1 - (lg_sl ([.int x])).length) Slot.unset).toArray = ls at hl ⊢
  have hl : lv_has ls 1 [(0, .int x)] := hl
  refine lv_iload_n hx hb xd_X_contentOf_0 rfl (lv_at hl 0 rfl) ?_
  refine lv_iconst (v := nI 2) hx hb xd_X_contentOf_1 (by decide) ?_
  refine lx_ishr (z := x >>> (nI 2 &&& 31)) hx hb xd_X_contentOf_2 (rfl) ?_
  exact W.iret (v := x >>> (nI 2 &&& 31)) hx hb hr (fun T9 ht _ => ⟨_, rfl, rfl, ht⟩) (fun _ h => absurd h List.not_mem_nil) xd_X_contentOf_3
