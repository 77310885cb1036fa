def tx_A (tn : Nat → Nat) : Nat → Int32 := fun j => nI (tn j)
def un_N (f : Nat → Nat) (k x : Nat) : Nat → Nat := fun j => if j = k then x else f j
theorem tx_up (tn : Nat → Nat) (k x : Nat) : upd (tx_A tn) k (nI x) = tx_A (un_N tn k x) := by
  funext j
  unfold upd tx_A un_N
  by_cases e : j = k
  · rw [if_pos e, if_pos e]
  · rw [if_neg e, if_neg e]
theorem nI_nm {n : Nat} (h : n < 2147483648) : ¬ nI n = -1 := fun e => by
  have h1 := nI_toInt h
  rw [e] at h1
  have h2 : (-1 : Int32).toInt = -1 := by decide
  omega
theorem nI_nlm {n : Nat} (h : n < 2147483648) : ¬ nI n ≤ -1 := fun e => by
  have h1 := nI_toInt h
  have h3 := Int32.le_iff_toInt_le.mp e
  have h2 : (-1 : Int32).toInt = -1 := by decide
  omega
theorem nI_gl {a b : Nat} (ha : a < 2147483648) (hb : b < 2147483648) (h : nI a < nI b) : a < b := (nI_ltI ha hb).mp h
theorem nI_gnlt {a b : Nat} (ha : a < 2147483648) (hb : b < 2147483648) (h : ¬ nI a < nI b) : b ≤ a := Nat.le_of_not_lt fun q => h ((nI_ltI ha hb).mpr q)
theorem nI_ge' {a b : Nat} (ha : a < 2147483648) (hb : b < 2147483648) (h : nI a = nI b) : a = b := (nI_eq ha hb).mp h
theorem nI_gne {a b : Nat} (h : ¬ nI a = nI b) : ¬ a = b := fun e => h (by rw [e])
def sp_pk (tn : Nat → Nat) (cnt at_ : Nat) : Int32 := if at_ < cnt then nI (tn at_) else -1
theorem sp_pk_t {tn : Nat → Nat} {cnt at_ : Nat} (h : at_ < cnt) : sp_pk tn cnt at_ = nI (tn at_) := if_pos h
theorem sp_pk_f {tn : Nat → Nat} {cnt at_ : Nat} (h : ¬ at_ < cnt) : sp_pk tn cnt at_ = -1 := if_neg h
def sk_F (tn : Nat → Nat) (cnt : Nat) : Nat → Nat → Nat
  | 0, a => a
  | f + 1, a => if a < cnt ∧ tn a = 32 then sk_F tn cnt f (a + 1) else a
def sp_sk (tn : Nat → Nat) (cnt a : Nat) : Nat := sk_F tn cnt (cnt - a) a
theorem sp_sk_f {tn : Nat → Nat} {cnt a : Nat} (h : ¬ (a < cnt ∧ tn a = 32)) : sp_sk tn cnt a = a := by
  unfold sp_sk
  cases cnt - a with
  | zero => rfl
  | succ f => rw [sk_F, if_neg h]
theorem sp_sk_t {tn : Nat → Nat} {cnt a : Nat} (h1 : a < cnt) (h2 : tn a = 32) : sp_sk tn cnt a = sp_sk tn cnt (a + 1) := by
  unfold sp_sk
  obtain ⟨f, hf⟩ : ∃ f, cnt - a = f + 1 := ⟨cnt - a - 1, by omega⟩
  rw [hf, sk_F, if_pos ⟨h1, h2⟩, show cnt - (a + 1) = f by omega]
theorem sk_F_le (tn : Nat → Nat) (cnt : Nat) : ∀ f a, a ≤ cnt → sk_F tn cnt f a ≤ cnt
  | 0, a, h => h
  | f + 1, a, h => by
    unfold sk_F
    split
    · rename_i q; exact sk_F_le tn cnt f (a + 1) (by omega)
    · exact h
theorem sk_F_ge (tn : Nat → Nat) (cnt : Nat) : ∀ f a, a ≤ sk_F tn cnt f a
  | 0, a => Nat.le_refl _
  | f + 1, a => by
    unfold sk_F
    split
    · exact Nat.le_trans (Nat.le_succ a) (sk_F_ge tn cnt f (a + 1))
    · exact Nat.le_refl _
theorem sp_sk_le {tn : Nat → Nat} {cnt a : Nat} (h : a ≤ cnt) : sp_sk tn cnt a ≤ cnt := sk_F_le tn cnt _ a h
theorem sp_sk_ge {tn : Nat → Nat} {cnt a : Nat} : a ≤ sp_sk tn cnt a := sk_F_ge tn cnt _ a
def ta_A (cnt at_ : Nat) : Nat := if at_ < cnt then at_ + 1 else at_
abbrev tk_P (tn : Nat → Nat) (cnt at_ w : Nat) : Prop := at_ < cnt ∧ tn at_ = w
def tk_A (tn : Nat → Nat) (cnt at_ w : Nat) : Nat := if tk_P tn cnt at_ w then at_ + 1 else at_
def tk_R (tn : Nat → Nat) (cnt at_ w : Nat) : Int32 := if tk_P tn cnt at_ w then nI 1 else nI 0
abbrev lt_P (tn : Nat → Nat) (cnt at_ : Nat) : Prop := at_ < cnt ∧ 97 ≤ tn at_ ∧ tn at_ ≤ 122
def lt_A (tn : Nat → Nat) (cnt at_ : Nat) : Nat := if lt_P tn cnt at_ then at_ + 1 else at_
def lt_R (tn : Nat → Nat) (cnt at_ : Nat) : Int32 := if lt_P tn cnt at_ then nI (tn at_ - 97) else -1
def ap_P (cnt : Nat) (c : Int32) : Prop := ¬ c < nI 32 ∧ ¬ nI 126 < c ∧ cnt < 300

set_option maxHeartbeats 4000000 in
set_option maxRecDepth 100000 in
theorem ct_Te_peek (l : Launch) (G : va_G) (cA : Nat → ClassId) (t : Nat) (tc : Nat) (tn : Nat → Nat) (cnt : Nat) (at_ : Nat) (hc : cnt ≤ 300) (ha : at_ ≤ 300) : Met l xy_Te_peek (.code xy_Te_peek xb_Te_peek 1 (some .int) :: tw_W) ({ frames := 0, cells := 0, slots := 0, locals := 0 }) (pc_r G cA [(t, .inr (1, [.ref tc, .int (nI cnt), .int (nI at_)])), (tc, .inl (cA 1, 300, .inl (tx_A tn)))] [.ref t]) (vp_Si (fun r : Int32 => r = sp_pk tn cnt at_)) 0 0 (fun _ => False) := by
  refine Met.ofW (cc := xb_Te_peek) (maxL := 1) (ret := (some .int)) (by decide) rfl ?_
  intro p e s m args below meth c s₁ B hml hv
  obtain ⟨rfl, hK, hP⟩ := hv
  have hx := B.exec
  have hb := B.bytes
  have hr := B.returns
  have hts0 := atoms_spec (ws := .code xy_Te_peek xb_Te_peek 1 (some .int) :: tw_W) B.pre
  have hts : ∀ w9 ∈ tw_W, w9.before [.ref t].toArray s = true := fun w9 h9 => hts0 w9 (List.mem_cons_of_mem _ h9)
  have hown : s.vm.findClass xc_Te = some m.cls := findClass_of_methodNamed B.named
  have hlocks := B.notSynchronized
  have hP : va_P G xk_cl [(t, .inr (1, [.ref tc, .int (nI cnt), .int (nI at_)])), (tc, .inl (cA 1, 300, .inl (tx_A tn)))] s.heap := hP
  have hl := lv_entry ([.ref t]) (n := 1) (Nat.le_of_ble_eq_true rfl)
  rw [lg_entry_eq]
  generalize (lg_sl ([.ref t]) ++ List.replicate (1 - (lg_sl ([.ref t])).length) Slot.unset).toArray = ls at hl ⊢
  have hl : lv_has ls 1 [(0, .ref t)] := hl
  refine lv_aload_n hx hb xd_Te_peek_0 rfl (lv_at hl 0 rfl) ?_
  refine va_get (D := G) (ci := 1) (v := .int (nI at_)) (C := xc_Te) (T := xf_Te) (N := 3) hx hb hts xw_Te hown hK.1 hP 0 rfl rfl 2 (by decide) (hts _ xm_32) (fun _ h9 => h9) rfl xd_Te_peek_1 ?_
  refine lv_if_lt (tgt := 42) hx hb xd_Te_peek_4 (by decide) (fun c_4_0 => absurd c_4_0 (nI_pos (by omega))) (fun c_4_0 => ?_)
  refine lv_aload_n hx hb xd_Te_peek_7 rfl (lv_at hl 0 rfl) ?_
  refine va_get (D := G) (ci := 1) (v := .int (nI at_)) (C := xc_Te) (T := xf_Te) (N := 3) hx hb hts xw_Te hown hK.1 hP 0 rfl rfl 2 (by decide) (hts _ xm_32) (fun _ h9 => h9) rfl xd_Te_peek_8 ?_
  refine lv_aload_n hx hb xd_Te_peek_11 rfl (lv_at hl 0 rfl) ?_
  refine va_get (D := G) (ci := 1) (v := .int (nI cnt)) (C := xc_Te) (T := xf_Te) (N := 3) hx hb hts xw_Te hown hK.1 hP 0 rfl rfl 1 (by decide) (hts _ xm_31) (fun _ h9 => h9) rfl xd_Te_peek_12 ?_
  refine lv_icmp_ge (tgt := 42) hx hb xd_Te_peek_15 (by decide) (fun c_15_1 => ?_) (fun c_15_1 => ?_)
  · have q_a := nI_gle (by omega) (by omega) c_15_1
    refine lv_iconst (v := (-1)) hx hb xd_Te_peek_42 (by decide) ?_
    exact W.iret (v := (-1)) hx hb hr (fun T9 ht _ => ⟨_, rfl, (sp_pk_f (by omega)).symm, ht⟩) (fun _ h => absurd h List.not_mem_nil) xd_Te_peek_43
  · have q_a := nI_gnl (by omega) (by omega) c_15_1
    refine lv_aload_n hx hb xd_Te_peek_18 rfl (lv_at hl 0 rfl) ?_
    refine va_get (D := G) (ci := 1) (v := .int (nI at_)) (C := xc_Te) (T := xf_Te) (N := 3) hx hb hts xw_Te hown hK.1 hP 0 rfl rfl 2 (by decide) (hts _ xm_32) (fun _ h9 => h9) rfl xd_Te_peek_19 ?_
    refine lv_aload_n hx hb xd_Te_peek_22 rfl (lv_at hl 0 rfl) ?_
    refine va_get (D := G) (ci := 1) (v := .ref tc) (C := xc_Te) (T := xf_Te) (N := 3) hx hb hts xw_Te hown hK.1 hP 0 rfl rfl 0 (by decide) (hts _ xm_30) (fun _ h9 => h9) rfl xd_Te_peek_23 ?_
    refine va_alen hx hb hK.1 hP 1 1 rfl rfl (v := nI 300) rfl xd_Te_peek_26 ?_
    refine lv_icmp_ge (tgt := 42) hx hb xd_Te_peek_27 (by decide) (fun c_27_2 => absurd c_27_2 (nI_ge (by omega) (by decide))) (fun c_27_2 => ?_)
    refine lv_aload_n hx hb xd_Te_peek_30 rfl (lv_at hl 0 rfl) ?_
    refine va_get (D := G) (ci := 1) (v := .ref tc) (C := xc_Te) (T := xf_Te) (N := 3) hx hb hts xw_Te hown hK.1 hP 0 rfl rfl 0 (by decide) (hts _ xm_30) (fun _ h9 => h9) rfl xd_Te_peek_31 ?_
    refine lv_aload_n hx hb xd_Te_peek_34 rfl (lv_at hl 0 rfl) ?_
    refine va_get (D := G) (ci := 1) (v := .int (nI at_)) (C := xc_Te) (T := xf_Te) (N := 3) hx hb hts xw_Te hown hK.1 hP 0 rfl rfl 2 (by decide) (hts _ xm_32) (fun _ h9 => h9) rfl xd_Te_peek_35 ?_
    refine wx_cald hx hb hK.1 hP 1 1 rfl rfl (k := at_) (by omega) (by decide) xd_Te_peek_38 ?_
    refine lv_goto (tgt := 43) hx hb xd_Te_peek_39 (by decide) ?_
    exact W.iret (v := (tx_A tn) at_) hx hb hr (fun T9 ht _ => ⟨_, rfl, (sp_pk_t q_a).symm, ht⟩) (fun _ h => absurd h List.not_mem_nil) xd_Te_peek_43
set_option maxHeartbeats 4000000 in
set_option maxRecDepth 100000 in
theorem ct_Te_length (l : Launch) (G : va_G) (cA : Nat → ClassId) (t : Nat) (tc : Nat) (tn : Nat → Nat) (cnt : Nat) (at_ : Nat) : Met l xy_Te_length (.code xy_Te_length xb_Te_length 1 (some .int) :: tw_W) ({ frames := 0, cells := 0, slots := 0, locals := 0 }) (pc_r G cA [(t, .inr (1, [.ref tc, .int (nI cnt), .int (nI at_)])), (tc, .inl (cA 1, 300, .inl (tx_A tn)))] [.ref t]) (vp_Si (fun r : Int32 => r = nI cnt)) 0 0 (fun _ => False) := by
  refine Met.ofW (cc := xb_Te_length) (maxL := 1) (ret := (some .int)) (by decide) rfl ?_
  intro p e s m args below meth c s₁ B hml hv
  obtain ⟨rfl, hK, hP⟩ := hv
  have hx := B.exec
  have hb := B.bytes
  have hr := B.returns
  have hts0 := atoms_spec (ws := .code xy_Te_length xb_Te_length 1 (some .int) :: tw_W) B.pre
  have hts : ∀ w9 ∈ tw_W, w9.before [.ref t].toArray s = true := fun w9 h9 => hts0 w9 (List.mem_cons_of_mem _ h9)
  have hown : s.vm.findClass xc_Te = some m.cls := findClass_of_methodNamed B.named
  have hlocks := B.notSynchronized
  have hP : va_P G xk_cl [(t, .inr (1, [.ref tc, .int (nI cnt), .int (nI at_)])), (tc, .inl (cA 1, 300, .inl (tx_A tn)))] s.heap := hP
  have hl := lv_entry ([.ref t]) (n := 1) (Nat.le_of_ble_eq_true rfl)
  rw [lg_entry_eq]
  generalize (lg_sl ([.ref t]) ++ List.replicate (1 - (lg_sl ([.ref t])).length) Slot.unset).toArray = ls at hl ⊢
  have hl : lv_has ls 1 [(0, .ref t)] := hl
  refine lv_aload_n hx hb xd_Te_length_0 rfl (lv_at hl 0 rfl) ?_
  refine va_get (D := G) (ci := 1) (v := .int (nI cnt)) (C := xc_Te) (T := xf_Te) (N := 3) hx hb hts xw_Te hown hK.1 hP 0 rfl rfl 1 (by decide) (hts _ xm_31) (fun _ h9 => h9) rfl xd_Te_length_1 ?_
  exact W.iret (v := nI cnt) hx hb hr (fun T9 ht _ => ⟨_, rfl, rfl, ht⟩) (fun _ h => absurd h List.not_mem_nil) xd_Te_length_4
set_option maxHeartbeats 4000000 in
set_option maxRecDepth 100000 in
theorem ct_Te_rewind (l : Launch) (G : va_G) (cA : Nat → ClassId) (sz : Nat) (t : Nat) (tc : Nat) (tn : Nat → Nat) (cnt : Nat) (at_ : Nat) : Met l xy_Te_rewind (.code xy_Te_rewind xb_Te_rewind 1 none :: tw_W) ({ frames := 0, cells := 0, slots := 0, locals := 0 }) (pc_w G cA [(t, .inr (1, [.ref tc, .int (nI cnt), .int (nI at_)])), (tc, .inl (cA 1, 300, .inl (tx_A tn)))] sz [.ref t]) (va_Qv (fun _ : Unit => True) (fun _ T9 => at_w G (va_A [(t, .inr (1, [.ref tc, .int (nI cnt), .int (nI at_)])), (tc, .inl (cA 1, 300, .inl (tx_A tn)))] sz) [(t, .inr (1, [.ref tc, .int (nI cnt), .int (nI 0)])), (tc, .inl (cA 1, 300, .inl (tx_A tn)))] T9) (va_A [(t, .inr (1, [.ref tc, .int (nI cnt), .int (nI at_)])), (tc, .inl (cA 1, 300, .inl (tx_A tn)))] sz)) 0 0 (va_A [(t, .inr (1, [.ref tc, .int (nI cnt), .int (nI at_)])), (tc, .inl (cA 1, 300, .inl (tx_A tn)))] sz) := by
  refine Met.ofW (cc := xb_Te_rewind) (maxL := 1) (ret := none) (by decide) rfl ?_
  intro p e s m args below meth c s₁ B hml hv
  obtain ⟨rfl, hsz, hK, hP, hD0⟩ := hv
  have hx := B.exec
  have hb := B.bytes
  have hr := B.returns
  have hts0 := atoms_spec (ws := .code xy_Te_rewind xb_Te_rewind 1 none :: tw_W) B.pre
  have hts : ∀ w9 ∈ tw_W, w9.before [.ref t].toArray s = true := fun w9 h9 => hts0 w9 (List.mem_cons_of_mem _ h9)
  have hown : s.vm.findClass xc_Te = some m.cls := findClass_of_methodNamed B.named
  have hlocks := B.notSynchronized
  subst hsz
  have hD := hD0.self (sz := s.heap.size)
  generalize hAe : va_A [(t, .inr (1, [.ref tc, .int (nI cnt), .int (nI at_)])), (tc, .inl (cA 1, 300, .inl (tx_A tn)))] s.heap.size = A at hD ⊢
  have hA : ∀ q : Nat, s.heap.size ≤ q → A q := fun q h => by rw [← hAe]; exact Or.inr h
  have hS : va_S A s.heap s.heap [] := va_S.rf
  have hP : va_P G xk_cl [(t, .inr (1, [.ref tc, .int (nI cnt), .int (nI at_)])), (tc, .inl (cA 1, 300, .inl (tx_A tn)))] s.heap := hP
  have hl := lv_entry ([.ref t]) (n := 1) (Nat.le_of_ble_eq_true rfl)
  rw [lg_entry_eq]
  generalize (lg_sl ([.ref t]) ++ List.replicate (1 - (lg_sl ([.ref t])).length) Slot.unset).toArray = ls at hl ⊢
  have hl : lv_has ls 1 [(0, .ref t)] := hl
  refine lv_aload_n hx hb xd_Te_rewind_0 rfl (lv_at hl 0 rfl) ?_
  refine lv_iconst (v := nI 0) hx hb xd_Te_rewind_1 (by decide) ?_
  refine va_put (D := G) (ci := 1) (v := .int (nI 0)) (ty := .int) (C := xc_Te) (T := xf_Te) (N := 3) hx hb hts xw_Te xt_Te xt_Te_ok xn_Te hown hK.1 hP hD hS 0 rfl rfl 2 (by decide) (hts _ xm_32) (fun _ h9 => h9) rfl (by decide +kernel) rfl rfl (Nat.le_of_ble_eq_true rfl) xd_Te_rewind_2 (fun H locs hP hD hS => ?_)
  have hP : va_P G xk_cl [(t, .inr (1, [.ref tc, .int (nI cnt), .int (nI 0)])), (tc, .inl (cA 1, 300, .inl (tx_A tn)))] H := hP
  have hD : va_D A [(t, .inr (1, [.ref tc, .int (nI cnt), .int (nI 0)])), (tc, .inl (cA 1, 300, .inl (tx_A tn)))] := hD
  have hP9 : va_P G xk_cl [(t, .inr (1, [.ref tc, .int (nI cnt), .int (nI 0)])), (tc, .inl (cA 1, 300, .inl (tx_A tn)))] _ := hP.sub [0, 1] rfl
  have hD9 : va_D A [(t, .inr (1, [.ref tc, .int (nI cnt), .int (nI 0)])), (tc, .inl (cA 1, 300, .inl (tx_A tn)))] := hD.sub [0, 1] (by decide) rfl
  exact W.vret hx hb hr (fun T9 ht hW => ⟨⟨(), rfl, trivial, by rw [ht]; exact hP9, hD9⟩, hS.F ht⟩) hS.2.2 xd_Te_rewind_5
set_option maxHeartbeats 4000000 in
set_option maxRecDepth 100000 in
theorem ct_Te_clear (l : Launch) (G : va_G) (cA : Nat → ClassId) (sz : Nat) (t : Nat) (tc : Nat) (tn : Nat → Nat) (cnt : Nat) (at_ : Nat) : Met l xy_Te_clear (.code xy_Te_clear xb_Te_clear 1 none :: tw_W) ({ frames := 0, cells := 0, slots := 0, locals := 0 }) (pc_w G cA [(t, .inr (1, [.ref tc, .int (nI cnt), .int (nI at_)])), (tc, .inl (cA 1, 300, .inl (tx_A tn)))] sz [.ref t]) (va_Qv (fun _ : Unit => True) (fun _ T9 => at_w G (va_A [(t, .inr (1, [.ref tc, .int (nI cnt), .int (nI at_)])), (tc, .inl (cA 1, 300, .inl (tx_A tn)))] sz) [(t, .inr (1, [.ref tc, .int (nI 0), .int (nI 0)])), (tc, .inl (cA 1, 300, .inl (tx_A tn)))] T9) (va_A [(t, .inr (1, [.ref tc, .int (nI cnt), .int (nI at_)])), (tc, .inl (cA 1, 300, .inl (tx_A tn)))] sz)) 0 0 (va_A [(t, .inr (1, [.ref tc, .int (nI cnt), .int (nI at_)])), (tc, .inl (cA 1, 300, .inl (tx_A tn)))] sz) := by
  refine Met.ofW (cc := xb_Te_clear) (maxL := 1) (ret := none) (by decide) rfl ?_
  intro p e s m args below meth c s₁ B hml hv
  obtain ⟨rfl, hsz, hK, hP, hD0⟩ := hv
  have hx := B.exec
  have hb := B.bytes
  have hr := B.returns
  have hts0 := atoms_spec (ws := .code xy_Te_clear xb_Te_clear 1 none :: tw_W) B.pre
  have hts : ∀ w9 ∈ tw_W, w9.before [.ref t].toArray s = true := fun w9 h9 => hts0 w9 (List.mem_cons_of_mem _ h9)
  have hown : s.vm.findClass xc_Te = some m.cls := findClass_of_methodNamed B.named
  have hlocks := B.notSynchronized
  subst hsz
  have hD := hD0.self (sz := s.heap.size)
  generalize hAe : va_A [(t, .inr (1, [.ref tc, .int (nI cnt), .int (nI at_)])), (tc, .inl (cA 1, 300, .inl (tx_A tn)))] s.heap.size = A at hD ⊢
  have hA : ∀ q : Nat, s.heap.size ≤ q → A q := fun q h => by rw [← hAe]; exact Or.inr h
  have hS : va_S A s.heap s.heap [] := va_S.rf
  have hP : va_P G xk_cl [(t, .inr (1, [.ref tc, .int (nI cnt), .int (nI at_)])), (tc, .inl (cA 1, 300, .inl (tx_A tn)))] s.heap := hP
  have hl := lv_entry ([.ref t]) (n := 1) (Nat.le_of_ble_eq_true rfl)
  rw [lg_entry_eq]
  generalize (lg_sl ([.ref t]) ++ List.replicate (1 - (lg_sl ([.ref t])).length) Slot.unset).toArray = ls at hl ⊢
  have hl : lv_has ls 1 [(0, .ref t)] := hl
  refine lv_aload_n hx hb xd_Te_clear_0 rfl (lv_at hl 0 rfl) ?_
  refine lv_iconst (v := nI 0) hx hb xd_Te_clear_1 (by decide) ?_
  refine va_put (D := G) (ci := 1) (v := .int (nI 0)) (ty := .int) (C := xc_Te) (T := xf_Te) (N := 3) hx hb hts xw_Te xt_Te xt_Te_ok xn_Te hown hK.1 hP hD hS 0 rfl rfl 1 (by decide) (hts _ xm_31) (fun _ h9 => h9) rfl (by decide +kernel) rfl rfl (Nat.le_of_ble_eq_true rfl) xd_Te_clear_2 (fun H locs hP hD hS => ?_)
  have hP : va_P G xk_cl [(t, .inr (1, [.ref tc, .int (nI 0), .int (nI at_)])), (tc, .inl (cA 1, 300, .inl (tx_A tn)))] H := hP
  have hD : va_D A [(t, .inr (1, [.ref tc, .int (nI 0), .int (nI at_)])), (tc, .inl (cA 1, 300, .inl (tx_A tn)))] := hD
  refine lv_aload_n hx hb xd_Te_clear_5 rfl (lv_at hl 0 rfl) ?_
  refine lv_iconst (v := nI 0) hx hb xd_Te_clear_6 (by decide) ?_
  refine va_put (D := G) (ci := 1) (v := .int (nI 0)) (ty := .int) (C := xc_Te) (T := xf_Te) (N := 3) hx hb hts xw_Te xt_Te xt_Te_ok xn_Te hown hK.1 hP hD hS 0 rfl rfl 2 (by decide) (hts _ xm_32) (fun _ h9 => h9) rfl (by decide +kernel) rfl rfl (Nat.le_of_ble_eq_true rfl) xd_Te_clear_7 (fun H locs hP hD hS => ?_)
  have hP : va_P G xk_cl [(t, .inr (1, [.ref tc, .int (nI 0), .int (nI 0)])), (tc, .inl (cA 1, 300, .inl (tx_A tn)))] H := hP
  have hD : va_D A [(t, .inr (1, [.ref tc, .int (nI 0), .int (nI 0)])), (tc, .inl (cA 1, 300, .inl (tx_A tn)))] := hD
  have hP9 : va_P G xk_cl [(t, .inr (1, [.ref tc, .int (nI 0), .int (nI 0)])), (tc, .inl (cA 1, 300, .inl (tx_A tn)))] _ := hP.sub [0, 1] rfl
  have hD9 : va_D A [(t, .inr (1, [.ref tc, .int (nI 0), .int (nI 0)])), (tc, .inl (cA 1, 300, .inl (tx_A tn)))] := hD.sub [0, 1] (by decide) rfl
  exact W.vret hx hb hr (fun T9 ht hW => ⟨⟨(), rfl, trivial, by rw [ht]; exact hP9, hD9⟩, hS.F ht⟩) hS.2.2 xd_Te_clear_10
set_option maxHeartbeats 4000000 in
set_option maxRecDepth 100000 in
theorem ct_Te_hasLine (l : Launch) (G : va_G) (cA : Nat → ClassId) (sz : Nat) (t : Nat) (tc : Nat) (tn : Nat → Nat) (cnt : Nat) (at_ : Nat) (hc : cnt ≤ 300) (ha : at_ ≤ 300) (hv : ∀ j, tn j < 128) (hac : at_ ≤ cnt) : Met l xy_Te_hasLine (.code xy_Te_hasLine xb_Te_hasLine 1 (some .boolean) :: tw_W) ({ frames := 1, cells := 0, slots := 0, locals := 20 }) (pc_w G cA [(t, .inr (1, [.ref tc, .int (nI cnt), .int (nI at_)])), (tc, .inl (cA 1, 300, .inl (tx_A tn)))] sz [.ref t]) (va_Qi (fun (r : Int32) (_ : Unit) => r = if sp_sk tn cnt at_ < cnt then nI 1 else nI 0) (fun _ T9 => at_w G (va_A [(t, .inr (1, [.ref tc, .int (nI cnt), .int (nI at_)])), (tc, .inl (cA 1, 300, .inl (tx_A tn)))] sz) [(t, .inr (1, [.ref tc, .int (nI cnt), .int (nI (sp_sk tn cnt at_))])), (tc, .inl (cA 1, 300, .inl (tx_A tn)))] T9) (va_A [(t, .inr (1, [.ref tc, .int (nI cnt), .int (nI at_)])), (tc, .inl (cA 1, 300, .inl (tx_A tn)))] sz)) 0 0 (va_A [(t, .inr (1, [.ref tc, .int (nI cnt), .int (nI at_)])), (tc, .inl (cA 1, 300, .inl (tx_A tn)))] sz) := by
  refine Met.ofW (cc := xb_Te_hasLine) (maxL := 1) (ret := (some .boolean)) (by decide) rfl ?_
  intro p e s m args below meth c s₁ B hml hv
  obtain ⟨rfl, hsz, hK, hP, hD0⟩ := hv
  have hx := B.exec
  have hb := B.bytes
  have hr := B.returns
  have hts0 := atoms_spec (ws := .code xy_Te_hasLine xb_Te_hasLine 1 (some .boolean) :: tw_W) B.pre
  have hts : ∀ w9 ∈ tw_W, w9.before [.ref t].toArray s = true := fun w9 h9 => hts0 w9 (List.mem_cons_of_mem _ h9)
  have hown : s.vm.findClass xc_Te = some m.cls := findClass_of_methodNamed B.named
  have hlocks := B.notSynchronized
  subst hsz
  have hD := hD0.self (sz := s.heap.size)
  generalize hAe : va_A [(t, .inr (1, [.ref tc, .int (nI cnt), .int (nI at_)])), (tc, .inl (cA 1, 300, .inl (tx_A tn)))] s.heap.size = A at hD ⊢
  have hA : ∀ q : Nat, s.heap.size ≤ q → A q := fun q h => by rw [← hAe]; exact Or.inr h
  have hS : va_S A s.heap s.heap [] := va_S.rf
  have hP : va_P G xk_cl [(t, .inr (1, [.ref tc, .int (nI cnt), .int (nI at_)])), (tc, .inl (cA 1, 300, .inl (tx_A tn)))] s.heap := hP
  have hl := lv_entry ([.ref t]) (n := 1) (Nat.le_of_ble_eq_true rfl)
  rw [lg_entry_eq]
  generalize (lg_sl ([.ref t]) ++ List.replicate (1 - (lg_sl ([.ref t])).length) Slot.unset).toArray = ls at hl ⊢
  have hl : lv_has ls 1 [(0, .ref t)] := hl
  have lp : ∀ (k_lp : Nat) (i : Nat), (i ≤ cnt) → (sp_sk tn cnt at_ = sp_sk tn cnt i) → cnt - i < k_lp → ∀ (H : Heap) (locs : List Loc), va_P G xk_cl [(t, .inr (1, [.ref tc, .int (nI cnt), .int (nI i)])), (tc, .inl (cA 1, 300, .inl (tx_A tn)))] H → va_D A [(t, .inr (1, [.ref tc, .int (nI cnt), .int (nI i)])), (tc, .inl (cA 1, 300, .inl (tx_A tn)))] → va_S A s.heap H locs → ∀ (ls : Array Slot), lv_has ls 1 [(0, .ref t)] → W p l e (headSpec (.code xy_Te_hasLine xb_Te_hasLine 1 (some .boolean) :: tw_W) ({ frames := 1, cells := 0, slots := 0, locals := 20 })).room s m ([.ref t] : List Value).toArray below meth c H locs 0 0 (MQ below (va_Qi (fun (r : Int32) (_ : Unit) => r = if sp_sk tn cnt at_ < cnt then nI 1 else nI 0) (fun _ T9 => at_w G A [(t, .inr (1, [.ref tc, .int (nI cnt), .int (nI (sp_sk tn cnt at_))])), (tc, .inl (cA 1, 300, .inl (tx_A tn)))] T9) A) ([.ref t] : List Value).toArray s 0 0 A) (F0 m 0 ls []) := by
    intro k_lp
    induction k_lp with
    | zero =>
      intro i hic hi hk_lp
      exact absurd hk_lp (Nat.not_lt_zero _)
    | succ k_lp ih_lp =>
      intro i hic hi hk_lp H locs hP hD hS ls hl
      refine lv_aload_n hx hb xd_Te_hasLine_0 rfl (lv_at hl 0 rfl) ?_
      refine va_get (D := G) (ci := 1) (v := .int (nI i)) (C := xc_Te) (T := xf_Te) (N := 3) hx hb hts xw_Te hown hK.1 hP 0 rfl rfl 2 (by decide) (hts _ xm_32) (fun _ h9 => h9) rfl xd_Te_hasLine_1 ?_
      refine lv_aload_n hx hb xd_Te_hasLine_4 rfl (lv_at hl 0 rfl) ?_
      refine va_get (D := G) (ci := 1) (v := .int (nI cnt)) (C := xc_Te) (T := xf_Te) (N := 3) hx hb hts xw_Te hown hK.1 hP 0 rfl rfl 1 (by decide) (hts _ xm_31) (fun _ h9 => h9) rfl xd_Te_hasLine_5 ?_
      refine lv_icmp_ge (tgt := 33) hx hb xd_Te_hasLine_8 (by decide) (fun c_8_0 => ?_) (fun c_8_0 => ?_)
      · have q_a := nI_gle (by omega) (by omega) c_8_0
        have q_e : sp_sk tn cnt at_ = i := by rw [hi]; exact sp_sk_f (fun z => by omega)
        have hP : va_P G xk_cl [(t, .inr (1, [.ref tc, .int (nI cnt), .int (nI (sp_sk tn cnt at_))])), (tc, .inl (cA 1, 300, .inl (tx_A tn)))] H := by rw [q_e]; exact hP
        have hD : va_D A [(t, .inr (1, [.ref tc, .int (nI cnt), .int (nI (sp_sk tn cnt at_))])), (tc, .inl (cA 1, 300, .inl (tx_A tn)))] := by rw [q_e]; exact hD
        refine lv_aload_n hx hb xd_Te_hasLine_33 rfl (lv_at hl 0 rfl) ?_
        refine va_get (D := G) (ci := 1) (v := .int (nI (sp_sk tn cnt at_))) (C := xc_Te) (T := xf_Te) (N := 3) hx hb hts xw_Te hown hK.1 hP 0 rfl rfl 2 (by decide) (hts _ xm_32) (fun _ h9 => h9) rfl xd_Te_hasLine_34 ?_
        refine lv_aload_n hx hb xd_Te_hasLine_37 rfl (lv_at hl 0 rfl) ?_
        refine va_get (D := G) (ci := 1) (v := .int (nI cnt)) (C := xc_Te) (T := xf_Te) (N := 3) hx hb hts xw_Te hown hK.1 hP 0 rfl rfl 1 (by decide) (hts _ xm_31) (fun _ h9 => h9) rfl xd_Te_hasLine_38 ?_
        refine lv_icmp_ge (tgt := 48) hx hb xd_Te_hasLine_41 (by decide) (fun c_41_1 => ?_) (fun c_41_1 => ?_)
        · have q_c := nI_gle (by omega) (by rw [q_e]; omega) c_41_1
          refine lv_iconst (v := nI 0) hx hb xd_Te_hasLine_48 (by decide) ?_
          have hP9 : va_P G xk_cl [(t, .inr (1, [.ref tc, .int (nI cnt), .int (nI (sp_sk tn cnt at_))])), (tc, .inl (cA 1, 300, .inl (tx_A tn)))] _ := hP.sub [0, 1] rfl
          have hD9 : va_D A [(t, .inr (1, [.ref tc, .int (nI cnt), .int (nI (sp_sk tn cnt at_))])), (tc, .inl (cA 1, 300, .inl (tx_A tn)))] := hD.sub [0, 1] (by decide) rfl
          exact W.zret (v := nI 0) (ty := .boolean) hx hb hr (by decide) (fun T9 ht hW => ⟨⟨_, (), rfl, by rw [if_neg (by omega)], by rw [ht]; exact hP9, hD9⟩, hS.F ht⟩) hS.2.2 xd_Te_hasLine_49
        · have q_c := nI_gnl (by omega) (by rw [q_e]; omega) c_41_1
          refine lv_iconst (v := nI 1) hx hb xd_Te_hasLine_44 (by decide) ?_
          refine lv_goto (tgt := 49) hx hb xd_Te_hasLine_45 (by decide) ?_
          have hP9 : va_P G xk_cl [(t, .inr (1, [.ref tc, .int (nI cnt), .int (nI (sp_sk tn cnt at_))])), (tc, .inl (cA 1, 300, .inl (tx_A tn)))] _ := hP.sub [0, 1] rfl
          have hD9 : va_D A [(t, .inr (1, [.ref tc, .int (nI cnt), .int (nI (sp_sk tn cnt at_))])), (tc, .inl (cA 1, 300, .inl (tx_A tn)))] := hD.sub [0, 1] (by decide) rfl
          exact W.zret (v := nI 1) (ty := .boolean) hx hb hr (by decide) (fun T9 ht hW => ⟨⟨_, (), rfl, by rw [if_pos (by omega)], by rw [ht]; exact hP9, hD9⟩, hS.F ht⟩) hS.2.2 xd_Te_hasLine_49
      · have q_a := nI_gnl (by omega) (by omega) c_8_0
        refine lv_aload_n hx hb xd_Te_hasLine_11 rfl (lv_at hl 0 rfl) ?_
        have hPc := hP
        refine vp_callSi (va_Run.run (va_runV (As := []) (rest := []) ⟨hx, hb, hml, hown, hts⟩ (ct_Te_peek l G cA t tc tn cnt i (by omega) (by omega)) (cwV 0 hts (gi_v xm_221 xm_223 xs_Te_peek xm_2 xm_224) rfl rfl rfl ⟨rfl, xh_Te_peek⟩ ⟨Nat.le_of_ble_eq_true rfl, Nat.le_of_ble_eq_true rfl⟩) (pv_r hK hPc (ci := 1) (q0 := 0) rfl rfl) rfl rfl hl.1 rfl (lv_room (Nat.le_of_ble_eq_true rfl)) xd_Te_hasLine_12 ⟨Nat.le_of_ble_eq_true rfl, Nat.le_of_ble_eq_true rfl⟩)) (fun r_3 q_4 => ?_)
        refine lx_top (z := sp_pk tn cnt i) (q_4) ?_
        refine lx_top (z := nI (tn i)) (sp_pk_t q_a) ?_
        refine lv_bipush (v := nI 32) hx hb xd_Te_hasLine_15 (by decide) ?_
        refine lv_icmp_ne (tgt := 33) hx hb xd_Te_hasLine_17 (by decide) (fun c_17_4 => ?_) (fun c_17_4 => ?_)
        · have q_b := nI_gne c_17_4
          have q_e : sp_sk tn cnt at_ = i := by rw [hi]; exact sp_sk_f (fun z => q_b z.2)
          have hP : va_P G xk_cl [(t, .inr (1, [.ref tc, .int (nI cnt), .int (nI (sp_sk tn cnt at_))])), (tc, .inl (cA 1, 300, .inl (tx_A tn)))] H := by rw [q_e]; exact hP
          have hD : va_D A [(t, .inr (1, [.ref tc, .int (nI cnt), .int (nI (sp_sk tn cnt at_))])), (tc, .inl (cA 1, 300, .inl (tx_A tn)))] := by rw [q_e]; exact hD
          refine lv_aload_n hx hb xd_Te_hasLine_33 rfl (lv_at hl 0 rfl) ?_
          refine va_get (D := G) (ci := 1) (v := .int (nI (sp_sk tn cnt at_))) (C := xc_Te) (T := xf_Te) (N := 3) hx hb hts xw_Te hown hK.1 hP 0 rfl rfl 2 (by decide) (hts _ xm_32) (fun _ h9 => h9) rfl xd_Te_hasLine_34 ?_
          refine lv_aload_n hx hb xd_Te_hasLine_37 rfl (lv_at hl 0 rfl) ?_
          refine va_get (D := G) (ci := 1) (v := .int (nI cnt)) (C := xc_Te) (T := xf_Te) (N := 3) hx hb hts xw_Te hown hK.1 hP 0 rfl rfl 1 (by decide) (hts _ xm_31) (fun _ h9 => h9) rfl xd_Te_hasLine_38 ?_
          refine lv_icmp_ge (tgt := 48) hx hb xd_Te_hasLine_41 (by decide) (fun c_41_5 => ?_) (fun c_41_5 => ?_)
          · have q_c := nI_gle (by omega) (by rw [q_e]; omega) c_41_5
            refine lv_iconst (v := nI 0) hx hb xd_Te_hasLine_48 (by decide) ?_
            have hP9 : va_P G xk_cl [(t, .inr (1, [.ref tc, .int (nI cnt), .int (nI (sp_sk tn cnt at_))])), (tc, .inl (cA 1, 300, .inl (tx_A tn)))] _ := hP.sub [0, 1] rfl
            have hD9 : va_D A [(t, .inr (1, [.ref tc, .int (nI cnt), .int (nI (sp_sk tn cnt at_))])), (tc, .inl (cA 1, 300, .inl (tx_A tn)))] := hD.sub [0, 1] (by decide) rfl
            exact W.zret (v := nI 0) (ty := .boolean) hx hb hr (by decide) (fun T9 ht hW => ⟨⟨_, (), rfl, by rw [if_neg (by omega)], by rw [ht]; exact hP9, hD9⟩, hS.F ht⟩) hS.2.2 xd_Te_hasLine_49
          · have q_c := nI_gnl (by omega) (by rw [q_e]; omega) c_41_5
            refine lv_iconst (v := nI 1) hx hb xd_Te_hasLine_44 (by decide) ?_
            refine lv_goto (tgt := 49) hx hb xd_Te_hasLine_45 (by decide) ?_
            have hP9 : va_P G xk_cl [(t, .inr (1, [.ref tc, .int (nI cnt), .int (nI (sp_sk tn cnt at_))])), (tc, .inl (cA 1, 300, .inl (tx_A tn)))] _ := hP.sub [0, 1] rfl
            have hD9 : va_D A [(t, .inr (1, [.ref tc, .int (nI cnt), .int (nI (sp_sk tn cnt at_))])), (tc, .inl (cA 1, 300, .inl (tx_A tn)))] := hD.sub [0, 1] (by decide) rfl
            exact W.zret (v := nI 1) (ty := .boolean) hx hb hr (by decide) (fun T9 ht hW => ⟨⟨_, (), rfl, by rw [if_pos (by omega)], by rw [ht]; exact hP9, hD9⟩, hS.F ht⟩) hS.2.2 xd_Te_hasLine_49
        · have q_b := nI_ge' (by have := hv i; omega) (by decide) c_17_4
          refine lv_aload_n hx hb xd_Te_hasLine_20 rfl (lv_at hl 0 rfl) ?_
          refine lv_dup hx hb xd_Te_hasLine_21 rfl ?_
          refine va_get (D := G) (ci := 1) (v := .int (nI i)) (C := xc_Te) (T := xf_Te) (N := 3) hx hb hts xw_Te hown hK.1 hP 0 rfl rfl 2 (by decide) (hts _ xm_32) (fun _ h9 => h9) rfl xd_Te_hasLine_22 ?_
          refine lv_iconst (v := nI 1) hx hb xd_Te_hasLine_25 (by decide) ?_
          refine lx_iadd (z := nI (i + 1)) hx hb xd_Te_hasLine_26 (nI_add _ _) ?_
          refine va_put (D := G) (ci := 1) (v := .int (nI (i + 1))) (ty := .int) (C := xc_Te) (T := xf_Te) (N := 3) hx hb hts xw_Te xt_Te xt_Te_ok xn_Te hown hK.1 hP hD hS 0 rfl rfl 2 (by decide) (hts _ xm_32) (fun _ h9 => h9) rfl (by decide +kernel) rfl rfl (Nat.le_of_ble_eq_true rfl) xd_Te_hasLine_27 (fun H locs hP hD hS => ?_)
          have hP : va_P G xk_cl [(t, .inr (1, [.ref tc, .int (nI cnt), .int (nI (i + 1))])), (tc, .inl (cA 1, 300, .inl (tx_A tn)))] H := hP
          have hD : va_D A [(t, .inr (1, [.ref tc, .int (nI cnt), .int (nI (i + 1))])), (tc, .inl (cA 1, 300, .inl (tx_A tn)))] := hD
          refine lv_goto (tgt := 0) hx hb xd_Te_hasLine_30 (by decide) ?_
          exact ih_lp (i + 1) (by omega) (by rw [hi]; exact sp_sk_t q_a q_b) (by omega) _ _ (hP.sub [0, 1] rfl) (hD.sub [0, 1] (by decide) rfl) hS ls (lv_sub hl [0] rfl)
  exact lp ((cnt - at_) + 1) at_ (by omega) rfl (Nat.lt_succ_self _) _ _ (hP.sub [0, 1] rfl) (hD.sub [0, 1] (by decide) rfl) hS ls (lv_sub hl [0] rfl)
set_option maxHeartbeats 4000000 in
set_option maxRecDepth 100000 in
theorem ct_Te_takeAny (l : Launch) (G : va_G) (cA : Nat → ClassId) (sz : Nat) (t : Nat) (tc : Nat) (tn : Nat → Nat) (cnt : Nat) (at_ : Nat) (hc : cnt ≤ 300) (ha : at_ ≤ 300) (hv : ∀ j, tn j < 128) : Met l xy_Te_takeAny (.code xy_Te_takeAny xb_Te_takeAny 2 (some .int) :: tw_W) ({ frames := 1, cells := 0, slots := 0, locals := 20 }) (pc_w G cA [(t, .inr (1, [.ref tc, .int (nI cnt), .int (nI at_)])), (tc, .inl (cA 1, 300, .inl (tx_A tn)))] sz [.ref t]) (va_Qi (fun (r : Int32) (_ : Unit) => r = sp_pk tn cnt at_) (fun _ T9 => at_w G (va_A [(t, .inr (1, [.ref tc, .int (nI cnt), .int (nI at_)])), (tc, .inl (cA 1, 300, .inl (tx_A tn)))] sz) [(t, .inr (1, [.ref tc, .int (nI cnt), .int (nI (ta_A cnt at_))])), (tc, .inl (cA 1, 300, .inl (tx_A tn)))] T9) (va_A [(t, .inr (1, [.ref tc, .int (nI cnt), .int (nI at_)])), (tc, .inl (cA 1, 300, .inl (tx_A tn)))] sz)) 0 0 (va_A [(t, .inr (1, [.ref tc, .int (nI cnt), .int (nI at_)])), (tc, .inl (cA 1, 300, .inl (tx_A tn)))] sz) := by
  refine Met.ofW (cc := xb_Te_takeAny) (maxL := 2) (ret := (some .int)) (by decide) rfl ?_
  intro p e s m args below meth c s₁ B hml hv
  obtain ⟨rfl, hsz, hK, hP, hD0⟩ := hv
  have hx := B.exec
  have hb := B.bytes
  have hr := B.returns
  have hts0 := atoms_spec (ws := .code xy_Te_takeAny xb_Te_takeAny 2 (some .int) :: tw_W) B.pre
  have hts : ∀ w9 ∈ tw_W, w9.before [.ref t].toArray s = true := fun w9 h9 => hts0 w9 (List.mem_cons_of_mem _ h9)
  have hown : s.vm.findClass xc_Te = some m.cls := findClass_of_methodNamed B.named
  have hlocks := B.notSynchronized
  subst hsz
  have hD := hD0.self (sz := s.heap.size)
  generalize hAe : va_A [(t, .inr (1, [.ref tc, .int (nI cnt), .int (nI at_)])), (tc, .inl (cA 1, 300, .inl (tx_A tn)))] s.heap.size = A at hD ⊢
  have hA : ∀ q : Nat, s.heap.size ≤ q → A q := fun q h => by rw [← hAe]; exact Or.inr h
  have hS : va_S A s.heap s.heap [] := va_S.rf
  have hP : va_P G xk_cl [(t, .inr (1, [.ref tc, .int (nI cnt), .int (nI at_)])), (tc, .inl (cA 1, 300, .inl (tx_A tn)))] s.heap := hP
  have hl := lv_entry ([.ref t]) (n := 2) (Nat.le_of_ble_eq_true rfl)
  rw [lg_entry_eq]
  generalize (lg_sl ([.ref t]) ++ List.replicate (2 - (lg_sl ([.ref t])).length) Slot.unset).toArray = ls at hl ⊢
  have hl : lv_has ls 2 [(0, .ref t)] := hl
  refine lv_aload_n hx hb xd_Te_takeAny_0 rfl (lv_at hl 0 rfl) ?_
  have hPc := hP
  refine vp_callSi (va_Run.run (va_runV (As := []) (rest := []) ⟨hx, hb, hml, hown, hts⟩ (ct_Te_peek l G cA t tc tn cnt at_ (by omega) (by omega)) (cwV 0 hts (gi_v xm_221 xm_223 xs_Te_peek xm_2 xm_224) rfl rfl rfl ⟨rfl, xh_Te_peek⟩ ⟨Nat.le_of_ble_eq_true rfl, Nat.le_of_ble_eq_true rfl⟩) (pv_r hK hPc (ci := 1) (q0 := 0) rfl rfl) rfl rfl hl.1 rfl (lv_room (Nat.le_of_ble_eq_true rfl)) xd_Te_takeAny_1 ⟨Nat.le_of_ble_eq_true rfl, Nat.le_of_ble_eq_true rfl⟩)) (fun r_1 q_2 => ?_)
  refine lx_top (z := sp_pk tn cnt at_) (q_2) ?_
  by_cases q_a : at_ < cnt
  · refine lx_top (z := nI (tn at_)) (sp_pk_t q_a) ?_
    refine lv_istore_n (lv' := [(1, .int (nI (tn at_))), (0, .ref t)]) hx hb xd_Te_takeAny_4 rfl hl (by decide) rfl (fun ls hl => ?_)
    refine lv_iload_n hx hb xd_Te_takeAny_5 rfl (lv_at hl 0 rfl) ?_
    refine lv_iconst (v := (-1)) hx hb xd_Te_takeAny_6 (by decide) ?_
    refine lv_icmp_eq (tgt := 20) hx hb xd_Te_takeAny_7 (by decide) (fun c_7_2 => absurd c_7_2 (nI_nm (by have := hv at_; omega))) (fun c_7_2 => ?_)
    refine lv_aload_n hx hb xd_Te_takeAny_10 rfl (lv_at hl 1 rfl) ?_
    refine lv_dup hx hb xd_Te_takeAny_11 rfl ?_
    refine va_get (D := G) (ci := 1) (v := .int (nI at_)) (C := xc_Te) (T := xf_Te) (N := 3) hx hb hts xw_Te hown hK.1 hP 0 rfl rfl 2 (by decide) (hts _ xm_32) (fun _ h9 => h9) rfl xd_Te_takeAny_12 ?_
    refine lv_iconst (v := nI 1) hx hb xd_Te_takeAny_15 (by decide) ?_
    refine lx_iadd (z := nI (at_ + 1)) hx hb xd_Te_takeAny_16 (nI_add _ _) ?_
    refine va_put (D := G) (ci := 1) (v := .int (nI (at_ + 1))) (ty := .int) (C := xc_Te) (T := xf_Te) (N := 3) hx hb hts xw_Te xt_Te xt_Te_ok xn_Te hown hK.1 hP hD hS 0 rfl rfl 2 (by decide) (hts _ xm_32) (fun _ h9 => h9) rfl (by decide +kernel) rfl rfl (Nat.le_of_ble_eq_true rfl) xd_Te_takeAny_17 (fun H locs hP hD hS => ?_)
    have hP : va_P G xk_cl [(t, .inr (1, [.ref tc, .int (nI cnt), .int (nI (at_ + 1))])), (tc, .inl (cA 1, 300, .inl (tx_A tn)))] H := hP
    have hD : va_D A [(t, .inr (1, [.ref tc, .int (nI cnt), .int (nI (at_ + 1))])), (tc, .inl (cA 1, 300, .inl (tx_A tn)))] := hD
    have hP : va_P G xk_cl [(t, .inr (1, [.ref tc, .int (nI cnt), .int (nI (ta_A cnt at_))])), (tc, .inl (cA 1, 300, .inl (tx_A tn)))] H := by rw [ta_A, if_pos q_a]; exact hP
    have hD : va_D A [(t, .inr (1, [.ref tc, .int (nI cnt), .int (nI (ta_A cnt at_))])), (tc, .inl (cA 1, 300, .inl (tx_A tn)))] := by rw [ta_A, if_pos q_a]; exact hD
    refine lv_iload_n hx hb xd_Te_takeAny_20 rfl (lv_at hl 0 rfl) ?_
    have hP9 : va_P G xk_cl [(t, .inr (1, [.ref tc, .int (nI cnt), .int (nI (ta_A cnt at_))])), (tc, .inl (cA 1, 300, .inl (tx_A tn)))] _ := hP.sub [0, 1] rfl
    have hD9 : va_D A [(t, .inr (1, [.ref tc, .int (nI cnt), .int (nI (ta_A cnt at_))])), (tc, .inl (cA 1, 300, .inl (tx_A tn)))] := hD.sub [0, 1] (by decide) rfl
    exact W.iret (v := nI (tn at_)) hx hb hr (fun T9 ht hW => ⟨⟨_, (), rfl, (sp_pk_t q_a).symm, by rw [ht]; exact hP9, hD9⟩, hS.F ht⟩) hS.2.2 xd_Te_takeAny_21
  · refine lx_top (z := (-1)) (sp_pk_f q_a) ?_
    refine lv_istore_n (lv' := [(1, .int (-1)), (0, .ref t)]) hx hb xd_Te_takeAny_4 rfl hl (by decide) rfl (fun ls hl => ?_)
    refine lv_iload_n hx hb xd_Te_takeAny_5 rfl (lv_at hl 0 rfl) ?_
    refine lv_iconst (v := (-1)) hx hb xd_Te_takeAny_6 (by decide) ?_
    refine lv_icmp_eq (tgt := 20) hx hb xd_Te_takeAny_7 (by decide) (fun c_7_3 => ?_) (fun c_7_3 => absurd (by decide) c_7_3)
    have hP : va_P G xk_cl [(t, .inr (1, [.ref tc, .int (nI cnt), .int (nI (ta_A cnt at_))])), (tc, .inl (cA 1, 300, .inl (tx_A tn)))] s.heap := by rw [ta_A, if_neg q_a]; exact hP
    have hD : va_D A [(t, .inr (1, [.ref tc, .int (nI cnt), .int (nI (ta_A cnt at_))])), (tc, .inl (cA 1, 300, .inl (tx_A tn)))] := by rw [ta_A, if_neg q_a]; exact hD
    refine lv_iload_n hx hb xd_Te_takeAny_20 rfl (lv_at hl 0 rfl) ?_
    have hP9 : va_P G xk_cl [(t, .inr (1, [.ref tc, .int (nI cnt), .int (nI (ta_A cnt at_))])), (tc, .inl (cA 1, 300, .inl (tx_A tn)))] _ := hP.sub [0, 1] rfl
    have hD9 : va_D A [(t, .inr (1, [.ref tc, .int (nI cnt), .int (nI (ta_A cnt at_))])), (tc, .inl (cA 1, 300, .inl (tx_A tn)))] := hD.sub [0, 1] (by decide) rfl
    exact W.iret (v := (-1)) hx hb hr (fun T9 ht hW => ⟨⟨_, (), rfl, (sp_pk_f q_a).symm, by rw [ht]; exact hP9, hD9⟩, hS.F ht⟩) hS.2.2 xd_Te_takeAny_21
set_option maxHeartbeats 4000000 in
set_option maxRecDepth 100000 in
theorem ct_Te_take (l : Launch) (G : va_G) (cA : Nat → ClassId) (sz : Nat) (t : Nat) (tc : Nat) (tn : Nat → Nat) (cnt : Nat) (at_ : Nat) (hc : cnt ≤ 300) (ha : at_ ≤ 300) (hv : ∀ j, tn j < 128) (w : Nat) (hw : w < 128) : Met l xy_Te_take (.code xy_Te_take xb_Te_take 2 (some .boolean) :: tw_W) ({ frames := 1, cells := 0, slots := 0, locals := 20 }) (pc_w G cA [(t, .inr (1, [.ref tc, .int (nI cnt), .int (nI at_)])), (tc, .inl (cA 1, 300, .inl (tx_A tn)))] sz [.ref t, .int (nI w)]) (va_Qi (fun (r : Int32) (_ : Unit) => r = tk_R tn cnt at_ w) (fun _ T9 => at_w G (va_A [(t, .inr (1, [.ref tc, .int (nI cnt), .int (nI at_)])), (tc, .inl (cA 1, 300, .inl (tx_A tn)))] sz) [(t, .inr (1, [.ref tc, .int (nI cnt), .int (nI (tk_A tn cnt at_ w))])), (tc, .inl (cA 1, 300, .inl (tx_A tn)))] T9) (va_A [(t, .inr (1, [.ref tc, .int (nI cnt), .int (nI at_)])), (tc, .inl (cA 1, 300, .inl (tx_A tn)))] sz)) 0 0 (va_A [(t, .inr (1, [.ref tc, .int (nI cnt), .int (nI at_)])), (tc, .inl (cA 1, 300, .inl (tx_A tn)))] sz) := by
  refine Met.ofW (cc := xb_Te_take) (maxL := 2) (ret := (some .boolean)) (by decide) rfl ?_
  intro p e s m args below meth c s₁ B hml hv
  obtain ⟨rfl, hsz, hK, hP, hD0⟩ := hv
  have hx := B.exec
  have hb := B.bytes
  have hr := B.returns
  have hts0 := atoms_spec (ws := .code xy_Te_take xb_Te_take 2 (some .boolean) :: tw_W) B.pre
  have hts : ∀ w9 ∈ tw_W, w9.before [.ref t, .int (nI w)].toArray s = true := fun w9 h9 => hts0 w9 (List.mem_cons_of_mem _ h9)
  have hown : s.vm.findClass xc_Te = some m.cls := findClass_of_methodNamed B.named
  have hlocks := B.notSynchronized
  subst hsz
  have hD := hD0.self (sz := s.heap.size)
  generalize hAe : va_A [(t, .inr (1, [.ref tc, .int (nI cnt), .int (nI at_)])), (tc, .inl (cA 1, 300, .inl (tx_A tn)))] s.heap.size = A at hD ⊢
  have hA : ∀ q : Nat, s.heap.size ≤ q → A q := fun q h => by rw [← hAe]; exact Or.inr h
  have hS : va_S A s.heap s.heap [] := va_S.rf
  have hP : va_P G xk_cl [(t, .inr (1, [.ref tc, .int (nI cnt), .int (nI at_)])), (tc, .inl (cA 1, 300, .inl (tx_A tn)))] s.heap := hP
  have hl := lv_entry ([.ref t, .int (nI w)]) (n := 2) (Nat.le_of_ble_eq_true rfl)
  rw [lg_entry_eq]
  generalize (lg_sl ([.ref t, .int (nI w)]) ++ List.replicate (2 - (lg_sl ([.ref t, .int (nI w)])).length) Slot.unset).toArray = ls at hl ⊢
  have hl : lv_has ls 2 [(0, .ref t), (1, .int (nI w))] := hl
  refine lv_aload_n hx hb xd_Te_take_0 rfl (lv_at hl 0 rfl) ?_
  have hPc := hP
  refine vp_callSi (va_Run.run (va_runV (As := []) (rest := []) ⟨hx, hb, hml, hown, hts⟩ (ct_Te_peek l G cA t tc tn cnt at_ (by omega) (by omega)) (cwV 0 hts (gi_v xm_221 xm_223 xs_Te_peek xm_2 xm_224) rfl rfl rfl ⟨rfl, xh_Te_peek⟩ ⟨Nat.le_of_ble_eq_true rfl, Nat.le_of_ble_eq_true rfl⟩) (pv_r hK hPc (ci := 1) (q0 := 0) rfl rfl) rfl rfl hl.1 rfl (lv_room (Nat.le_of_ble_eq_true rfl)) xd_Te_take_1 ⟨Nat.le_of_ble_eq_true rfl, Nat.le_of_ble_eq_true rfl⟩)) (fun r_1 q_2 => ?_)
  refine lx_top (z := sp_pk tn cnt at_) (q_2) ?_
  by_cases q_a : at_ < cnt
  · refine lx_top (z := nI (tn at_)) (sp_pk_t q_a) ?_
    refine lv_iload_n hx hb xd_Te_take_4 rfl (lv_at hl 1 rfl) ?_
    refine lv_icmp_eq (tgt := 10) hx hb xd_Te_take_5 (by decide) (fun c_5_2 => ?_) (fun c_5_2 => ?_)
    · have q_b : tk_P tn cnt at_ w := ⟨q_a, nI_ge' (by have := hv at_; omega) (by omega) c_5_2⟩
      refine lv_aload_n hx hb xd_Te_take_10 rfl (lv_at hl 0 rfl) ?_
      refine lv_dup hx hb xd_Te_take_11 rfl ?_
      refine va_get (D := G) (ci := 1) (v := .int (nI at_)) (C := xc_Te) (T := xf_Te) (N := 3) hx hb hts xw_Te hown hK.1 hP 0 rfl rfl 2 (by decide) (hts _ xm_32) (fun _ h9 => h9) rfl xd_Te_take_12 ?_
      refine lv_iconst (v := nI 1) hx hb xd_Te_take_15 (by decide) ?_
      refine lx_iadd (z := nI (at_ + 1)) hx hb xd_Te_take_16 (nI_add _ _) ?_
      refine va_put (D := G) (ci := 1) (v := .int (nI (at_ + 1))) (ty := .int) (C := xc_Te) (T := xf_Te) (N := 3) hx hb hts xw_Te xt_Te xt_Te_ok xn_Te hown hK.1 hP hD hS 0 rfl rfl 2 (by decide) (hts _ xm_32) (fun _ h9 => h9) rfl (by decide +kernel) rfl rfl (Nat.le_of_ble_eq_true rfl) xd_Te_take_17 (fun H locs hP hD hS => ?_)
      have hP : va_P G xk_cl [(t, .inr (1, [.ref tc, .int (nI cnt), .int (nI (at_ + 1))])), (tc, .inl (cA 1, 300, .inl (tx_A tn)))] H := hP
      have hD : va_D A [(t, .inr (1, [.ref tc, .int (nI cnt), .int (nI (at_ + 1))])), (tc, .inl (cA 1, 300, .inl (tx_A tn)))] := hD
      have hP : va_P G xk_cl [(t, .inr (1, [.ref tc, .int (nI cnt), .int (nI (tk_A tn cnt at_ w))])), (tc, .inl (cA 1, 300, .inl (tx_A tn)))] H := by rw [tk_A, if_pos q_b]; exact hP
      have hD : va_D A [(t, .inr (1, [.ref tc, .int (nI cnt), .int (nI (tk_A tn cnt at_ w))])), (tc, .inl (cA 1, 300, .inl (tx_A tn)))] := by rw [tk_A, if_pos q_b]; exact hD
      refine lv_iconst (v := nI 1) hx hb xd_Te_take_20 (by decide) ?_
      have hP9 : va_P G xk_cl [(t, .inr (1, [.ref tc, .int (nI cnt), .int (nI (tk_A tn cnt at_ w))])), (tc, .inl (cA 1, 300, .inl (tx_A tn)))] _ := hP.sub [0, 1] rfl
      have hD9 : va_D A [(t, .inr (1, [.ref tc, .int (nI cnt), .int (nI (tk_A tn cnt at_ w))])), (tc, .inl (cA 1, 300, .inl (tx_A tn)))] := hD.sub [0, 1] (by decide) rfl
      exact W.zret (v := nI 1) (ty := .boolean) hx hb hr (by decide) (fun T9 ht hW => ⟨⟨_, (), rfl, by rw [tk_R, if_pos q_b], by rw [ht]; exact hP9, hD9⟩, hS.F ht⟩) hS.2.2 xd_Te_take_21
    · have q_b : ¬ tk_P tn cnt at_ w := fun z => c_5_2 (by rw [z.2])
      have hP : va_P G xk_cl [(t, .inr (1, [.ref tc, .int (nI cnt), .int (nI (tk_A tn cnt at_ w))])), (tc, .inl (cA 1, 300, .inl (tx_A tn)))] s.heap := by rw [tk_A, if_neg q_b]; exact hP
      have hD : va_D A [(t, .inr (1, [.ref tc, .int (nI cnt), .int (nI (tk_A tn cnt at_ w))])), (tc, .inl (cA 1, 300, .inl (tx_A tn)))] := by rw [tk_A, if_neg q_b]; exact hD
      refine lv_iconst (v := nI 0) hx hb xd_Te_take_8 (by decide) ?_
      have hP9 : va_P G xk_cl [(t, .inr (1, [.ref tc, .int (nI cnt), .int (nI (tk_A tn cnt at_ w))])), (tc, .inl (cA 1, 300, .inl (tx_A tn)))] _ := hP.sub [0, 1] rfl
      have hD9 : va_D A [(t, .inr (1, [.ref tc, .int (nI cnt), .int (nI (tk_A tn cnt at_ w))])), (tc, .inl (cA 1, 300, .inl (tx_A tn)))] := hD.sub [0, 1] (by decide) rfl
      exact W.zret (v := nI 0) (ty := .boolean) hx hb hr (by decide) (fun T9 ht hW => ⟨⟨_, (), rfl, by rw [tk_R, if_neg q_b], by rw [ht]; exact hP9, hD9⟩, hS.F ht⟩) hS.2.2 xd_Te_take_9
  · refine lx_top (z := (-1)) (sp_pk_f q_a) ?_
    refine lv_iload_n hx hb xd_Te_take_4 rfl (lv_at hl 1 rfl) ?_
    refine lv_icmp_eq (tgt := 10) hx hb xd_Te_take_5 (by decide) (fun c_5_3 => absurd c_5_3 (fun z => nI_nm (n := w) (by omega) z.symm)) (fun c_5_3 => ?_)
    have q_b : ¬ tk_P tn cnt at_ w := fun z => q_a z.1
    have hP : va_P G xk_cl [(t, .inr (1, [.ref tc, .int (nI cnt), .int (nI (tk_A tn cnt at_ w))])), (tc, .inl (cA 1, 300, .inl (tx_A tn)))] s.heap := by rw [tk_A, if_neg q_b]; exact hP
    have hD : va_D A [(t, .inr (1, [.ref tc, .int (nI cnt), .int (nI (tk_A tn cnt at_ w))])), (tc, .inl (cA 1, 300, .inl (tx_A tn)))] := by rw [tk_A, if_neg q_b]; exact hD
    refine lv_iconst (v := nI 0) hx hb xd_Te_take_8 (by decide) ?_
    have hP9 : va_P G xk_cl [(t, .inr (1, [.ref tc, .int (nI cnt), .int (nI (tk_A tn cnt at_ w))])), (tc, .inl (cA 1, 300, .inl (tx_A tn)))] _ := hP.sub [0, 1] rfl
    have hD9 : va_D A [(t, .inr (1, [.ref tc, .int (nI cnt), .int (nI (tk_A tn cnt at_ w))])), (tc, .inl (cA 1, 300, .inl (tx_A tn)))] := hD.sub [0, 1] (by decide) rfl
    exact W.zret (v := nI 0) (ty := .boolean) hx hb hr (by decide) (fun T9 ht hW => ⟨⟨_, (), rfl, by rw [tk_R, if_neg q_b], by rw [ht]; exact hP9, hD9⟩, hS.F ht⟩) hS.2.2 xd_Te_take_9
set_option maxHeartbeats 4000000 in
set_option maxRecDepth 100000 in
theorem ct_Te_takeLetter (l : Launch) (G : va_G) (cA : Nat → ClassId) (sz : Nat) (t : Nat) (tc : Nat) (tn : Nat → Nat) (cnt : Nat) (at_ : Nat) (hc : cnt ≤ 300) (ha : at_ ≤ 300) (hv : ∀ j, tn j < 128) : Met l xy_Te_takeLetter (.code xy_Te_takeLetter xb_Te_takeLetter 2 (some .int) :: tw_W) ({ frames := 1, cells := 0, slots := 0, locals := 20 }) (pc_w G cA [(t, .inr (1, [.ref tc, .int (nI cnt), .int (nI at_)])), (tc, .inl (cA 1, 300, .inl (tx_A tn)))] sz [.ref t]) (va_Qi (fun (r : Int32) (_ : Unit) => r = lt_R tn cnt at_) (fun _ T9 => at_w G (va_A [(t, .inr (1, [.ref tc, .int (nI cnt), .int (nI at_)])), (tc, .inl (cA 1, 300, .inl (tx_A tn)))] sz) [(t, .inr (1, [.ref tc, .int (nI cnt), .int (nI (lt_A tn cnt at_))])), (tc, .inl (cA 1, 300, .inl (tx_A tn)))] T9) (va_A [(t, .inr (1, [.ref tc, .int (nI cnt), .int (nI at_)])), (tc, .inl (cA 1, 300, .inl (tx_A tn)))] sz)) 0 0 (va_A [(t, .inr (1, [.ref tc, .int (nI cnt), .int (nI at_)])), (tc, .inl (cA 1, 300, .inl (tx_A tn)))] sz) := by
  refine Met.ofW (cc := xb_Te_takeLetter) (maxL := 2) (ret := (some .int)) (by decide) rfl ?_
  intro p e s m args below meth c s₁ B hml hv
  obtain ⟨rfl, hsz, hK, hP, hD0⟩ := hv
  have hx := B.exec
  have hb := B.bytes
  have hr := B.returns
  have hts0 := atoms_spec (ws := .code xy_Te_takeLetter xb_Te_takeLetter 2 (some .int) :: tw_W) B.pre
  have hts : ∀ w9 ∈ tw_W, w9.before [.ref t].toArray s = true := fun w9 h9 => hts0 w9 (List.mem_cons_of_mem _ h9)
  have hown : s.vm.findClass xc_Te = some m.cls := findClass_of_methodNamed B.named
  have hlocks := B.notSynchronized
  subst hsz
  have hD := hD0.self (sz := s.heap.size)
  generalize hAe : va_A [(t, .inr (1, [.ref tc, .int (nI cnt), .int (nI at_)])), (tc, .inl (cA 1, 300, .inl (tx_A tn)))] s.heap.size = A at hD ⊢
  have hA : ∀ q : Nat, s.heap.size ≤ q → A q := fun q h => by rw [← hAe]; exact Or.inr h
  have hS : va_S A s.heap s.heap [] := va_S.rf
  have hP : va_P G xk_cl [(t, .inr (1, [.ref tc, .int (nI cnt), .int (nI at_)])), (tc, .inl (cA 1, 300, .inl (tx_A tn)))] s.heap := hP
  have hl := lv_entry ([.ref t]) (n := 2) (Nat.le_of_ble_eq_true rfl)
  rw [lg_entry_eq]
  generalize (lg_sl ([.ref t]) ++ List.replicate (2 - (lg_sl ([.ref t])).length) Slot.unset).toArray = ls at hl ⊢
  have hl : lv_has ls 2 [(0, .ref t)] := hl
  refine lv_aload_n hx hb xd_Te_takeLetter_0 rfl (lv_at hl 0 rfl) ?_
  have hPc := hP
  refine vp_callSi (va_Run.run (va_runV (As := []) (rest := []) ⟨hx, hb, hml, hown, hts⟩ (ct_Te_peek l G cA t tc tn cnt at_ (by omega) (by omega)) (cwV 0 hts (gi_v xm_221 xm_223 xs_Te_peek xm_2 xm_224) rfl rfl rfl ⟨rfl, xh_Te_peek⟩ ⟨Nat.le_of_ble_eq_true rfl, Nat.le_of_ble_eq_true rfl⟩) (pv_r hK hPc (ci := 1) (q0 := 0) rfl rfl) rfl rfl hl.1 rfl (lv_room (Nat.le_of_ble_eq_true rfl)) xd_Te_takeLetter_1 ⟨Nat.le_of_ble_eq_true rfl, Nat.le_of_ble_eq_true rfl⟩)) (fun r_1 q_2 => ?_)
  refine lx_top (z := sp_pk tn cnt at_) (q_2) ?_
  by_cases q_a : at_ < cnt
  · refine lx_top (z := nI (tn at_)) (sp_pk_t q_a) ?_
    refine lv_istore_n (lv' := [(1, .int (nI (tn at_))), (0, .ref t)]) hx hb xd_Te_takeLetter_4 rfl hl (by decide) rfl (fun ls hl => ?_)
    refine lv_iload_n hx hb xd_Te_takeLetter_5 rfl (lv_at hl 0 rfl) ?_
    refine lv_bipush (v := nI 97) hx hb xd_Te_takeLetter_6 (by decide) ?_
    refine lv_icmp_lt (tgt := 17) hx hb xd_Te_takeLetter_8 (by decide) (fun c_8_2 => ?_) (fun c_8_2 => ?_)
    · have q_c := nI_gl (by have := hv at_; omega) (by decide) c_8_2
      have q_b : ¬ lt_P tn cnt at_ := fun z => by omega
      have hP : va_P G xk_cl [(t, .inr (1, [.ref tc, .int (nI cnt), .int (nI (lt_A tn cnt at_))])), (tc, .inl (cA 1, 300, .inl (tx_A tn)))] s.heap := by rw [lt_A, if_neg q_b]; exact hP
      have hD : va_D A [(t, .inr (1, [.ref tc, .int (nI cnt), .int (nI (lt_A tn cnt at_))])), (tc, .inl (cA 1, 300, .inl (tx_A tn)))] := by rw [lt_A, if_neg q_b]; exact hD
      refine lv_iconst (v := (-1)) hx hb xd_Te_takeLetter_17 (by decide) ?_
      have hP9 : va_P G xk_cl [(t, .inr (1, [.ref tc, .int (nI cnt), .int (nI (lt_A tn cnt at_))])), (tc, .inl (cA 1, 300, .inl (tx_A tn)))] _ := hP.sub [0, 1] rfl
      have hD9 : va_D A [(t, .inr (1, [.ref tc, .int (nI cnt), .int (nI (lt_A tn cnt at_))])), (tc, .inl (cA 1, 300, .inl (tx_A tn)))] := hD.sub [0, 1] (by decide) rfl
      exact W.iret (v := (-1)) hx hb hr (fun T9 ht hW => ⟨⟨_, (), rfl, by rw [lt_R, if_neg q_b], by rw [ht]; exact hP9, hD9⟩, hS.F ht⟩) hS.2.2 xd_Te_takeLetter_18
    · have q_c := nI_gnlt (by have := hv at_; omega) (by decide) c_8_2
      refine lv_iload_n hx hb xd_Te_takeLetter_11 rfl (lv_at hl 0 rfl) ?_
      refine lv_bipush (v := nI 122) hx hb xd_Te_takeLetter_12 (by decide) ?_
      refine lv_icmp_le (tgt := 19) hx hb xd_Te_takeLetter_14 (by decide) (fun c_14_3 => ?_) (fun c_14_3 => ?_)
      · have q_d := nI_gle (by have := hv at_; omega) (by decide) c_14_3
        have q_b : lt_P tn cnt at_ := ⟨q_a, q_c, q_d⟩
        refine lv_aload_n hx hb xd_Te_takeLetter_19 rfl (lv_at hl 1 rfl) ?_
        refine lv_dup hx hb xd_Te_takeLetter_20 rfl ?_
        refine va_get (D := G) (ci := 1) (v := .int (nI at_)) (C := xc_Te) (T := xf_Te) (N := 3) hx hb hts xw_Te hown hK.1 hP 0 rfl rfl 2 (by decide) (hts _ xm_32) (fun _ h9 => h9) rfl xd_Te_takeLetter_21 ?_
        refine lv_iconst (v := nI 1) hx hb xd_Te_takeLetter_24 (by decide) ?_
        refine lx_iadd (z := nI (at_ + 1)) hx hb xd_Te_takeLetter_25 (nI_add _ _) ?_
        refine va_put (D := G) (ci := 1) (v := .int (nI (at_ + 1))) (ty := .int) (C := xc_Te) (T := xf_Te) (N := 3) hx hb hts xw_Te xt_Te xt_Te_ok xn_Te hown hK.1 hP hD hS 0 rfl rfl 2 (by decide) (hts _ xm_32) (fun _ h9 => h9) rfl (by decide +kernel) rfl rfl (Nat.le_of_ble_eq_true rfl) xd_Te_takeLetter_26 (fun H locs hP hD hS => ?_)
        have hP : va_P G xk_cl [(t, .inr (1, [.ref tc, .int (nI cnt), .int (nI (at_ + 1))])), (tc, .inl (cA 1, 300, .inl (tx_A tn)))] H := hP
        have hD : va_D A [(t, .inr (1, [.ref tc, .int (nI cnt), .int (nI (at_ + 1))])), (tc, .inl (cA 1, 300, .inl (tx_A tn)))] := hD
        have hP : va_P G xk_cl [(t, .inr (1, [.ref tc, .int (nI cnt), .int (nI (lt_A tn cnt at_))])), (tc, .inl (cA 1, 300, .inl (tx_A tn)))] H := by rw [lt_A, if_pos q_b]; exact hP
        have hD : va_D A [(t, .inr (1, [.ref tc, .int (nI cnt), .int (nI (lt_A tn cnt at_))])), (tc, .inl (cA 1, 300, .inl (tx_A tn)))] := by rw [lt_A, if_pos q_b]; exact hD
        refine lv_iload_n hx hb xd_Te_takeLetter_29 rfl (lv_at hl 0 rfl) ?_
        refine lv_bipush (v := nI 97) hx hb xd_Te_takeLetter_30 (by decide) ?_
        refine lx_isub (z := nI (tn at_ - 97)) hx hb xd_Te_takeLetter_32 (pk_sub (by omega)) ?_
        have hP9 : va_P G xk_cl [(t, .inr (1, [.ref tc, .int (nI cnt), .int (nI (lt_A tn cnt at_))])), (tc, .inl (cA 1, 300, .inl (tx_A tn)))] _ := hP.sub [0, 1] rfl
        have hD9 : va_D A [(t, .inr (1, [.ref tc, .int (nI cnt), .int (nI (lt_A tn cnt at_))])), (tc, .inl (cA 1, 300, .inl (tx_A tn)))] := hD.sub [0, 1] (by decide) rfl
        exact W.iret (v := nI (tn at_ - 97)) hx hb hr (fun T9 ht hW => ⟨⟨_, (), rfl, by rw [lt_R, if_pos q_b], by rw [ht]; exact hP9, hD9⟩, hS.F ht⟩) hS.2.2 xd_Te_takeLetter_33
      · have q_d := nI_gnl (by have := hv at_; omega) (by decide) c_14_3
        have q_b : ¬ lt_P tn cnt at_ := fun z => by omega
        have hP : va_P G xk_cl [(t, .inr (1, [.ref tc, .int (nI cnt), .int (nI (lt_A tn cnt at_))])), (tc, .inl (cA 1, 300, .inl (tx_A tn)))] s.heap := by rw [lt_A, if_neg q_b]; exact hP
        have hD : va_D A [(t, .inr (1, [.ref tc, .int (nI cnt), .int (nI (lt_A tn cnt at_))])), (tc, .inl (cA 1, 300, .inl (tx_A tn)))] := by rw [lt_A, if_neg q_b]; exact hD
        refine lv_iconst (v := (-1)) hx hb xd_Te_takeLetter_17 (by decide) ?_
        have hP9 : va_P G xk_cl [(t, .inr (1, [.ref tc, .int (nI cnt), .int (nI (lt_A tn cnt at_))])), (tc, .inl (cA 1, 300, .inl (tx_A tn)))] _ := hP.sub [0, 1] rfl
        have hD9 : va_D A [(t, .inr (1, [.ref tc, .int (nI cnt), .int (nI (lt_A tn cnt at_))])), (tc, .inl (cA 1, 300, .inl (tx_A tn)))] := hD.sub [0, 1] (by decide) rfl
        exact W.iret (v := (-1)) hx hb hr (fun T9 ht hW => ⟨⟨_, (), rfl, by rw [lt_R, if_neg q_b], by rw [ht]; exact hP9, hD9⟩, hS.F ht⟩) hS.2.2 xd_Te_takeLetter_18
  · refine lx_top (z := (-1)) (sp_pk_f q_a) ?_
    refine lv_istore_n (lv' := [(1, .int (-1)), (0, .ref t)]) hx hb xd_Te_takeLetter_4 rfl hl (by decide) rfl (fun ls hl => ?_)
    refine lv_iload_n hx hb xd_Te_takeLetter_5 rfl (lv_at hl 0 rfl) ?_
    refine lv_bipush (v := nI 97) hx hb xd_Te_takeLetter_6 (by decide) ?_
    refine lv_icmp_lt (tgt := 17) hx hb xd_Te_takeLetter_8 (by decide) (fun c_8_4 => ?_) (fun c_8_4 => absurd (by decide) c_8_4)
    have q_b : ¬ lt_P tn cnt at_ := fun z => by omega
    have hP : va_P G xk_cl [(t, .inr (1, [.ref tc, .int (nI cnt), .int (nI (lt_A tn cnt at_))])), (tc, .inl (cA 1, 300, .inl (tx_A tn)))] s.heap := by rw [lt_A, if_neg q_b]; exact hP
    have hD : va_D A [(t, .inr (1, [.ref tc, .int (nI cnt), .int (nI (lt_A tn cnt at_))])), (tc, .inl (cA 1, 300, .inl (tx_A tn)))] := by rw [lt_A, if_neg q_b]; exact hD
    refine lv_iconst (v := (-1)) hx hb xd_Te_takeLetter_17 (by decide) ?_
    have hP9 : va_P G xk_cl [(t, .inr (1, [.ref tc, .int (nI cnt), .int (nI (lt_A tn cnt at_))])), (tc, .inl (cA 1, 300, .inl (tx_A tn)))] _ := hP.sub [0, 1] rfl
    have hD9 : va_D A [(t, .inr (1, [.ref tc, .int (nI cnt), .int (nI (lt_A tn cnt at_))])), (tc, .inl (cA 1, 300, .inl (tx_A tn)))] := hD.sub [0, 1] (by decide) rfl
    exact W.iret (v := (-1)) hx hb hr (fun T9 ht hW => ⟨⟨_, (), rfl, by rw [lt_R, if_neg q_b], by rw [ht]; exact hP9, hD9⟩, hS.F ht⟩) hS.2.2 xd_Te_takeLetter_18
