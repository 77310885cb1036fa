def ra_R (st ce : Nat → Int32) (a b : Nat) : Int32 := if st a = nI 1 ∧ st b = nI 1 ∧ al_P ce a b then nI 1 else nI 0
theorem al_y {ce : Nat → Int32} {a b k : Nat} (h1 : en_K (ce (a * 26 + k)) = en_K (ce (b * 26 + k))) (h2 : en_V (ce (a * 26 + k)) = en_V (ce (b * 26 + k))) : al_K ce a b k := Or.inl (en_eq h1 h2)
theorem al_o {ce : Nat → Int32} {a b k : Nat} (ha : a < 40) (hb : b < 40) (h : en_K (ce (a * 26 + k)) = nI 2 ∧ en_V (ce (a * 26 + k)) = nI a ∧ en_V (ce (b * 26 + k)) = nI b) (h1 : en_K (ce (a * 26 + k)) = en_K (ce (b * 26 + k))) : al_K ce a b k := Or.inr ⟨(ot_i ha).mpr ⟨h.1, h.2.1⟩, (ot_i hb).mpr ⟨h1.symm.trans h.1, h.2.2⟩⟩
theorem al_1 {ce : Nat → Int32} {a b k : Nat} (h : ¬ en_K (ce (a * 26 + k)) = en_K (ce (b * 26 + k))) : ¬ al_K ce a b k := fun z => by
  rcases z with z | z
  · exact h (by rw [z])
  · exact h (by rw [z.1, z.2, en_KC (k := 2) (by decide), en_KC (k := 2) (by decide)])
theorem al_2 {ce : Nat → Int32} {a b k : Nat} (ha : a < 40) (hb : b < 40) (h : ¬ en_V (ce (a * 26 + k)) = en_V (ce (b * 26 + k))) (g : ¬ (en_K (ce (a * 26 + k)) = nI 2 ∧ en_V (ce (a * 26 + k)) = nI a ∧ en_V (ce (b * 26 + k)) = nI b)) : ¬ al_K ce a b k := fun z => by
  rcases z with z | z
  · exact h (by rw [z])
  · exact g ⟨((ot_i ha).mp z.1).1, ((ot_i ha).mp z.1).2, ((ot_i hb).mp z.2).2⟩
theorem al_s {ce : Nat → Int32} {a b i : Nat} (h : ∀ k, k < i → al_K ce a b k) (g : al_K ce a b i) : ∀ k, k < i + 1 → al_K ce a b k := fun k hk => by
  by_cases e : k = i
  · rw [e]; exact g
  · exact h k (by omega)
theorem mj_1 {n : Nat} {x : Int32} (hn : ¬ n = 0) (hx : x = nI 1) : ¬ sp_mj n x = 0 := by
  subst hx; unfold sp_mj; rw [if_neg (fun z => by rcases z with z | z | z; exact hn z; exact absurd z (by decide); exact absurd z (by decide))]; decide
theorem mj_0 {n : Nat} {x : Int32} (h : x = nI 0 ∨ x = nI 1 ∨ x = nI 2) (hx : ¬ x = nI 1) : sp_mj n x = 0 := by
  unfold sp_mj
  rcases h with rfl | rfl | rfl
  · rw [if_pos (Or.inr (Or.inl (by decide)))]; rfl
  · exact absurd rfl hx
  · rw [if_pos (Or.inr (Or.inr (by decide)))]; rfl
theorem ra_f {st ce : Nat → Int32} {a b : Nat} (hs : st_O st) (ha : a < 40) (hb : b < 40) (h : ra_R st ce a b = 0) : jn_p st ce (a * 40 + b) = false := by
  refine jn_f (i := a) (j := b) (by omega) (by omega) ?_
  by_cases q1 : st a = nI 1
  · by_cases q2 : st b = nI 1
    · refine Or.inr (Or.inr (Or.inr ?_))
      unfold sp_al
      rw [if_neg]
      · rfl
      · intro z
        rw [ra_R, if_pos ⟨q1, q2, z⟩] at h
        exact absurd h (by decide)
    · exact Or.inr (Or.inr (Or.inl (mj_0 (hs b hb) q2)))
  · exact Or.inr (Or.inl (mj_0 (hs a ha) q1))
theorem ra_t {st ce : Nat → Int32} {a b : Nat} (h : ¬ ra_R st ce a b = 0) : st a = nI 1 ∧ st b = nI 1 ∧ al_P ce a b := Classical.byContradiction fun z => h (by rw [ra_R, if_neg z]; rfl)
theorem ra_S {st ce : Nat → Int32} {a b : Nat} (ha0 : ¬ a = 0) (ha : a < 40) (hb : b < 40) (hab : a < b) (h : ¬ ra_R st ce a b = 0) (g : ∀ k, k < a * 40 + b → jn_p st ce k = false) : jn_S st ce = some (a * 40 + b) := by
  obtain ⟨h1, h2, h3⟩ := ra_t h
  exact jn_found ha hb hab (mj_1 ha0 h1) (mj_1 (by omega) h2) (by unfold sp_al; rw [if_pos h3]; decide) g
def rv_A (kd vl : Nat → Int32) (a b k : Nat) : Nat → Int32 := fun j => if j < k ∧ kd j = nI 2 ∧ vl j = nI b then nI a else vl j
theorem rv_0 (kd vl : Nat → Int32) (a b : Nat) : rv_A kd vl a b 0 = vl := by
  funext j; unfold rv_A; rw [if_neg (fun z => absurd z.1 (Nat.not_lt_zero _))]
theorem rv_k (kd vl : Nat → Int32) (a b k : Nat) : rv_A kd vl a b k k = vl k := if_neg (fun z => absurd z.1 (Nat.lt_irrefl _))
theorem rv_s (kd vl : Nat → Int32) (a b k : Nat) {x : Int32} (hx : x = if kd k = nI 2 ∧ vl k = nI b then nI a else vl k) : rv_A kd vl a b (k + 1) = upd (rv_A kd vl a b k) k x := by
  funext j
  by_cases e : j = k
  · rw [e, pk_us, hx]
    unfold rv_A
    by_cases q : kd k = nI 2 ∧ vl k = nI b
    · rw [if_pos ⟨Nat.lt_succ_self _, q⟩, if_pos q]
    · rw [if_neg (fun z => q z.2), if_neg q]
  · rw [pk_un e]
    unfold rv_A
    by_cases q : j < k ∧ kd j = nI 2 ∧ vl j = nI b
    · rw [if_pos q, if_pos ⟨by omega, q.2⟩]
    · rw [if_neg q, if_neg (fun z => q ⟨by omega, z.2⟩)]
theorem sn_rv {sa kd vl st ce : Nat → Int32} {a b : Nat} (h : sn_R sa kd vl st ce) (ha : a < 40) (hb : b < 40) : sn_R sa kd (rv_A kd vl a b 1040) st (rd_A ce (en_C (nI 2) (nI b)) (en_C (nI 2) (nI a)) 40) := ⟨h.1, fun j hj => by
  have h1 := h.2 j hj
  unfold rv_A rd_A
  by_cases q : ce j = en_C (nI 2) (nI b)
  · have q2 := (ot_i hb).mp q
    rw [if_pos ⟨by omega, q⟩, if_pos ⟨hj, by rw [h1.1]; exact q2.1, by rw [h1.2]; exact q2.2⟩, en_KC (k := 2) (by decide), en_Vp (by decide) (by omega)]
    exact ⟨by rw [h1.1]; exact q2.1, rfl⟩
  · rw [if_neg (fun z => q z.2), if_neg (fun z => q ((ot_i hb).mpr ⟨by rw [← h1.1]; exact z.2.1, by rw [← h1.2]; exact z.2.2⟩))]
    exact h1⟩
theorem fr_v (sa kd vl : Nat → Int32) (a b : Nat) : fr_H sa kd vl sa kd (rv_A kd vl a b 1040) := ⟨fun _ _ => rfl, fun j hj => ⟨rfl, if_neg (fun z => by omega)⟩⟩
def jq_Q (st ce sa kd vl : Nat → Int32) (r : Int32) (sa2 kd2 vl2 : Nat → Int32) : Prop := r = jn_r st ce ∧ sn_R sa2 kd2 vl2 (jn_st st ce) (jn_ce st ce) ∧ fr_H sa kd vl sa2 kd2 vl2
theorem jq_n {st ce sa kd vl : Nat → Int32} (h : jn_S st ce = none) (hR : sn_R sa kd vl st ce) : jq_Q st ce sa kd vl (nI 0) sa kd vl := ⟨by unfold jn_r; rw [h], by rw [jn_st_n h, jn_ce_n h]; exact hR, fr_r _ _ _⟩
theorem jq_y {st ce sa kd vl : Nat → Int32} {a b : Nat} (ha : a < 40) (hb : b < 40) (h : jn_S st ce = some (a * 40 + b)) (hR : sn_R sa kd vl st ce) : jq_Q st ce sa kd vl (nI 1) (upd sa b (nI 0)) (ey_A kd b 26) (rv_A (ey_A kd b 26) (ey_A vl b 26) a b 1040) :=
  ⟨by unfold jn_r; rw [h], by rw [jn_st_s hb h, jn_ce_s hb h]; exact sn_rv (sn_e (sn_s hR b _) b) ha hb, fr_t (fr_s _ _ _ _ hb) (fr_t (fr_e _ _ _ hb) (fr_v _ _ _ _ _))⟩
theorem jn_p_st {st ce : Nat → Int32} {m : Nat} (h : jn_S st ce = some m) : m < 1600 ∧ m / 40 < m % 40 ∧ ¬ st (m % 40) = 0 := by
  unfold jn_S at h
  rw [List.find?_range_eq_some] at h
  obtain ⟨h1, h2, -⟩ := h
  unfold jn_p at h1
  simp only [Bool.and_eq_true, decide_eq_true_eq, beq_iff_eq] at h1
  refine ⟨List.mem_range.mp h2, h1.1.1.1, fun z => ?_⟩
  have := h1.1.2
  unfold sp_mj at this
  rw [if_pos (Or.inr (Or.inl (by rw [z]; rfl)))] at this
  exact absurd this (by decide)
abbrev nz_B (st : Nat → Int32) : Nat → Bool := fun j => !(st j == 0)
theorem jn_ct {st ce : Nat → Int32} (h : ¬ jn_S st ce = none) : ct_N (nz_B (jn_st st ce)) 40 + 1 = ct_N (nz_B st) 40 := by
  cases q : jn_S st ce with
  | none => exact absurd q h
  | some m =>
    obtain ⟨h1, h2, h3⟩ := jn_p_st q
    have e : jn_st st ce = upd st (m % 40) (nI 0) := by unfold jn_st; rw [q]
    have := ct_N_up (nz_B st) (nz_B (upd st (m % 40) (nI 0))) (m % 40) 40 (by omega) (fun j hj => by unfold nz_B; rw [pk_un hj])
    rw [show nz_B (upd st (m % 40) (nI 0)) (m % 40) = false by unfold nz_B; rw [pk_us]; rfl, show nz_B st (m % 40) = true from nz_t h3] at this
    rw [e]
    simp at this
    omega
theorem jn_so {st ce : Nat → Int32} (h : st_O st) : st_O (jn_st st ce) := by
  unfold jn_st; split
  · exact h
  · exact so_up h (Or.inl rfl)
theorem rd_wz {ce : Nat → Int32} (h : wz_O ce) (a b : Nat) : wz_O (rd_A ce (en_C (nI 2) (nI b)) (en_C (nI 2) (nI a)) 40) := fun j hj hk => by
  unfold rd_A at hk ⊢
  by_cases q : j < 40 * 26 ∧ ce j = en_C (nI 2) (nI b)
  · rw [if_pos q, en_KC (k := 2) (by decide)] at hk; exact absurd hk (by decide)
  · rw [if_neg q] at hk ⊢; exact h j hj hk
theorem cv_C {n : Nat} (h : n < 40) : en_V (en_C (nI 2) (nI n)) = nI (cv_N (en_C (nI 2) (nI n))) ∧ cv_N (en_C (nI 2) (nI n)) < 40 := by
  unfold cv_N
  rw [en_Vp (by decide) (by omega), nI_clamp (by omega)]
  exact ⟨rfl, h⟩
theorem rd_wv {ce : Nat → Int32} (h : wv_O ce) {a : Nat} (ha : a < 40) (b : Nat) : wv_O (rd_A ce (en_C (nI 2) (nI b)) (en_C (nI 2) (nI a)) 40) := fun j hj hk => by
  unfold rd_A at hk ⊢
  by_cases q : j < 40 * 26 ∧ ce j = en_C (nI 2) (nI b)
  · rw [if_pos q]; exact cv_C ha
  · rw [if_neg q] at hk ⊢; exact h j hj hk
theorem jn_wz {st ce : Nat → Int32} (h : wz_O ce) : wz_O (jn_ce st ce) := by
  unfold jn_ce; split
  · exact h
  · exact rd_wz (wz_cl h _ _) _ _
theorem jn_wv {st ce : Nat → Int32} (h : wv_O ce) : wv_O (jn_ce st ce) := by
  unfold jn_ce; split
  · exact h
  · rename_i m q
    exact rd_wv (wv_cl h _ _) (by have := (jn_p_st q).1; omega) _
theorem js_1 (st ce : Nat → Int32) (i : Nat) : (js_F st ce (i + 1)).1 = jn_st (js_F st ce i).1 (js_F st ce i).2 := by rw [js_F]
theorem js_2 (st ce : Nat → Int32) (i : Nat) : (js_F st ce (i + 1)).2 = jn_ce (js_F st ce i).1 (js_F st ce i).2 := by rw [js_F]
theorem js_so {st ce : Nat → Int32} (h : st_O st) : ∀ i, st_O (js_F st ce i).1
  | 0 => h
  | i + 1 => by rw [js_1]; exact jn_so (js_so h i)
theorem js_wz {st ce : Nat → Int32} (h : wz_O ce) : ∀ i, wz_O (js_F st ce i).2
  | 0 => h
  | i + 1 => by rw [js_2]; exact jn_wz (js_wz h i)
theorem js_wv {st ce : Nat → Int32} (h : wv_O ce) : ∀ i, wv_O (js_F st ce i).2
  | 0 => h
  | i + 1 => by rw [js_2]; exact jn_wv (js_wv h i)
theorem jc_z {st ce : Nat → Int32} {f i : Nat} (h : jn_S (js_F st ce i).1 (js_F st ce i).2 = none) : jc_F st ce f i = i := by
  cases f with
  | zero => rfl
  | succ f => exact jc_n h
set_option maxHeartbeats 4000000 in
set_option maxRecDepth 100000 in
theorem ct_Mo_areAlike (l : Launch) (G : va_G) (cA : Nat → ClassId) (mo : Nat) (th : Int32) (ms : Nat) (mk : Nat) (mv : Nat) (mm : Nat) (ml : Nat) (cnt : Nat) (mt : Nat) (mp : Int32) (mn : Int32) (mu : Nat) (ma : Nat) (at_ : Nat) (bd : Int32) (le : Int32) (ob : Int32) (m1 : Nat) (m2 : Nat) (m3 : Nat) (m4 : Nat) (rn : Nat) (pw : Nat) (mc : Nat) (sa : Nat → Int32) (kd : Nat → Int32) (vl : Nat → Int32) (st : Nat → Int32) (ce : Nat → Int32) (hR : sn_R sa kd vl st ce) (hso : st_O st) (a : Nat) (b : Nat) (ha : a < 40) (hb9 : b < 40) : Met l xy_Mo_areAlike (.code xy_Mo_areAlike xb_Mo_areAlike 8 (some .boolean) :: tw_W) ({ frames := 0, cells := 0, slots := 0, locals := 0 }) (pc_r G cA [(mo, .inr (8, [.int th, .ref ms, .ref mk, .ref mv, .int (nI mm), .int (nI ml), .int (nI cnt), .ref mt, .int mp, .int mn, .int (nI mu), .ref ma, .int (nI at_), .int bd, .int le, .int ob, .ref m1, .ref m2, .ref m3, .ref m4, .int (nI rn), .int (nI pw), .ref mc])), (ms, .inl (cA 0, 720, .inl sa)), (mk, .inl (cA 0, 18720, .inl kd)), (mv, .inl (cA 0, 18720, .inl vl))] [.ref mo, .int (nI a), .int (nI b)]) (vp_Si (fun r : Int32 => r = ra_R st ce a b)) 0 0 (fun _ => False) := by
  refine Met.ofW (cc := xb_Mo_areAlike) (maxL := 8) (ret := (some .boolean)) (by decide) rfl ?_
  intro p e s m args below meth c s₁ B hml hv
  obtain ⟨rfl, hK, hP⟩ := hv
  have hx := B.exec
  have hb := B.bytes
  have hr := B.returns
  have hts0 := atoms_spec (ws := .code xy_Mo_areAlike xb_Mo_areAlike 8 (some .boolean) :: tw_W) B.pre
  have hts : ∀ w9 ∈ tw_W, w9.before [.ref mo, .int (nI a), .int (nI b)].toArray s = true := fun w9 h9 => hts0 w9 (List.mem_cons_of_mem _ h9)
  have hown : s.vm.findClass xc_Mo = some m.cls := findClass_of_methodNamed B.named
  have hlocks := B.notSynchronized
  have hP : va_P G xk_cl [(mo, .inr (8, [.int th, .ref ms, .ref mk, .ref mv, .int (nI mm), .int (nI ml), .int (nI cnt), .ref mt, .int mp, .int mn, .int (nI mu), .ref ma, .int (nI at_), .int bd, .int le, .int ob, .ref m1, .ref m2, .ref m3, .ref m4, .int (nI rn), .int (nI pw), .ref mc])), (ms, .inl (cA 0, 720, .inl sa)), (mk, .inl (cA 0, 18720, .inl kd)), (mv, .inl (cA 0, 18720, .inl vl))] s.heap := hP
  have hl := lv_entry ([.ref mo, .int (nI a), .int (nI b)]) (n := 8) (Nat.le_of_ble_eq_true rfl)
  rw [lg_entry_eq]
  generalize (lg_sl ([.ref mo, .int (nI a), .int (nI b)]) ++ List.replicate (8 - (lg_sl ([.ref mo, .int (nI a), .int (nI b)])).length) Slot.unset).toArray = ls at hl ⊢
  have hl : lv_has ls 8 [(0, .ref mo), (1, .int (nI a)), (2, .int (nI b))] := hl
  refine lv_aload_n hx hb xd_Mo_areAlike_0 rfl (lv_at hl 0 rfl) ?_
  refine va_get (D := G) (ci := 8) (v := .ref ms) (C := xc_Mo) (T := xf_Mo) (N := 23) hx hb hts xw_Mo hown hK.1 hP 0 rfl rfl 1 (by decide) (hts _ xm_620) (fun _ h9 => h9) rfl xd_Mo_areAlike_1 ?_
  refine lv_iload_n hx hb xd_Mo_areAlike_4 rfl (lv_at hl 1 rfl) ?_
  refine wx_iald hx hb hK.1 hP 1 0 rfl rfl (k := a) (by omega) (by decide) xd_Mo_areAlike_5 ?_
  refine lx_top (z := st a) (hR.1 _ ha) ?_
  refine lv_iconst (v := nI 1) hx hb xd_Mo_areAlike_6 (by decide) ?_
  refine lv_icmp_ne (tgt := 20) hx hb xd_Mo_areAlike_7 (by decide) (fun c_7_0 => ?_) (fun c_7_0 => ?_)
  · have q_r : ra_R st ce a b = nI 0 := if_neg (fun z => c_7_0 z.1)
    refine lv_iconst (v := nI 0) hx hb xd_Mo_areAlike_20 (by decide) ?_
    exact W.zret (v := nI 0) (ty := .boolean) hx hb hr (by decide) (fun T9 ht _ => ⟨_, rfl, q_r.symm, ht⟩) (fun _ h => absurd h List.not_mem_nil) xd_Mo_areAlike_21
  · have q_a := c_7_0
    refine lv_aload_n hx hb xd_Mo_areAlike_10 rfl (lv_at hl 0 rfl) ?_
    refine va_get (D := G) (ci := 8) (v := .ref ms) (C := xc_Mo) (T := xf_Mo) (N := 23) hx hb hts xw_Mo hown hK.1 hP 0 rfl rfl 1 (by decide) (hts _ xm_620) (fun _ h9 => h9) rfl xd_Mo_areAlike_11 ?_
    refine lv_iload_n hx hb xd_Mo_areAlike_14 rfl (lv_at hl 2 rfl) ?_
    refine wx_iald hx hb hK.1 hP 1 0 rfl rfl (k := b) (by omega) (by decide) xd_Mo_areAlike_15 ?_
    refine lx_top (z := st b) (hR.1 _ hb9) ?_
    refine lv_iconst (v := nI 1) hx hb xd_Mo_areAlike_16 (by decide) ?_
    refine lv_icmp_eq (tgt := 22) hx hb xd_Mo_areAlike_17 (by decide) (fun c_17_1 => ?_) (fun c_17_1 => ?_)
    · have q_b := c_17_1
      refine lv_iconst (v := nI 1) hx hb xd_Mo_areAlike_22 (by decide) ?_
      refine lv_istore_n (lv' := [(3, .int (nI 1)), (0, .ref mo), (1, .int (nI a)), (2, .int (nI b))]) hx hb xd_Mo_areAlike_23 rfl hl (by decide) rfl (fun ls hl => ?_)
      refine lv_iconst (v := nI 0) hx hb xd_Mo_areAlike_24 (by decide) ?_
      refine lv_istore (lv' := [(4, .int (nI 0)), (3, .int (nI 1)), (0, .ref mo), (1, .int (nI a)), (2, .int (nI b))]) hx hb xd_Mo_areAlike_25 hl (by decide) rfl (fun ls hl => ?_)
      have lp : ∀ (k_lp : Nat) (i : Nat) (f : Nat), (i ≤ 26) → (f ≤ 1) → (f = 1 → ∀ k, k < i → al_K ce a b k) → (f = 0 → ¬ al_P ce a b) → 26 - i < k_lp → ∀ (ls : Array Slot), lv_has ls 8 [(0, .ref mo), (1, .int (nI a)), (2, .int (nI b)), (3, .int (nI f)), (4, .int (nI i))] → W p l e (headSpec (.code xy_Mo_areAlike xb_Mo_areAlike 8 (some .boolean) :: tw_W) ({ frames := 0, cells := 0, slots := 0, locals := 0 })).room s m ([.ref mo, .int (nI a), .int (nI b)] : List Value).toArray below meth c s.heap [] 0 0 (MQ below (vp_Si (fun r : Int32 => r = ra_R st ce a b)) ([.ref mo, .int (nI a), .int (nI b)] : List Value).toArray s 0 0 (fun _ => False)) (F0 m 27 ls []) := by
        intro k_lp
        induction k_lp with
        | zero =>
          intro i f hi_ hf_ g1 g0 hk_lp
          exact absurd hk_lp (Nat.not_lt_zero _)
        | succ k_lp ih_lp =>
          intro i f hi_ hf_ g1 g0 hk_lp ls hl
          refine lv_iload hx hb xd_Mo_areAlike_27 (lv_at hl 4 rfl) ?_
          refine lv_bipush (v := nI 26) hx hb xd_Mo_areAlike_29 (by decide) ?_
          refine lv_icmp_ge (tgt := 147) hx hb xd_Mo_areAlike_31 (by decide) (fun c_31_2 => ?_) (fun c_31_2 => ?_)
          · have e_i : i = 26 := Nat.le_antisymm hi_ (nI_gle (by decide) (by omega) c_31_2)
            refine lv_iload_n hx hb xd_Mo_areAlike_147 rfl (lv_at hl 3 rfl) ?_
            exact W.zret (v := nI f) (ty := .boolean) hx hb hr (by rcases (show f = 0 ∨ f = 1 by omega) with rfl | rfl <;> decide) (fun T9 ht _ => ⟨_, rfl, by rcases (show f = 0 ∨ f = 1 by omega) with rfl | rfl; exact (if_neg (fun z => g0 rfl z.2.2)).symm; exact (if_pos ⟨q_a, q_b, fun k hk => g1 rfl k (by omega)⟩).symm, ht⟩) (fun _ h => absurd h List.not_mem_nil) xd_Mo_areAlike_148
          · have e_i := nI_gnl (by decide) (by omega) c_31_2
            refine lv_iload_n hx hb xd_Mo_areAlike_34 rfl (lv_at hl 3 rfl) ?_
            refine lv_if_eq (tgt := 147) hx hb xd_Mo_areAlike_35 (by decide) (fun c_35_3 => ?_) (fun c_35_3 => ?_)
            · have q_f : f = 0 := nI_z (by omega) c_35_3
              refine lv_iload_n hx hb xd_Mo_areAlike_147 rfl (lv_at hl 3 rfl) ?_
              exact W.zret (v := nI f) (ty := .boolean) hx hb hr (by rw [q_f]; decide) (fun T9 ht _ => ⟨_, rfl, by rw [q_f]; exact (if_neg (fun z => g0 q_f z.2.2)).symm, ht⟩) (fun _ h => absurd h List.not_mem_nil) xd_Mo_areAlike_148
            · have q_f : f = 1 := by have : ¬ f = 0 := fun z => c_35_3 (by rw [z]; rfl); omega
              refine lv_bipush (v := nI 26) hx hb xd_Mo_areAlike_38 (by decide) ?_
              refine lv_iload_n hx hb xd_Mo_areAlike_40 rfl (lv_at hl 1 rfl) ?_
              refine lx_imul (z := nI (26 * a)) hx hb xd_Mo_areAlike_41 (pk_mul _ _) ?_
              refine lv_iload hx hb xd_Mo_areAlike_42 (lv_at hl 4 rfl) ?_
              refine lx_iadd (z := nI (26 * a + i)) hx hb xd_Mo_areAlike_44 (nI_add _ _) ?_
              refine lv_istore (lv' := [(5, .int (nI (26 * a + i))), (0, .ref mo), (1, .int (nI a)), (2, .int (nI b)), (3, .int (nI f)), (4, .int (nI i))]) hx hb xd_Mo_areAlike_45 hl (by decide) rfl (fun ls hl => ?_)
              refine lv_bipush (v := nI 26) hx hb xd_Mo_areAlike_47 (by decide) ?_
              refine lv_iload_n hx hb xd_Mo_areAlike_49 rfl (lv_at hl 3 rfl) ?_
              refine lx_imul (z := nI (26 * b)) hx hb xd_Mo_areAlike_50 (pk_mul _ _) ?_
              refine lv_iload hx hb xd_Mo_areAlike_51 (lv_at hl 5 rfl) ?_
              refine lx_iadd (z := nI (26 * b + i)) hx hb xd_Mo_areAlike_53 (nI_add _ _) ?_
              refine lv_istore (lv' := [(6, .int (nI (26 * b + i))), (5, .int (nI (26 * a + i))), (0, .ref mo), (1, .int (nI a)), (2, .int (nI b)), (3, .int (nI f)), (4, .int (nI i))]) hx hb xd_Mo_areAlike_54 hl (by decide) rfl (fun ls hl => ?_)
              refine lv_aload_n hx hb xd_Mo_areAlike_56 rfl (lv_at hl 2 rfl) ?_
              refine va_get (D := G) (ci := 8) (v := .ref mk) (C := xc_Mo) (T := xf_Mo) (N := 23) hx hb hts xw_Mo hown hK.1 hP 0 rfl rfl 2 (by decide) (hts _ xm_621) (fun _ h9 => h9) rfl xd_Mo_areAlike_57 ?_
              refine lv_iload hx hb xd_Mo_areAlike_60 (lv_at hl 1 rfl) ?_
              refine wx_iald hx hb hK.1 hP 2 0 rfl rfl (k := 26 * a + i) (by omega) (by decide) xd_Mo_areAlike_62 ?_
              refine lx_top (z := en_K (ce (a * 26 + i))) (by rw [show 26 * a + i = a * 26 + i by omega]; exact (hR.2 _ (by omega)).1) ?_
              refine lv_iconst (v := nI 2) hx hb xd_Mo_areAlike_63 (by decide) ?_
              refine lv_icmp_ne (tgt := 93) hx hb xd_Mo_areAlike_64 (by decide) (fun c_64_4 => ?_) (fun c_64_4 => ?_)
              · have q_w : ¬ (en_K (ce (a * 26 + i)) = nI 2 ∧ en_V (ce (a * 26 + i)) = nI a ∧ en_V (ce (b * 26 + i)) = nI b) := fun z => c_64_4 z.1
                refine lv_iconst (v := nI 0) hx hb xd_Mo_areAlike_93 (by decide) ?_
                refine lv_istore (lv' := [(7, .int (nI 0)), (6, .int (nI (26 * b + i))), (5, .int (nI (26 * a + i))), (0, .ref mo), (1, .int (nI a)), (2, .int (nI b)), (3, .int (nI f)), (4, .int (nI i))]) hx hb xd_Mo_areAlike_94 hl (by decide) rfl (fun ls hl => ?_)
                refine lv_aload_n hx hb xd_Mo_areAlike_96 rfl (lv_at hl 3 rfl) ?_
                refine va_get (D := G) (ci := 8) (v := .ref mk) (C := xc_Mo) (T := xf_Mo) (N := 23) hx hb hts xw_Mo hown hK.1 hP 0 rfl rfl 2 (by decide) (hts _ xm_621) (fun _ h9 => h9) rfl xd_Mo_areAlike_97 ?_
                refine lv_iload hx hb xd_Mo_areAlike_100 (lv_at hl 2 rfl) ?_
                refine wx_iald hx hb hK.1 hP 2 0 rfl rfl (k := 26 * a + i) (by omega) (by decide) xd_Mo_areAlike_102 ?_
                refine lx_top (z := en_K (ce (a * 26 + i))) (by rw [show 26 * a + i = a * 26 + i by omega]; exact (hR.2 _ (by omega)).1) ?_
                refine lv_aload_n hx hb xd_Mo_areAlike_103 rfl (lv_at hl 3 rfl) ?_
                refine va_get (D := G) (ci := 8) (v := .ref mk) (C := xc_Mo) (T := xf_Mo) (N := 23) hx hb hts xw_Mo hown hK.1 hP 0 rfl rfl 2 (by decide) (hts _ xm_621) (fun _ h9 => h9) rfl xd_Mo_areAlike_104 ?_
                refine lv_iload hx hb xd_Mo_areAlike_107 (lv_at hl 1 rfl) ?_
                refine wx_iald hx hb hK.1 hP 2 0 rfl rfl (k := 26 * b + i) (by omega) (by decide) xd_Mo_areAlike_109 ?_
                refine lx_top (z := en_K (ce (b * 26 + i))) (by rw [show 26 * b + i = b * 26 + i by omega]; exact (hR.2 _ (by omega)).1) ?_
                refine lv_icmp_ne (tgt := 139) hx hb xd_Mo_areAlike_110 (by decide) (fun c_110_5 => ?_) (fun c_110_5 => ?_)
                · have q_l : ¬ al_K ce a b i := al_1 c_110_5
                  refine lv_iconst (v := nI 0) hx hb xd_Mo_areAlike_139 (by decide) ?_
                  refine lv_istore_n (lv' := [(3, .int (nI 0)), (7, .int (nI 0)), (6, .int (nI (26 * b + i))), (5, .int (nI (26 * a + i))), (0, .ref mo), (1, .int (nI a)), (2, .int (nI b)), (4, .int (nI i))]) hx hb xd_Mo_areAlike_140 rfl hl (by decide) rfl (fun ls hl => ?_)
                  refine lv_iinc (v := nI (i + 1)) (lv' := [(4, .int (nI (i + 1))), (3, .int (nI 0)), (7, .int (nI 0)), (6, .int (nI (26 * b + i))), (5, .int (nI (26 * a + i))), (0, .ref mo), (1, .int (nI a)), (2, .int (nI b))]) hx hb xd_Mo_areAlike_141 hl (k := 7) rfl (nI_inc _) (by decide) rfl (fun ls hl => ?_)
                  refine lv_goto (tgt := 27) hx hb xd_Mo_areAlike_144 (by decide) ?_
                  exact ih_lp (i + 1) 0 (by omega) (by decide) (fun z => absurd z (by decide)) (fun _ z => q_l (z i (by omega))) (by omega) ls (lv_sub hl [5, 6, 7, 1, 0] rfl)
                · have q_e := c_110_5
                  refine lv_aload_n hx hb xd_Mo_areAlike_113 rfl (lv_at hl 3 rfl) ?_
                  refine va_get (D := G) (ci := 8) (v := .ref mv) (C := xc_Mo) (T := xf_Mo) (N := 23) hx hb hts xw_Mo hown hK.1 hP 0 rfl rfl 3 (by decide) (hts _ xm_622) (fun _ h9 => h9) rfl xd_Mo_areAlike_114 ?_
                  refine lv_iload hx hb xd_Mo_areAlike_117 (lv_at hl 2 rfl) ?_
                  refine wx_iald hx hb hK.1 hP 3 0 rfl rfl (k := 26 * a + i) (by omega) (by decide) xd_Mo_areAlike_119 ?_
                  refine lx_top (z := en_V (ce (a * 26 + i))) (by rw [show 26 * a + i = a * 26 + i by omega]; exact (hR.2 _ (by omega)).2) ?_
                  refine lv_aload_n hx hb xd_Mo_areAlike_120 rfl (lv_at hl 3 rfl) ?_
                  refine va_get (D := G) (ci := 8) (v := .ref mv) (C := xc_Mo) (T := xf_Mo) (N := 23) hx hb hts xw_Mo hown hK.1 hP 0 rfl rfl 3 (by decide) (hts _ xm_622) (fun _ h9 => h9) rfl xd_Mo_areAlike_121 ?_
                  refine lv_iload hx hb xd_Mo_areAlike_124 (lv_at hl 1 rfl) ?_
                  refine wx_iald hx hb hK.1 hP 3 0 rfl rfl (k := 26 * b + i) (by omega) (by decide) xd_Mo_areAlike_126 ?_
                  refine lx_top (z := en_V (ce (b * 26 + i))) (by rw [show 26 * b + i = b * 26 + i by omega]; exact (hR.2 _ (by omega)).2) ?_
                  refine lv_icmp_eq (tgt := 135) hx hb xd_Mo_areAlike_127 (by decide) (fun c_127_6 => ?_) (fun c_127_6 => ?_)
                  · have q_l : al_K ce a b i := al_y q_e c_127_6
                    refine lv_iconst (v := nI 1) hx hb xd_Mo_areAlike_135 (by decide) ?_
                    refine lv_goto (tgt := 140) hx hb xd_Mo_areAlike_136 (by decide) ?_
                    refine lv_istore_n (lv' := [(3, .int (nI 1)), (7, .int (nI 0)), (6, .int (nI (26 * b + i))), (5, .int (nI (26 * a + i))), (0, .ref mo), (1, .int (nI a)), (2, .int (nI b)), (4, .int (nI i))]) hx hb xd_Mo_areAlike_140 rfl hl (by decide) rfl (fun ls hl => ?_)
                    refine lv_iinc (v := nI (i + 1)) (lv' := [(4, .int (nI (i + 1))), (3, .int (nI 1)), (7, .int (nI 0)), (6, .int (nI (26 * b + i))), (5, .int (nI (26 * a + i))), (0, .ref mo), (1, .int (nI a)), (2, .int (nI b))]) hx hb xd_Mo_areAlike_141 hl (k := 7) rfl (nI_inc _) (by decide) rfl (fun ls hl => ?_)
                    refine lv_goto (tgt := 27) hx hb xd_Mo_areAlike_144 (by decide) ?_
                    exact ih_lp (i + 1) 1 (by omega) (by decide) (fun _ => al_s (g1 q_f) q_l) (fun z => absurd z (by decide)) (by omega) ls (lv_sub hl [5, 6, 7, 1, 0] rfl)
                  · have q_v := c_127_6
                    refine lv_iload hx hb xd_Mo_areAlike_130 (lv_at hl 0 rfl) ?_
                    have q_l : ¬ al_K ce a b i := al_2 ha hb9 q_v q_w
                    refine lv_if_eq (tgt := 139) hx hb xd_Mo_areAlike_132 (by decide) (fun c_132_7 => ?_) (fun c_132_7 => absurd (by decide) c_132_7)
                    refine lv_iconst (v := nI 0) hx hb xd_Mo_areAlike_139 (by decide) ?_
                    refine lv_istore_n (lv' := [(3, .int (nI 0)), (7, .int (nI 0)), (6, .int (nI (26 * b + i))), (5, .int (nI (26 * a + i))), (0, .ref mo), (1, .int (nI a)), (2, .int (nI b)), (4, .int (nI i))]) hx hb xd_Mo_areAlike_140 rfl hl (by decide) rfl (fun ls hl => ?_)
                    refine lv_iinc (v := nI (i + 1)) (lv' := [(4, .int (nI (i + 1))), (3, .int (nI 0)), (7, .int (nI 0)), (6, .int (nI (26 * b + i))), (5, .int (nI (26 * a + i))), (0, .ref mo), (1, .int (nI a)), (2, .int (nI b))]) hx hb xd_Mo_areAlike_141 hl (k := 7) rfl (nI_inc _) (by decide) rfl (fun ls hl => ?_)
                    refine lv_goto (tgt := 27) hx hb xd_Mo_areAlike_144 (by decide) ?_
                    exact ih_lp (i + 1) 0 (by omega) (by decide) (fun z => absurd z (by decide)) (fun _ z => q_l (z i (by omega))) (by omega) ls (lv_sub hl [5, 6, 7, 1, 0] rfl)
              · have q_w1 := c_64_4
                refine lv_aload_n hx hb xd_Mo_areAlike_67 rfl (lv_at hl 2 rfl) ?_
                refine va_get (D := G) (ci := 8) (v := .ref mv) (C := xc_Mo) (T := xf_Mo) (N := 23) hx hb hts xw_Mo hown hK.1 hP 0 rfl rfl 3 (by decide) (hts _ xm_622) (fun _ h9 => h9) rfl xd_Mo_areAlike_68 ?_
                refine lv_iload hx hb xd_Mo_areAlike_71 (lv_at hl 1 rfl) ?_
                refine wx_iald hx hb hK.1 hP 3 0 rfl rfl (k := 26 * a + i) (by omega) (by decide) xd_Mo_areAlike_73 ?_
                refine lx_top (z := en_V (ce (a * 26 + i))) (by rw [show 26 * a + i = a * 26 + i by omega]; exact (hR.2 _ (by omega)).2) ?_
                refine lv_iload_n hx hb xd_Mo_areAlike_74 rfl (lv_at hl 3 rfl) ?_
                refine lv_icmp_ne (tgt := 93) hx hb xd_Mo_areAlike_75 (by decide) (fun c_75_8 => ?_) (fun c_75_8 => ?_)
                · have q_w : ¬ (en_K (ce (a * 26 + i)) = nI 2 ∧ en_V (ce (a * 26 + i)) = nI a ∧ en_V (ce (b * 26 + i)) = nI b) := fun z => c_75_8 z.2.1
                  refine lv_iconst (v := nI 0) hx hb xd_Mo_areAlike_93 (by decide) ?_
                  refine lv_istore (lv' := [(7, .int (nI 0)), (6, .int (nI (26 * b + i))), (5, .int (nI (26 * a + i))), (0, .ref mo), (1, .int (nI a)), (2, .int (nI b)), (3, .int (nI f)), (4, .int (nI i))]) hx hb xd_Mo_areAlike_94 hl (by decide) rfl (fun ls hl => ?_)
                  refine lv_aload_n hx hb xd_Mo_areAlike_96 rfl (lv_at hl 3 rfl) ?_
                  refine va_get (D := G) (ci := 8) (v := .ref mk) (C := xc_Mo) (T := xf_Mo) (N := 23) hx hb hts xw_Mo hown hK.1 hP 0 rfl rfl 2 (by decide) (hts _ xm_621) (fun _ h9 => h9) rfl xd_Mo_areAlike_97 ?_
                  refine lv_iload hx hb xd_Mo_areAlike_100 (lv_at hl 2 rfl) ?_
                  refine wx_iald hx hb hK.1 hP 2 0 rfl rfl (k := 26 * a + i) (by omega) (by decide) xd_Mo_areAlike_102 ?_
                  refine lx_top (z := en_K (ce (a * 26 + i))) (by rw [show 26 * a + i = a * 26 + i by omega]; exact (hR.2 _ (by omega)).1) ?_
                  refine lv_aload_n hx hb xd_Mo_areAlike_103 rfl (lv_at hl 3 rfl) ?_
                  refine va_get (D := G) (ci := 8) (v := .ref mk) (C := xc_Mo) (T := xf_Mo) (N := 23) hx hb hts xw_Mo hown hK.1 hP 0 rfl rfl 2 (by decide) (hts _ xm_621) (fun _ h9 => h9) rfl xd_Mo_areAlike_104 ?_
                  refine lv_iload hx hb xd_Mo_areAlike_107 (lv_at hl 1 rfl) ?_
                  refine wx_iald hx hb hK.1 hP 2 0 rfl rfl (k := 26 * b + i) (by omega) (by decide) xd_Mo_areAlike_109 ?_
                  refine lx_top (z := en_K (ce (b * 26 + i))) (by rw [show 26 * b + i = b * 26 + i by omega]; exact (hR.2 _ (by omega)).1) ?_
                  refine lv_icmp_ne (tgt := 139) hx hb xd_Mo_areAlike_110 (by decide) (fun c_110_9 => ?_) (fun c_110_9 => ?_)
                  · have q_l : ¬ al_K ce a b i := al_1 c_110_9
                    refine lv_iconst (v := nI 0) hx hb xd_Mo_areAlike_139 (by decide) ?_
                    refine lv_istore_n (lv' := [(3, .int (nI 0)), (7, .int (nI 0)), (6, .int (nI (26 * b + i))), (5, .int (nI (26 * a + i))), (0, .ref mo), (1, .int (nI a)), (2, .int (nI b)), (4, .int (nI i))]) hx hb xd_Mo_areAlike_140 rfl hl (by decide) rfl (fun ls hl => ?_)
                    refine lv_iinc (v := nI (i + 1)) (lv' := [(4, .int (nI (i + 1))), (3, .int (nI 0)), (7, .int (nI 0)), (6, .int (nI (26 * b + i))), (5, .int (nI (26 * a + i))), (0, .ref mo), (1, .int (nI a)), (2, .int (nI b))]) hx hb xd_Mo_areAlike_141 hl (k := 7) rfl (nI_inc _) (by decide) rfl (fun ls hl => ?_)
                    refine lv_goto (tgt := 27) hx hb xd_Mo_areAlike_144 (by decide) ?_
                    exact ih_lp (i + 1) 0 (by omega) (by decide) (fun z => absurd z (by decide)) (fun _ z => q_l (z i (by omega))) (by omega) ls (lv_sub hl [5, 6, 7, 1, 0] rfl)
                  · have q_e := c_110_9
                    refine lv_aload_n hx hb xd_Mo_areAlike_113 rfl (lv_at hl 3 rfl) ?_
                    refine va_get (D := G) (ci := 8) (v := .ref mv) (C := xc_Mo) (T := xf_Mo) (N := 23) hx hb hts xw_Mo hown hK.1 hP 0 rfl rfl 3 (by decide) (hts _ xm_622) (fun _ h9 => h9) rfl xd_Mo_areAlike_114 ?_
                    refine lv_iload hx hb xd_Mo_areAlike_117 (lv_at hl 2 rfl) ?_
                    refine wx_iald hx hb hK.1 hP 3 0 rfl rfl (k := 26 * a + i) (by omega) (by decide) xd_Mo_areAlike_119 ?_
                    refine lx_top (z := en_V (ce (a * 26 + i))) (by rw [show 26 * a + i = a * 26 + i by omega]; exact (hR.2 _ (by omega)).2) ?_
                    refine lv_aload_n hx hb xd_Mo_areAlike_120 rfl (lv_at hl 3 rfl) ?_
                    refine va_get (D := G) (ci := 8) (v := .ref mv) (C := xc_Mo) (T := xf_Mo) (N := 23) hx hb hts xw_Mo hown hK.1 hP 0 rfl rfl 3 (by decide) (hts _ xm_622) (fun _ h9 => h9) rfl xd_Mo_areAlike_121 ?_
                    refine lv_iload hx hb xd_Mo_areAlike_124 (lv_at hl 1 rfl) ?_
                    refine wx_iald hx hb hK.1 hP 3 0 rfl rfl (k := 26 * b + i) (by omega) (by decide) xd_Mo_areAlike_126 ?_
                    refine lx_top (z := en_V (ce (b * 26 + i))) (by rw [show 26 * b + i = b * 26 + i by omega]; exact (hR.2 _ (by omega)).2) ?_
                    refine lv_icmp_eq (tgt := 135) hx hb xd_Mo_areAlike_127 (by decide) (fun c_127_10 => ?_) (fun c_127_10 => ?_)
                    · have q_l : al_K ce a b i := al_y q_e c_127_10
                      refine lv_iconst (v := nI 1) hx hb xd_Mo_areAlike_135 (by decide) ?_
                      refine lv_goto (tgt := 140) hx hb xd_Mo_areAlike_136 (by decide) ?_
                      refine lv_istore_n (lv' := [(3, .int (nI 1)), (7, .int (nI 0)), (6, .int (nI (26 * b + i))), (5, .int (nI (26 * a + i))), (0, .ref mo), (1, .int (nI a)), (2, .int (nI b)), (4, .int (nI i))]) hx hb xd_Mo_areAlike_140 rfl hl (by decide) rfl (fun ls hl => ?_)
                      refine lv_iinc (v := nI (i + 1)) (lv' := [(4, .int (nI (i + 1))), (3, .int (nI 1)), (7, .int (nI 0)), (6, .int (nI (26 * b + i))), (5, .int (nI (26 * a + i))), (0, .ref mo), (1, .int (nI a)), (2, .int (nI b))]) hx hb xd_Mo_areAlike_141 hl (k := 7) rfl (nI_inc _) (by decide) rfl (fun ls hl => ?_)
                      refine lv_goto (tgt := 27) hx hb xd_Mo_areAlike_144 (by decide) ?_
                      exact ih_lp (i + 1) 1 (by omega) (by decide) (fun _ => al_s (g1 q_f) q_l) (fun z => absurd z (by decide)) (by omega) ls (lv_sub hl [5, 6, 7, 1, 0] rfl)
                    · have q_v := c_127_10
                      refine lv_iload hx hb xd_Mo_areAlike_130 (lv_at hl 0 rfl) ?_
                      have q_l : ¬ al_K ce a b i := al_2 ha hb9 q_v q_w
                      refine lv_if_eq (tgt := 139) hx hb xd_Mo_areAlike_132 (by decide) (fun c_132_11 => ?_) (fun c_132_11 => absurd (by decide) c_132_11)
                      refine lv_iconst (v := nI 0) hx hb xd_Mo_areAlike_139 (by decide) ?_
                      refine lv_istore_n (lv' := [(3, .int (nI 0)), (7, .int (nI 0)), (6, .int (nI (26 * b + i))), (5, .int (nI (26 * a + i))), (0, .ref mo), (1, .int (nI a)), (2, .int (nI b)), (4, .int (nI i))]) hx hb xd_Mo_areAlike_140 rfl hl (by decide) rfl (fun ls hl => ?_)
                      refine lv_iinc (v := nI (i + 1)) (lv' := [(4, .int (nI (i + 1))), (3, .int (nI 0)), (7, .int (nI 0)), (6, .int (nI (26 * b + i))), (5, .int (nI (26 * a + i))), (0, .ref mo), (1, .int (nI a)), (2, .int (nI b))]) hx hb xd_Mo_areAlike_141 hl (k := 7) rfl (nI_inc _) (by decide) rfl (fun ls hl => ?_)
                      refine lv_goto (tgt := 27) hx hb xd_Mo_areAlike_144 (by decide) ?_
                      exact ih_lp (i + 1) 0 (by omega) (by decide) (fun z => absurd z (by decide)) (fun _ z => q_l (z i (by omega))) (by omega) ls (lv_sub hl [5, 6, 7, 1, 0] rfl)
                · have q_w2 := c_75_8
                  refine lv_aload_n hx hb xd_Mo_areAlike_78 rfl (lv_at hl 2 rfl) ?_
                  refine va_get (D := G) (ci := 8) (v := .ref mv) (C := xc_Mo) (T := xf_Mo) (N := 23) hx hb hts xw_Mo hown hK.1 hP 0 rfl rfl 3 (by decide) (hts _ xm_622) (fun _ h9 => h9) rfl xd_Mo_areAlike_79 ?_
                  refine lv_iload hx hb xd_Mo_areAlike_82 (lv_at hl 0 rfl) ?_
                  refine wx_iald hx hb hK.1 hP 3 0 rfl rfl (k := 26 * b + i) (by omega) (by decide) xd_Mo_areAlike_84 ?_
                  refine lx_top (z := en_V (ce (b * 26 + i))) (by rw [show 26 * b + i = b * 26 + i by omega]; exact (hR.2 _ (by omega)).2) ?_
                  refine lv_iload_n hx hb xd_Mo_areAlike_85 rfl (lv_at hl 4 rfl) ?_
                  refine lv_icmp_ne (tgt := 93) hx hb xd_Mo_areAlike_86 (by decide) (fun c_86_12 => ?_) (fun c_86_12 => ?_)
                  · have q_w : ¬ (en_K (ce (a * 26 + i)) = nI 2 ∧ en_V (ce (a * 26 + i)) = nI a ∧ en_V (ce (b * 26 + i)) = nI b) := fun z => c_86_12 z.2.2
                    refine lv_iconst (v := nI 0) hx hb xd_Mo_areAlike_93 (by decide) ?_
                    refine lv_istore (lv' := [(7, .int (nI 0)), (6, .int (nI (26 * b + i))), (5, .int (nI (26 * a + i))), (0, .ref mo), (1, .int (nI a)), (2, .int (nI b)), (3, .int (nI f)), (4, .int (nI i))]) hx hb xd_Mo_areAlike_94 hl (by decide) rfl (fun ls hl => ?_)
                    refine lv_aload_n hx hb xd_Mo_areAlike_96 rfl (lv_at hl 3 rfl) ?_
                    refine va_get (D := G) (ci := 8) (v := .ref mk) (C := xc_Mo) (T := xf_Mo) (N := 23) hx hb hts xw_Mo hown hK.1 hP 0 rfl rfl 2 (by decide) (hts _ xm_621) (fun _ h9 => h9) rfl xd_Mo_areAlike_97 ?_
                    refine lv_iload hx hb xd_Mo_areAlike_100 (lv_at hl 2 rfl) ?_
                    refine wx_iald hx hb hK.1 hP 2 0 rfl rfl (k := 26 * a + i) (by omega) (by decide) xd_Mo_areAlike_102 ?_
                    refine lx_top (z := en_K (ce (a * 26 + i))) (by rw [show 26 * a + i = a * 26 + i by omega]; exact (hR.2 _ (by omega)).1) ?_
                    refine lv_aload_n hx hb xd_Mo_areAlike_103 rfl (lv_at hl 3 rfl) ?_
                    refine va_get (D := G) (ci := 8) (v := .ref mk) (C := xc_Mo) (T := xf_Mo) (N := 23) hx hb hts xw_Mo hown hK.1 hP 0 rfl rfl 2 (by decide) (hts _ xm_621) (fun _ h9 => h9) rfl xd_Mo_areAlike_104 ?_
                    refine lv_iload hx hb xd_Mo_areAlike_107 (lv_at hl 1 rfl) ?_
                    refine wx_iald hx hb hK.1 hP 2 0 rfl rfl (k := 26 * b + i) (by omega) (by decide) xd_Mo_areAlike_109 ?_
                    refine lx_top (z := en_K (ce (b * 26 + i))) (by rw [show 26 * b + i = b * 26 + i by omega]; exact (hR.2 _ (by omega)).1) ?_
                    refine lv_icmp_ne (tgt := 139) hx hb xd_Mo_areAlike_110 (by decide) (fun c_110_13 => ?_) (fun c_110_13 => ?_)
                    · have q_l : ¬ al_K ce a b i := al_1 c_110_13
                      refine lv_iconst (v := nI 0) hx hb xd_Mo_areAlike_139 (by decide) ?_
                      refine lv_istore_n (lv' := [(3, .int (nI 0)), (7, .int (nI 0)), (6, .int (nI (26 * b + i))), (5, .int (nI (26 * a + i))), (0, .ref mo), (1, .int (nI a)), (2, .int (nI b)), (4, .int (nI i))]) hx hb xd_Mo_areAlike_140 rfl hl (by decide) rfl (fun ls hl => ?_)
                      refine lv_iinc (v := nI (i + 1)) (lv' := [(4, .int (nI (i + 1))), (3, .int (nI 0)), (7, .int (nI 0)), (6, .int (nI (26 * b + i))), (5, .int (nI (26 * a + i))), (0, .ref mo), (1, .int (nI a)), (2, .int (nI b))]) hx hb xd_Mo_areAlike_141 hl (k := 7) rfl (nI_inc _) (by decide) rfl (fun ls hl => ?_)
                      refine lv_goto (tgt := 27) hx hb xd_Mo_areAlike_144 (by decide) ?_
                      exact ih_lp (i + 1) 0 (by omega) (by decide) (fun z => absurd z (by decide)) (fun _ z => q_l (z i (by omega))) (by omega) ls (lv_sub hl [5, 6, 7, 1, 0] rfl)
                    · have q_e := c_110_13
                      refine lv_aload_n hx hb xd_Mo_areAlike_113 rfl (lv_at hl 3 rfl) ?_
                      refine va_get (D := G) (ci := 8) (v := .ref mv) (C := xc_Mo) (T := xf_Mo) (N := 23) hx hb hts xw_Mo hown hK.1 hP 0 rfl rfl 3 (by decide) (hts _ xm_622) (fun _ h9 => h9) rfl xd_Mo_areAlike_114 ?_
                      refine lv_iload hx hb xd_Mo_areAlike_117 (lv_at hl 2 rfl) ?_
                      refine wx_iald hx hb hK.1 hP 3 0 rfl rfl (k := 26 * a + i) (by omega) (by decide) xd_Mo_areAlike_119 ?_
                      refine lx_top (z := en_V (ce (a * 26 + i))) (by rw [show 26 * a + i = a * 26 + i by omega]; exact (hR.2 _ (by omega)).2) ?_
                      refine lv_aload_n hx hb xd_Mo_areAlike_120 rfl (lv_at hl 3 rfl) ?_
                      refine va_get (D := G) (ci := 8) (v := .ref mv) (C := xc_Mo) (T := xf_Mo) (N := 23) hx hb hts xw_Mo hown hK.1 hP 0 rfl rfl 3 (by decide) (hts _ xm_622) (fun _ h9 => h9) rfl xd_Mo_areAlike_121 ?_
                      refine lv_iload hx hb xd_Mo_areAlike_124 (lv_at hl 1 rfl) ?_
                      refine wx_iald hx hb hK.1 hP 3 0 rfl rfl (k := 26 * b + i) (by omega) (by decide) xd_Mo_areAlike_126 ?_
                      refine lx_top (z := en_V (ce (b * 26 + i))) (by rw [show 26 * b + i = b * 26 + i by omega]; exact (hR.2 _ (by omega)).2) ?_
                      refine lv_icmp_eq (tgt := 135) hx hb xd_Mo_areAlike_127 (by decide) (fun c_127_14 => ?_) (fun c_127_14 => ?_)
                      · have q_l : al_K ce a b i := al_y q_e c_127_14
                        refine lv_iconst (v := nI 1) hx hb xd_Mo_areAlike_135 (by decide) ?_
                        refine lv_goto (tgt := 140) hx hb xd_Mo_areAlike_136 (by decide) ?_
                        refine lv_istore_n (lv' := [(3, .int (nI 1)), (7, .int (nI 0)), (6, .int (nI (26 * b + i))), (5, .int (nI (26 * a + i))), (0, .ref mo), (1, .int (nI a)), (2, .int (nI b)), (4, .int (nI i))]) hx hb xd_Mo_areAlike_140 rfl hl (by decide) rfl (fun ls hl => ?_)
                        refine lv_iinc (v := nI (i + 1)) (lv' := [(4, .int (nI (i + 1))), (3, .int (nI 1)), (7, .int (nI 0)), (6, .int (nI (26 * b + i))), (5, .int (nI (26 * a + i))), (0, .ref mo), (1, .int (nI a)), (2, .int (nI b))]) hx hb xd_Mo_areAlike_141 hl (k := 7) rfl (nI_inc _) (by decide) rfl (fun ls hl => ?_)
                        refine lv_goto (tgt := 27) hx hb xd_Mo_areAlike_144 (by decide) ?_
                        exact ih_lp (i + 1) 1 (by omega) (by decide) (fun _ => al_s (g1 q_f) q_l) (fun z => absurd z (by decide)) (by omega) ls (lv_sub hl [5, 6, 7, 1, 0] rfl)
                      · have q_v := c_127_14
                        refine lv_iload hx hb xd_Mo_areAlike_130 (lv_at hl 0 rfl) ?_
                        have q_l : ¬ al_K ce a b i := al_2 ha hb9 q_v q_w
                        refine lv_if_eq (tgt := 139) hx hb xd_Mo_areAlike_132 (by decide) (fun c_132_15 => ?_) (fun c_132_15 => absurd (by decide) c_132_15)
                        refine lv_iconst (v := nI 0) hx hb xd_Mo_areAlike_139 (by decide) ?_
                        refine lv_istore_n (lv' := [(3, .int (nI 0)), (7, .int (nI 0)), (6, .int (nI (26 * b + i))), (5, .int (nI (26 * a + i))), (0, .ref mo), (1, .int (nI a)), (2, .int (nI b)), (4, .int (nI i))]) hx hb xd_Mo_areAlike_140 rfl hl (by decide) rfl (fun ls hl => ?_)
                        refine lv_iinc (v := nI (i + 1)) (lv' := [(4, .int (nI (i + 1))), (3, .int (nI 0)), (7, .int (nI 0)), (6, .int (nI (26 * b + i))), (5, .int (nI (26 * a + i))), (0, .ref mo), (1, .int (nI a)), (2, .int (nI b))]) hx hb xd_Mo_areAlike_141 hl (k := 7) rfl (nI_inc _) (by decide) rfl (fun ls hl => ?_)
                        refine lv_goto (tgt := 27) hx hb xd_Mo_areAlike_144 (by decide) ?_
                        exact ih_lp (i + 1) 0 (by omega) (by decide) (fun z => absurd z (by decide)) (fun _ z => q_l (z i (by omega))) (by omega) ls (lv_sub hl [5, 6, 7, 1, 0] rfl)
                  · have q_w : (en_K (ce (a * 26 + i)) = nI 2 ∧ en_V (ce (a * 26 + i)) = nI a ∧ en_V (ce (b * 26 + i)) = nI b) := ⟨q_w1, q_w2, c_86_12⟩
                    refine lv_iconst (v := nI 1) hx hb xd_Mo_areAlike_89 (by decide) ?_
                    refine lv_goto (tgt := 94) hx hb xd_Mo_areAlike_90 (by decide) ?_
                    refine lv_istore (lv' := [(7, .int (nI 1)), (6, .int (nI (26 * b + i))), (5, .int (nI (26 * a + i))), (0, .ref mo), (1, .int (nI a)), (2, .int (nI b)), (3, .int (nI f)), (4, .int (nI i))]) hx hb xd_Mo_areAlike_94 hl (by decide) rfl (fun ls hl => ?_)
                    refine lv_aload_n hx hb xd_Mo_areAlike_96 rfl (lv_at hl 3 rfl) ?_
                    refine va_get (D := G) (ci := 8) (v := .ref mk) (C := xc_Mo) (T := xf_Mo) (N := 23) hx hb hts xw_Mo hown hK.1 hP 0 rfl rfl 2 (by decide) (hts _ xm_621) (fun _ h9 => h9) rfl xd_Mo_areAlike_97 ?_
                    refine lv_iload hx hb xd_Mo_areAlike_100 (lv_at hl 2 rfl) ?_
                    refine wx_iald hx hb hK.1 hP 2 0 rfl rfl (k := 26 * a + i) (by omega) (by decide) xd_Mo_areAlike_102 ?_
                    refine lx_top (z := en_K (ce (a * 26 + i))) (by rw [show 26 * a + i = a * 26 + i by omega]; exact (hR.2 _ (by omega)).1) ?_
                    refine lv_aload_n hx hb xd_Mo_areAlike_103 rfl (lv_at hl 3 rfl) ?_
                    refine va_get (D := G) (ci := 8) (v := .ref mk) (C := xc_Mo) (T := xf_Mo) (N := 23) hx hb hts xw_Mo hown hK.1 hP 0 rfl rfl 2 (by decide) (hts _ xm_621) (fun _ h9 => h9) rfl xd_Mo_areAlike_104 ?_
                    refine lv_iload hx hb xd_Mo_areAlike_107 (lv_at hl 1 rfl) ?_
                    refine wx_iald hx hb hK.1 hP 2 0 rfl rfl (k := 26 * b + i) (by omega) (by decide) xd_Mo_areAlike_109 ?_
                    refine lx_top (z := en_K (ce (b * 26 + i))) (by rw [show 26 * b + i = b * 26 + i by omega]; exact (hR.2 _ (by omega)).1) ?_
                    refine lv_icmp_ne (tgt := 139) hx hb xd_Mo_areAlike_110 (by decide) (fun c_110_16 => ?_) (fun c_110_16 => ?_)
                    · have q_l : ¬ al_K ce a b i := al_1 c_110_16
                      refine lv_iconst (v := nI 0) hx hb xd_Mo_areAlike_139 (by decide) ?_
                      refine lv_istore_n (lv' := [(3, .int (nI 0)), (7, .int (nI 1)), (6, .int (nI (26 * b + i))), (5, .int (nI (26 * a + i))), (0, .ref mo), (1, .int (nI a)), (2, .int (nI b)), (4, .int (nI i))]) hx hb xd_Mo_areAlike_140 rfl hl (by decide) rfl (fun ls hl => ?_)
                      refine lv_iinc (v := nI (i + 1)) (lv' := [(4, .int (nI (i + 1))), (3, .int (nI 0)), (7, .int (nI 1)), (6, .int (nI (26 * b + i))), (5, .int (nI (26 * a + i))), (0, .ref mo), (1, .int (nI a)), (2, .int (nI b))]) hx hb xd_Mo_areAlike_141 hl (k := 7) rfl (nI_inc _) (by decide) rfl (fun ls hl => ?_)
                      refine lv_goto (tgt := 27) hx hb xd_Mo_areAlike_144 (by decide) ?_
                      exact ih_lp (i + 1) 0 (by omega) (by decide) (fun z => absurd z (by decide)) (fun _ z => q_l (z i (by omega))) (by omega) ls (lv_sub hl [5, 6, 7, 1, 0] rfl)
                    · have q_e := c_110_16
                      refine lv_aload_n hx hb xd_Mo_areAlike_113 rfl (lv_at hl 3 rfl) ?_
                      refine va_get (D := G) (ci := 8) (v := .ref mv) (C := xc_Mo) (T := xf_Mo) (N := 23) hx hb hts xw_Mo hown hK.1 hP 0 rfl rfl 3 (by decide) (hts _ xm_622) (fun _ h9 => h9) rfl xd_Mo_areAlike_114 ?_
                      refine lv_iload hx hb xd_Mo_areAlike_117 (lv_at hl 2 rfl) ?_
                      refine wx_iald hx hb hK.1 hP 3 0 rfl rfl (k := 26 * a + i) (by omega) (by decide) xd_Mo_areAlike_119 ?_
                      refine lx_top (z := en_V (ce (a * 26 + i))) (by rw [show 26 * a + i = a * 26 + i by omega]; exact (hR.2 _ (by omega)).2) ?_
                      refine lv_aload_n hx hb xd_Mo_areAlike_120 rfl (lv_at hl 3 rfl) ?_
                      refine va_get (D := G) (ci := 8) (v := .ref mv) (C := xc_Mo) (T := xf_Mo) (N := 23) hx hb hts xw_Mo hown hK.1 hP 0 rfl rfl 3 (by decide) (hts _ xm_622) (fun _ h9 => h9) rfl xd_Mo_areAlike_121 ?_
                      refine lv_iload hx hb xd_Mo_areAlike_124 (lv_at hl 1 rfl) ?_
                      refine wx_iald hx hb hK.1 hP 3 0 rfl rfl (k := 26 * b + i) (by omega) (by decide) xd_Mo_areAlike_126 ?_
                      refine lx_top (z := en_V (ce (b * 26 + i))) (by rw [show 26 * b + i = b * 26 + i by omega]; exact (hR.2 _ (by omega)).2) ?_
                      refine lv_icmp_eq (tgt := 135) hx hb xd_Mo_areAlike_127 (by decide) (fun c_127_17 => ?_) (fun c_127_17 => ?_)
                      · have q_l : al_K ce a b i := al_y q_e c_127_17
                        refine lv_iconst (v := nI 1) hx hb xd_Mo_areAlike_135 (by decide) ?_
                        refine lv_goto (tgt := 140) hx hb xd_Mo_areAlike_136 (by decide) ?_
                        refine lv_istore_n (lv' := [(3, .int (nI 1)), (7, .int (nI 1)), (6, .int (nI (26 * b + i))), (5, .int (nI (26 * a + i))), (0, .ref mo), (1, .int (nI a)), (2, .int (nI b)), (4, .int (nI i))]) hx hb xd_Mo_areAlike_140 rfl hl (by decide) rfl (fun ls hl => ?_)
                        refine lv_iinc (v := nI (i + 1)) (lv' := [(4, .int (nI (i + 1))), (3, .int (nI 1)), (7, .int (nI 1)), (6, .int (nI (26 * b + i))), (5, .int (nI (26 * a + i))), (0, .ref mo), (1, .int (nI a)), (2, .int (nI b))]) hx hb xd_Mo_areAlike_141 hl (k := 7) rfl (nI_inc _) (by decide) rfl (fun ls hl => ?_)
                        refine lv_goto (tgt := 27) hx hb xd_Mo_areAlike_144 (by decide) ?_
                        exact ih_lp (i + 1) 1 (by omega) (by decide) (fun _ => al_s (g1 q_f) q_l) (fun z => absurd z (by decide)) (by omega) ls (lv_sub hl [5, 6, 7, 1, 0] rfl)
                      · have q_v := c_127_17
                        refine lv_iload hx hb xd_Mo_areAlike_130 (lv_at hl 0 rfl) ?_
                        have q_l : al_K ce a b i := al_o ha hb9 q_w q_e
                        refine lv_if_eq (tgt := 139) hx hb xd_Mo_areAlike_132 (by decide) (fun c_132_18 => absurd c_132_18 (by decide)) (fun c_132_18 => ?_)
                        refine lv_iconst (v := nI 1) hx hb xd_Mo_areAlike_135 (by decide) ?_
                        refine lv_goto (tgt := 140) hx hb xd_Mo_areAlike_136 (by decide) ?_
                        refine lv_istore_n (lv' := [(3, .int (nI 1)), (7, .int (nI 1)), (6, .int (nI (26 * b + i))), (5, .int (nI (26 * a + i))), (0, .ref mo), (1, .int (nI a)), (2, .int (nI b)), (4, .int (nI i))]) hx hb xd_Mo_areAlike_140 rfl hl (by decide) rfl (fun ls hl => ?_)
                        refine lv_iinc (v := nI (i + 1)) (lv' := [(4, .int (nI (i + 1))), (3, .int (nI 1)), (7, .int (nI 1)), (6, .int (nI (26 * b + i))), (5, .int (nI (26 * a + i))), (0, .ref mo), (1, .int (nI a)), (2, .int (nI b))]) hx hb xd_Mo_areAlike_141 hl (k := 7) rfl (nI_inc _) (by decide) rfl (fun ls hl => ?_)
                        refine lv_goto (tgt := 27) hx hb xd_Mo_areAlike_144 (by decide) ?_
                        exact ih_lp (i + 1) 1 (by omega) (by decide) (fun _ => al_s (g1 q_f) q_l) (fun z => absurd z (by decide)) (by omega) ls (lv_sub hl [5, 6, 7, 1, 0] rfl)
      exact lp ((26 - 0) + 1) 0 1 (by omega) (by decide) (fun _ k hk => absurd hk (Nat.not_lt_zero _)) (fun z => absurd z (by decide)) (Nat.lt_succ_self _) ls (lv_sub hl [2, 3, 4, 1, 0] rfl)
    · have q_r : ra_R st ce a b = nI 0 := if_neg (fun z => c_17_1 z.2.1)
      refine lv_iconst (v := nI 0) hx hb xd_Mo_areAlike_20 (by decide) ?_
      exact W.zret (v := nI 0) (ty := .boolean) hx hb hr (by decide) (fun T9 ht _ => ⟨_, rfl, q_r.symm, ht⟩) (fun _ h => absurd h List.not_mem_nil) xd_Mo_areAlike_21
set_option maxHeartbeats 4000000 in
set_option maxRecDepth 100000 in
theorem ct_Mo_joins (l : Launch) (G : va_G) (cA : Nat → ClassId) (sz : Nat) (mo : Nat) (th : Int32) (ms : Nat) (mk : Nat) (mv : Nat) (mm : Nat) (ml : Nat) (cnt : Nat) (mt : Nat) (mp : Int32) (mn : Int32) (mu : Nat) (ma : Nat) (at_ : Nat) (bd : Int32) (le : Int32) (ob : Int32) (m1 : Nat) (m2 : Nat) (m3 : Nat) (m4 : Nat) (rn : Nat) (pw : Nat) (mc : Nat) (sa : Nat → Int32) (kd : Nat → Int32) (vl : Nat → Int32) (st : Nat → Int32) (ce : Nat → Int32) (hR : sn_R sa kd vl st ce) (hso : st_O st) : Met l xy_Mo_joins (.code xy_Mo_joins xb_Mo_joins 4 (some .boolean) :: tw_W) ({ frames := 1, cells := 0, slots := 0, locals := 27 }) (pc_w G cA [(mo, .inr (8, [.int th, .ref ms, .ref mk, .ref mv, .int (nI mm), .int (nI ml), .int (nI cnt), .ref mt, .int mp, .int mn, .int (nI mu), .ref ma, .int (nI at_), .int bd, .int le, .int ob, .ref m1, .ref m2, .ref m3, .ref m4, .int (nI rn), .int (nI pw), .ref mc])), (ms, .inl (cA 0, 720, .inl sa)), (mk, .inl (cA 0, 18720, .inl kd)), (mv, .inl (cA 0, 18720, .inl vl))] sz [.ref mo]) (va_Qi (fun (r : Int32) (u9 : (Nat → Int32) × (Nat → Int32) × (Nat → Int32)) => match u9 with | (sa2, kd2, vl2) => jq_Q st ce sa kd vl r sa2 kd2 vl2) (fun u9 T9 => match u9 with | (sa2, kd2, vl2) => at_w G (va_A [(mo, .inr (8, [.int th, .ref ms, .ref mk, .ref mv, .int (nI mm), .int (nI ml), .int (nI cnt), .ref mt, .int mp, .int mn, .int (nI mu), .ref ma, .int (nI at_), .int bd, .int le, .int ob, .ref m1, .ref m2, .ref m3, .ref m4, .int (nI rn), .int (nI pw), .ref mc])), (ms, .inl (cA 0, 720, .inl sa)), (mk, .inl (cA 0, 18720, .inl kd)), (mv, .inl (cA 0, 18720, .inl vl))] sz) [(mo, .inr (8, [.int th, .ref ms, .ref mk, .ref mv, .int (nI mm), .int (nI ml), .int (nI cnt), .ref mt, .int mp, .int mn, .int (nI mu), .ref ma, .int (nI at_), .int bd, .int le, .int ob, .ref m1, .ref m2, .ref m3, .ref m4, .int (nI rn), .int (nI pw), .ref mc])), (ms, .inl (cA 0, 720, .inl sa2)), (mk, .inl (cA 0, 18720, .inl kd2)), (mv, .inl (cA 0, 18720, .inl vl2))] T9) (va_A [(mo, .inr (8, [.int th, .ref ms, .ref mk, .ref mv, .int (nI mm), .int (nI ml), .int (nI cnt), .ref mt, .int mp, .int mn, .int (nI mu), .ref ma, .int (nI at_), .int bd, .int le, .int ob, .ref m1, .ref m2, .ref m3, .ref m4, .int (nI rn), .int (nI pw), .ref mc])), (ms, .inl (cA 0, 720, .inl sa)), (mk, .inl (cA 0, 18720, .inl kd)), (mv, .inl (cA 0, 18720, .inl vl))] sz)) 0 0 (va_A [(mo, .inr (8, [.int th, .ref ms, .ref mk, .ref mv, .int (nI mm), .int (nI ml), .int (nI cnt), .ref mt, .int mp, .int mn, .int (nI mu), .ref ma, .int (nI at_), .int bd, .int le, .int ob, .ref m1, .ref m2, .ref m3, .ref m4, .int (nI rn), .int (nI pw), .ref mc])), (ms, .inl (cA 0, 720, .inl sa)), (mk, .inl (cA 0, 18720, .inl kd)), (mv, .inl (cA 0, 18720, .inl vl))] sz) := by
  refine Met.ofW (cc := xb_Mo_joins) (maxL := 4) (ret := (some .boolean)) (by decide) rfl ?_
  intro p e s m args below meth c s₁ B hml hv
  obtain ⟨rfl, hsz, hK, hP, hD0⟩ := hv
  have hx := B.exec
  have hb := B.bytes
  have hr := B.returns
  have hts0 := atoms_spec (ws := .code xy_Mo_joins xb_Mo_joins 4 (some .boolean) :: tw_W) B.pre
  have hts : ∀ w9 ∈ tw_W, w9.before [.ref mo].toArray s = true := fun w9 h9 => hts0 w9 (List.mem_cons_of_mem _ h9)
  have hown : s.vm.findClass xc_Mo = some m.cls := findClass_of_methodNamed B.named
  have hlocks := B.notSynchronized
  subst hsz
  have hD := hD0.self (sz := s.heap.size)
  generalize hAe : va_A [(mo, .inr (8, [.int th, .ref ms, .ref mk, .ref mv, .int (nI mm), .int (nI ml), .int (nI cnt), .ref mt, .int mp, .int mn, .int (nI mu), .ref ma, .int (nI at_), .int bd, .int le, .int ob, .ref m1, .ref m2, .ref m3, .ref m4, .int (nI rn), .int (nI pw), .ref mc])), (ms, .inl (cA 0, 720, .inl sa)), (mk, .inl (cA 0, 18720, .inl kd)), (mv, .inl (cA 0, 18720, .inl vl))] s.heap.size = A at hD ⊢
  have hA : ∀ q : Nat, s.heap.size ≤ q → A q := fun q h => by rw [← hAe]; exact Or.inr h
  have hS : va_S A s.heap s.heap [] := va_S.rf
  have hP : va_P G xk_cl [(mo, .inr (8, [.int th, .ref ms, .ref mk, .ref mv, .int (nI mm), .int (nI ml), .int (nI cnt), .ref mt, .int mp, .int mn, .int (nI mu), .ref ma, .int (nI at_), .int bd, .int le, .int ob, .ref m1, .ref m2, .ref m3, .ref m4, .int (nI rn), .int (nI pw), .ref mc])), (ms, .inl (cA 0, 720, .inl sa)), (mk, .inl (cA 0, 18720, .inl kd)), (mv, .inl (cA 0, 18720, .inl vl))] s.heap := hP
  have hl := lv_entry ([.ref mo]) (n := 4) (Nat.le_of_ble_eq_true rfl)
  rw [lg_entry_eq]
  generalize (lg_sl ([.ref mo]) ++ List.replicate (4 - (lg_sl ([.ref mo])).length) Slot.unset).toArray = ls at hl ⊢
  have hl : lv_has ls 4 [(0, .ref mo)] := hl
  refine lv_iconst (v := nI 1) hx hb xd_Mo_joins_0 (by decide) ?_
  refine lv_istore_n (lv' := [(1, .int (nI 1)), (0, .ref mo)]) hx hb xd_Mo_joins_1 rfl hl (by decide) rfl (fun ls hl => ?_)
  have lp : ∀ (k_lp : Nat) (a : Nat), (1 ≤ a) → (a ≤ 40) → (∀ k, k < a * 40 → jn_p st ce k = false) → 40 - a < k_lp → ∀ (H : Heap) (locs : List Loc), va_P G xk_cl [(mo, .inr (8, [.int th, .ref ms, .ref mk, .ref mv, .int (nI mm), .int (nI ml), .int (nI cnt), .ref mt, .int mp, .int mn, .int (nI mu), .ref ma, .int (nI at_), .int bd, .int le, .int ob, .ref m1, .ref m2, .ref m3, .ref m4, .int (nI rn), .int (nI pw), .ref mc])), (ms, .inl (cA 0, 720, .inl sa)), (mk, .inl (cA 0, 18720, .inl kd)), (mv, .inl (cA 0, 18720, .inl vl))] H → va_D A [(mo, .inr (8, [.int th, .ref ms, .ref mk, .ref mv, .int (nI mm), .int (nI ml), .int (nI cnt), .ref mt, .int mp, .int mn, .int (nI mu), .ref ma, .int (nI at_), .int bd, .int le, .int ob, .ref m1, .ref m2, .ref m3, .ref m4, .int (nI rn), .int (nI pw), .ref mc])), (ms, .inl (cA 0, 720, .inl sa)), (mk, .inl (cA 0, 18720, .inl kd)), (mv, .inl (cA 0, 18720, .inl vl))] → va_S A s.heap H locs → ∀ (ls : Array Slot), lv_has ls 4 [(0, .ref mo), (1, .int (nI a))] → W p l e (headSpec (.code xy_Mo_joins xb_Mo_joins 4 (some .boolean) :: tw_W) ({ frames := 1, cells := 0, slots := 0, locals := 27 })).room s m ([.ref mo] : List Value).toArray below meth c H locs 0 0 (MQ below (va_Qi (fun (r : Int32) (u9 : (Nat → Int32) × (Nat → Int32) × (Nat → Int32)) => match u9 with | (sa2, kd2, vl2) => jq_Q st ce sa kd vl r sa2 kd2 vl2) (fun u9 T9 => match u9 with | (sa2, kd2, vl2) => at_w G A [(mo, .inr (8, [.int th, .ref ms, .ref mk, .ref mv, .int (nI mm), .int (nI ml), .int (nI cnt), .ref mt, .int mp, .int mn, .int (nI mu), .ref ma, .int (nI at_), .int bd, .int le, .int ob, .ref m1, .ref m2, .ref m3, .ref m4, .int (nI rn), .int (nI pw), .ref mc])), (ms, .inl (cA 0, 720, .inl sa2)), (mk, .inl (cA 0, 18720, .inl kd2)), (mv, .inl (cA 0, 18720, .inl vl2))] T9) A) ([.ref mo] : List Value).toArray s 0 0 A) (F0 m 2 ls []) := by
    intro k_lp
    induction k_lp with
    | zero =>
      intro a ha1 ha hj hk_lp
      exact absurd hk_lp (Nat.not_lt_zero _)
    | succ k_lp ih_lp =>
      intro a ha1 ha hj hk_lp H locs hP hD hS ls hl
      refine lv_iload_n hx hb xd_Mo_joins_2 rfl (lv_at hl 1 rfl) ?_
      refine lv_bipush (v := nI 40) hx hb xd_Mo_joins_3 (by decide) ?_
      refine lv_icmp_ge (tgt := 104) hx hb xd_Mo_joins_5 (by decide) (fun c_5_0 => ?_) (fun c_5_0 => ?_)
      · have e_a : a = 40 := Nat.le_antisymm ha (nI_gle (by decide) (by omega) c_5_0)
        have q_n := jn_none (st := st) (ce := ce) (fun m hm => hj m (by omega))
        refine lv_iconst (v := nI 0) hx hb xd_Mo_joins_104 (by decide) ?_
        have hP9 : va_P G xk_cl [(mo, .inr (8, [.int th, .ref ms, .ref mk, .ref mv, .int (nI mm), .int (nI ml), .int (nI cnt), .ref mt, .int mp, .int mn, .int (nI mu), .ref ma, .int (nI at_), .int bd, .int le, .int ob, .ref m1, .ref m2, .ref m3, .ref m4, .int (nI rn), .int (nI pw), .ref mc])), (ms, .inl (cA 0, 720, .inl sa)), (mk, .inl (cA 0, 18720, .inl kd)), (mv, .inl (cA 0, 18720, .inl vl))] _ := hP.sub [0, 1, 2, 3] rfl
        have hD9 : va_D A [(mo, .inr (8, [.int th, .ref ms, .ref mk, .ref mv, .int (nI mm), .int (nI ml), .int (nI cnt), .ref mt, .int mp, .int mn, .int (nI mu), .ref ma, .int (nI at_), .int bd, .int le, .int ob, .ref m1, .ref m2, .ref m3, .ref m4, .int (nI rn), .int (nI pw), .ref mc])), (ms, .inl (cA 0, 720, .inl sa)), (mk, .inl (cA 0, 18720, .inl kd)), (mv, .inl (cA 0, 18720, .inl vl))] := hD.sub [0, 1, 2, 3] (by decide) rfl
        exact W.zret (v := nI 0) (ty := .boolean) hx hb hr (by decide) (fun T9 ht hW => ⟨⟨_, (sa, kd, vl), rfl, jq_n q_n hR, by rw [ht]; exact hP9, hD9⟩, hS.F ht⟩) hS.2.2 xd_Mo_joins_105
      · have e_a := nI_gnl (by decide) (by omega) c_5_0
        refine lv_iload_n hx hb xd_Mo_joins_8 rfl (lv_at hl 1 rfl) ?_
        refine lv_iconst (v := nI 1) hx hb xd_Mo_joins_9 (by decide) ?_
        refine lx_iadd (z := nI (a + 1)) hx hb xd_Mo_joins_10 (nI_add _ _) ?_
        refine lv_istore_n (lv' := [(2, .int (nI (a + 1))), (0, .ref mo), (1, .int (nI a))]) hx hb xd_Mo_joins_11 rfl hl (by decide) rfl (fun ls hl => ?_)
        have lq : ∀ (k_lq : Nat) (b : Nat), (a < b) → (b ≤ 40) → (∀ k, k < a * 40 + b → jn_p st ce k = false) → 40 - b < k_lq → ∀ (H : Heap) (locs : List Loc), va_P G xk_cl [(mo, .inr (8, [.int th, .ref ms, .ref mk, .ref mv, .int (nI mm), .int (nI ml), .int (nI cnt), .ref mt, .int mp, .int mn, .int (nI mu), .ref ma, .int (nI at_), .int bd, .int le, .int ob, .ref m1, .ref m2, .ref m3, .ref m4, .int (nI rn), .int (nI pw), .ref mc])), (ms, .inl (cA 0, 720, .inl sa)), (mk, .inl (cA 0, 18720, .inl kd)), (mv, .inl (cA 0, 18720, .inl vl))] H → va_D A [(mo, .inr (8, [.int th, .ref ms, .ref mk, .ref mv, .int (nI mm), .int (nI ml), .int (nI cnt), .ref mt, .int mp, .int mn, .int (nI mu), .ref ma, .int (nI at_), .int bd, .int le, .int ob, .ref m1, .ref m2, .ref m3, .ref m4, .int (nI rn), .int (nI pw), .ref mc])), (ms, .inl (cA 0, 720, .inl sa)), (mk, .inl (cA 0, 18720, .inl kd)), (mv, .inl (cA 0, 18720, .inl vl))] → va_S A s.heap H locs → ∀ (ls : Array Slot), lv_has ls 4 [(0, .ref mo), (1, .int (nI a)), (2, .int (nI b))] → W p l e (headSpec (.code xy_Mo_joins xb_Mo_joins 4 (some .boolean) :: tw_W) ({ frames := 1, cells := 0, slots := 0, locals := 27 })).room s m ([.ref mo] : List Value).toArray below meth c H locs 0 0 (MQ below (va_Qi (fun (r : Int32) (u9 : (Nat → Int32) × (Nat → Int32) × (Nat → Int32)) => match u9 with | (sa2, kd2, vl2) => jq_Q st ce sa kd vl r sa2 kd2 vl2) (fun u9 T9 => match u9 with | (sa2, kd2, vl2) => at_w G A [(mo, .inr (8, [.int th, .ref ms, .ref mk, .ref mv, .int (nI mm), .int (nI ml), .int (nI cnt), .ref mt, .int mp, .int mn, .int (nI mu), .ref ma, .int (nI at_), .int bd, .int le, .int ob, .ref m1, .ref m2, .ref m3, .ref m4, .int (nI rn), .int (nI pw), .ref mc])), (ms, .inl (cA 0, 720, .inl sa2)), (mk, .inl (cA 0, 18720, .inl kd2)), (mv, .inl (cA 0, 18720, .inl vl2))] T9) A) ([.ref mo] : List Value).toArray s 0 0 A) (F0 m 12 ls []) := by
          intro k_lq
          induction k_lq with
          | zero =>
            intro b hb1 hb2 hj2 hk_lq
            exact absurd hk_lq (Nat.not_lt_zero _)
          | succ k_lq ih_lq =>
            intro b hb1 hb2 hj2 hk_lq H locs hP hD hS ls hl
            refine lv_iload_n hx hb xd_Mo_joins_12 rfl (lv_at hl 2 rfl) ?_
            refine lv_bipush (v := nI 40) hx hb xd_Mo_joins_13 (by decide) ?_
            refine lv_icmp_ge (tgt := 98) hx hb xd_Mo_joins_15 (by decide) (fun c_15_1 => ?_) (fun c_15_1 => ?_)
            · have e_b : b = 40 := Nat.le_antisymm hb2 (nI_gle (by decide) (by omega) c_15_1)
              refine lv_iinc (v := nI (a + 1)) (lv' := [(1, .int (nI (a + 1))), (0, .ref mo), (2, .int (nI b))]) hx hb xd_Mo_joins_98 hl (k := 1) rfl (nI_inc _) (by decide) rfl (fun ls hl => ?_)
              refine lv_goto (tgt := 2) hx hb xd_Mo_joins_101 (by decide) ?_
              exact ih_lp (a + 1) (by omega) (by omega) (jn_ext hj2 (fun k h1 h2 => by omega)) (by omega) _ _ (hP.sub [0, 1, 2, 3] rfl) (hD.sub [0, 1, 2, 3] (by decide) rfl) hS ls (lv_sub hl [1, 0] rfl)
            · have e_b := nI_gnl (by decide) (by omega) c_15_1
              refine lv_aload_n hx hb xd_Mo_joins_18 rfl (lv_at hl 0 rfl) ?_
              refine lv_iload_n hx hb xd_Mo_joins_19 rfl (lv_at hl 1 rfl) ?_
              refine lv_iload_n hx hb xd_Mo_joins_20 rfl (lv_at hl 2 rfl) ?_
              have hPc := hP
              refine vp_callSi (va_Run.run (va_runV (As := [.int (nI a), .int (nI b)]) (rest := []) ⟨hx, hb, hml, hown, hts⟩ (ct_Mo_areAlike l G cA mo th ms mk mv mm ml cnt mt mp mn mu ma at_ bd le ob m1 m2 m3 m4 rn pw mc sa kd vl st ce hR hso a b (by omega) (by omega)) (cwV 2 hts (gi_v xm_811 xm_813 xs_Mo_areAlike xm_9 xm_814) rfl rfl rfl ⟨rfl, xh_Mo_areAlike⟩ ⟨Nat.le_of_ble_eq_true rfl, Nat.le_of_ble_eq_true rfl⟩) (pv_r hK hPc (ci := 8) (q0 := 0) rfl rfl) rfl rfl hl.1 rfl (lv_room (Nat.le_of_ble_eq_true rfl)) xd_Mo_joins_21 ⟨Nat.le_of_ble_eq_true rfl, Nat.le_of_ble_eq_true rfl⟩)) (fun r_3 q_4 => ?_)
              refine lx_top (z := ra_R st ce a b) (q_4) ?_
              refine lv_if_eq (tgt := 92) hx hb xd_Mo_joins_24 (by decide) (fun c_24_4 => ?_) (fun c_24_4 => ?_)
              · skip
                refine lv_iinc (v := nI (b + 1)) (lv' := [(2, .int (nI (b + 1))), (0, .ref mo), (1, .int (nI a))]) hx hb xd_Mo_joins_92 hl (k := 2) rfl (nI_inc _) (by decide) rfl (fun ls hl => ?_)
                refine lv_goto (tgt := 12) hx hb xd_Mo_joins_95 (by decide) ?_
                exact ih_lq (b + 1) (by omega) (by omega) (jn_ext hj2 (fun k h1 h2 => by rw [show k = a * 40 + b by omega]; exact ra_f hso (by omega) (by omega) c_24_4)) (by omega) _ _ (hP.sub [0, 1, 2, 3] rfl) (hD.sub [0, 1, 2, 3] (by decide) rfl) hS ls (lv_sub hl [1, 2, 0] rfl)
              · have q_S := ra_S (by omega) (by omega) (by omega) hb1 c_24_4 hj2
                refine lv_aload_n hx hb xd_Mo_joins_27 rfl (lv_at hl 0 rfl) ?_
                refine va_get (D := G) (ci := 8) (v := .ref ms) (C := xc_Mo) (T := xf_Mo) (N := 23) hx hb hts xw_Mo hown hK.1 hP 0 rfl rfl 1 (by decide) (hts _ xm_620) (fun _ h9 => h9) rfl xd_Mo_joins_28 ?_
                refine lv_iload_n hx hb xd_Mo_joins_31 rfl (lv_at hl 2 rfl) ?_
                refine lv_iconst (v := nI 0) hx hb xd_Mo_joins_32 (by decide) ?_
                refine wx_iast hx hb hK.1 hP hD hS 1 0 rfl rfl (k := b) (z := nI 0) (rfl) (by omega) (by decide) xd_Mo_joins_33 (fun H locs hP hD hS => ?_)
                have hP : va_P G xk_cl [(mo, .inr (8, [.int th, .ref ms, .ref mk, .ref mv, .int (nI mm), .int (nI ml), .int (nI cnt), .ref mt, .int mp, .int mn, .int (nI mu), .ref ma, .int (nI at_), .int bd, .int le, .int ob, .ref m1, .ref m2, .ref m3, .ref m4, .int (nI rn), .int (nI pw), .ref mc])), (ms, .inl (cA 0, 720, .inl (upd sa b (nI 0)))), (mk, .inl (cA 0, 18720, .inl kd)), (mv, .inl (cA 0, 18720, .inl vl))] H := hP
                have hD : va_D A [(mo, .inr (8, [.int th, .ref ms, .ref mk, .ref mv, .int (nI mm), .int (nI ml), .int (nI cnt), .ref mt, .int mp, .int mn, .int (nI mu), .ref ma, .int (nI at_), .int bd, .int le, .int ob, .ref m1, .ref m2, .ref m3, .ref m4, .int (nI rn), .int (nI pw), .ref mc])), (ms, .inl (cA 0, 720, .inl (upd sa b (nI 0)))), (mk, .inl (cA 0, 18720, .inl kd)), (mv, .inl (cA 0, 18720, .inl vl))] := hD
                refine lv_aload_n hx hb xd_Mo_joins_34 rfl (lv_at hl 0 rfl) ?_
                refine lv_iload_n hx hb xd_Mo_joins_35 rfl (lv_at hl 2 rfl) ?_
                have hPc := hP.sub (ws' := [(mo, .inr (8, [.int th, .ref ms, .ref mk, .ref mv, .int (nI mm), .int (nI ml), .int (nI cnt), .ref mt, .int mp, .int mn, .int (nI mu), .ref ma, .int (nI at_), .int bd, .int le, .int ob, .ref m1, .ref m2, .ref m3, .ref m4, .int (nI rn), .int (nI pw), .ref mc])), (mk, .inl (cA 0, 18720, .inl kd)), (mv, .inl (cA 0, 18720, .inl vl))]) [0, 2, 3] rfl
                have hDc := hD.sub (ws' := [(mo, .inr (8, [.int th, .ref ms, .ref mk, .ref mv, .int (nI mm), .int (nI ml), .int (nI cnt), .ref mt, .int mp, .int mn, .int (nI mu), .ref ma, .int (nI at_), .int bd, .int le, .int ob, .ref m1, .ref m2, .ref m3, .ref m4, .int (nI rn), .int (nI pw), .ref mc])), (mk, .inl (cA 0, 18720, .inl kd)), (mv, .inl (cA 0, 18720, .inl vl))]) [0, 2, 3] (by decide) rfl
                have hFc := va_free (wc := [(mo, .inr (8, [.int th, .ref ms, .ref mk, .ref mv, .int (nI mm), .int (nI ml), .int (nI cnt), .ref mt, .int mp, .int mn, .int (nI mu), .ref ma, .int (nI at_), .int bd, .int le, .int ob, .ref m1, .ref m2, .ref m3, .ref m4, .int (nI rn), .int (nI pw), .ref mc])), (mk, .inl (cA 0, 18720, .inl kd)), (mv, .inl (cA 0, 18720, .inl vl))]) hD hS hA [0, 2, 3] rfl
                refine va_callv (va_runV (As := [.int (nI b)]) (rest := []) ⟨hx, hb, hml, hown, hts⟩ (ct_Mo_empty l G cA H.size mo th ms mk mv mm ml cnt mt mp mn mu ma at_ bd le ob m1 m2 m3 m4 rn pw mc kd vl b (by omega)) (cwV 1 hts (gi_v xm_743 xm_745 xs_Mo_empty xm_9 xm_746) rfl rfl rfl ⟨rfl, xh_Mo_empty⟩ ⟨Nat.le_of_ble_eq_true rfl, Nat.le_of_ble_eq_true rfl⟩) (pv_w hK hPc hDc (ci := 8) (q0 := 0) rfl rfl) rfl rfl hl.1 rfl (lv_room (Nat.le_of_ble_eq_true rfl)) xd_Mo_joins_36 ⟨Nat.le_of_ble_eq_true rfl, Nat.le_of_ble_eq_true rfl⟩) hS (fun q _ h => hFc q h) hFc (fun u9 t9 H1 locs ht hvm q_7 hB hz1 hk1 hS => ?_)
                obtain ⟨hP1, hD1⟩ := hB
                rw [ht] at hP1
                obtain ⟨hP, hD⟩ := va_join (wr := [(ms, .inl (cA 0, 720, .inl (upd sa b (nI 0))))]) (w1 := [(mo, .inr (8, [.int th, .ref ms, .ref mk, .ref mv, .int (nI mm), .int (nI ml), .int (nI cnt), .ref mt, .int mp, .int mn, .int (nI mu), .ref ma, .int (nI at_), .int bd, .int le, .int ob, .ref m1, .ref m2, .ref m3, .ref m4, .int (nI rn), .int (nI pw), .ref mc])), (mk, .inl (cA 0, 18720, .inl (ey_A kd b 26))), (mv, .inl (cA 0, 18720, .inl (ey_A vl b 26)))]) hP hD [0, 2, 3] [1] rfl rfl (by decide) (by decide) hk1 hFc hP1 hD1
                generalize H1 = H at hP hS ⊢
                have hP : va_P G xk_cl [(ms, .inl (cA 0, 720, .inl (upd sa b (nI 0)))), (mo, .inr (8, [.int th, .ref ms, .ref mk, .ref mv, .int (nI mm), .int (nI ml), .int (nI cnt), .ref mt, .int mp, .int mn, .int (nI mu), .ref ma, .int (nI at_), .int bd, .int le, .int ob, .ref m1, .ref m2, .ref m3, .ref m4, .int (nI rn), .int (nI pw), .ref mc])), (mk, .inl (cA 0, 18720, .inl (ey_A kd b 26))), (mv, .inl (cA 0, 18720, .inl (ey_A vl b 26)))] H := hP
                have hD : va_D A [(ms, .inl (cA 0, 720, .inl (upd sa b (nI 0)))), (mo, .inr (8, [.int th, .ref ms, .ref mk, .ref mv, .int (nI mm), .int (nI ml), .int (nI cnt), .ref mt, .int mp, .int mn, .int (nI mu), .ref ma, .int (nI at_), .int bd, .int le, .int ob, .ref m1, .ref m2, .ref m3, .ref m4, .int (nI rn), .int (nI pw), .ref mc])), (mk, .inl (cA 0, 18720, .inl (ey_A kd b 26))), (mv, .inl (cA 0, 18720, .inl (ey_A vl b 26)))] := hD
                refine lv_iconst (v := nI 0) hx hb xd_Mo_joins_39 (by decide) ?_
                refine lv_istore_n (lv' := [(3, .int (nI 0)), (0, .ref mo), (1, .int (nI a)), (2, .int (nI b))]) hx hb xd_Mo_joins_40 rfl hl (by decide) rfl (fun ls hl => ?_)
                have hP : va_P G xk_cl [(ms, .inl (cA 0, 720, .inl (upd sa b (nI 0)))), (mo, .inr (8, [.int th, .ref ms, .ref mk, .ref mv, .int (nI mm), .int (nI ml), .int (nI cnt), .ref mt, .int mp, .int mn, .int (nI mu), .ref ma, .int (nI at_), .int bd, .int le, .int ob, .ref m1, .ref m2, .ref m3, .ref m4, .int (nI rn), .int (nI pw), .ref mc])), (mk, .inl (cA 0, 18720, .inl (ey_A kd b 26))), (mv, .inl (cA 0, 18720, .inl (rv_A (ey_A kd b 26) (ey_A vl b 26) a b 0)))] H := by rw [rv_0]; exact hP
                have hD : va_D A [(ms, .inl (cA 0, 720, .inl (upd sa b (nI 0)))), (mo, .inr (8, [.int th, .ref ms, .ref mk, .ref mv, .int (nI mm), .int (nI ml), .int (nI cnt), .ref mt, .int mp, .int mn, .int (nI mu), .ref ma, .int (nI at_), .int bd, .int le, .int ob, .ref m1, .ref m2, .ref m3, .ref m4, .int (nI rn), .int (nI pw), .ref mc])), (mk, .inl (cA 0, 18720, .inl (ey_A kd b 26))), (mv, .inl (cA 0, 18720, .inl (rv_A (ey_A kd b 26) (ey_A vl b 26) a b 0)))] := by rw [rv_0]; exact hD
                have lr : ∀ (k_lr : Nat) (k : Nat), (k ≤ 1040) → 1040 - k < k_lr → ∀ (H : Heap) (locs : List Loc), va_P G xk_cl [(mo, .inr (8, [.int th, .ref ms, .ref mk, .ref mv, .int (nI mm), .int (nI ml), .int (nI cnt), .ref mt, .int mp, .int mn, .int (nI mu), .ref ma, .int (nI at_), .int bd, .int le, .int ob, .ref m1, .ref m2, .ref m3, .ref m4, .int (nI rn), .int (nI pw), .ref mc])), (ms, .inl (cA 0, 720, .inl (upd sa b (nI 0)))), (mk, .inl (cA 0, 18720, .inl (ey_A kd b 26))), (mv, .inl (cA 0, 18720, .inl (rv_A (ey_A kd b 26) (ey_A vl b 26) a b k)))] H → va_D A [(mo, .inr (8, [.int th, .ref ms, .ref mk, .ref mv, .int (nI mm), .int (nI ml), .int (nI cnt), .ref mt, .int mp, .int mn, .int (nI mu), .ref ma, .int (nI at_), .int bd, .int le, .int ob, .ref m1, .ref m2, .ref m3, .ref m4, .int (nI rn), .int (nI pw), .ref mc])), (ms, .inl (cA 0, 720, .inl (upd sa b (nI 0)))), (mk, .inl (cA 0, 18720, .inl (ey_A kd b 26))), (mv, .inl (cA 0, 18720, .inl (rv_A (ey_A kd b 26) (ey_A vl b 26) a b k)))] → va_S A s.heap H locs → ∀ (ls : Array Slot), lv_has ls 4 [(0, .ref mo), (1, .int (nI a)), (2, .int (nI b)), (3, .int (nI k))] → W p l e (headSpec (.code xy_Mo_joins xb_Mo_joins 4 (some .boolean) :: tw_W) ({ frames := 1, cells := 0, slots := 0, locals := 27 })).room s m ([.ref mo] : List Value).toArray below meth c H locs 0 0 (MQ below (va_Qi (fun (r : Int32) (u9 : (Nat → Int32) × (Nat → Int32) × (Nat → Int32)) => match u9 with | (sa2, kd2, vl2) => jq_Q st ce sa kd vl r sa2 kd2 vl2) (fun u9 T9 => match u9 with | (sa2, kd2, vl2) => at_w G A [(mo, .inr (8, [.int th, .ref ms, .ref mk, .ref mv, .int (nI mm), .int (nI ml), .int (nI cnt), .ref mt, .int mp, .int mn, .int (nI mu), .ref ma, .int (nI at_), .int bd, .int le, .int ob, .ref m1, .ref m2, .ref m3, .ref m4, .int (nI rn), .int (nI pw), .ref mc])), (ms, .inl (cA 0, 720, .inl sa2)), (mk, .inl (cA 0, 18720, .inl kd2)), (mv, .inl (cA 0, 18720, .inl vl2))] T9) A) ([.ref mo] : List Value).toArray s 0 0 A) (F0 m 41 ls []) := by
                  intro k_lr
                  induction k_lr with
                  | zero =>
                    intro k hk_ hk_lr
                    exact absurd hk_lr (Nat.not_lt_zero _)
                  | succ k_lr ih_lr =>
                    intro k hk_ hk_lr H locs hP hD hS ls hl
                    refine lv_iload_n hx hb xd_Mo_joins_41 rfl (lv_at hl 3 rfl) ?_
                    refine lv_sipush (v := nI 1040) hx hb xd_Mo_joins_42 (by decide) ?_
                    refine lv_icmp_ge (tgt := 90) hx hb xd_Mo_joins_45 (by decide) (fun c_45_7 => ?_) (fun c_45_7 => ?_)
                    · have e_k : k = 1040 := Nat.le_antisymm hk_ (nI_gle (by decide) (by omega) c_45_7)
                      subst e_k
                      refine lv_iconst (v := nI 1) hx hb xd_Mo_joins_90 (by decide) ?_
                      have hP9 : va_P G xk_cl [(mo, .inr (8, [.int th, .ref ms, .ref mk, .ref mv, .int (nI mm), .int (nI ml), .int (nI cnt), .ref mt, .int mp, .int mn, .int (nI mu), .ref ma, .int (nI at_), .int bd, .int le, .int ob, .ref m1, .ref m2, .ref m3, .ref m4, .int (nI rn), .int (nI pw), .ref mc])), (ms, .inl (cA 0, 720, .inl (upd sa b (nI 0)))), (mk, .inl (cA 0, 18720, .inl (ey_A kd b 26))), (mv, .inl (cA 0, 18720, .inl (rv_A (ey_A kd b 26) (ey_A vl b 26) a b 1040)))] _ := hP.sub [0, 1, 2, 3] rfl
                      have hD9 : va_D A [(mo, .inr (8, [.int th, .ref ms, .ref mk, .ref mv, .int (nI mm), .int (nI ml), .int (nI cnt), .ref mt, .int mp, .int mn, .int (nI mu), .ref ma, .int (nI at_), .int bd, .int le, .int ob, .ref m1, .ref m2, .ref m3, .ref m4, .int (nI rn), .int (nI pw), .ref mc])), (ms, .inl (cA 0, 720, .inl (upd sa b (nI 0)))), (mk, .inl (cA 0, 18720, .inl (ey_A kd b 26))), (mv, .inl (cA 0, 18720, .inl (rv_A (ey_A kd b 26) (ey_A vl b 26) a b 1040)))] := hD.sub [0, 1, 2, 3] (by decide) rfl
                      exact W.zret (v := nI 1) (ty := .boolean) hx hb hr (by decide) (fun T9 ht hW => ⟨⟨_, (upd sa b (nI 0), ey_A kd b 26, rv_A (ey_A kd b 26) (ey_A vl b 26) a b 1040), rfl, jq_y (by omega) (by omega) q_S hR, by rw [ht]; exact hP9, hD9⟩, hS.F ht⟩) hS.2.2 xd_Mo_joins_91
                    · have e_k := nI_gnl (by decide) (by omega) c_45_7
                      refine lv_aload_n hx hb xd_Mo_joins_48 rfl (lv_at hl 0 rfl) ?_
                      refine va_get (D := G) (ci := 8) (v := .ref mv) (C := xc_Mo) (T := xf_Mo) (N := 23) hx hb hts xw_Mo hown hK.1 hP 0 rfl rfl 3 (by decide) (hts _ xm_622) (fun _ h9 => h9) rfl xd_Mo_joins_49 ?_
                      refine lv_iload_n hx hb xd_Mo_joins_52 rfl (lv_at hl 3 rfl) ?_
                      refine lv_aload_n hx hb xd_Mo_joins_53 rfl (lv_at hl 0 rfl) ?_
                      refine va_get (D := G) (ci := 8) (v := .ref mk) (C := xc_Mo) (T := xf_Mo) (N := 23) hx hb hts xw_Mo hown hK.1 hP 0 rfl rfl 2 (by decide) (hts _ xm_621) (fun _ h9 => h9) rfl xd_Mo_joins_54 ?_
                      refine lv_iload_n hx hb xd_Mo_joins_57 rfl (lv_at hl 3 rfl) ?_
                      refine wx_iald hx hb hK.1 hP 2 0 rfl rfl (k := k) (by omega) (by decide) xd_Mo_joins_58 ?_
                      refine lv_iconst (v := nI 2) hx hb xd_Mo_joins_59 (by decide) ?_
                      refine lv_icmp_ne (tgt := 77) hx hb xd_Mo_joins_60 (by decide) (fun c_60_8 => ?_) (fun c_60_8 => ?_)
                      · have q_y : ¬ (ey_A kd b 26 k = nI 2 ∧ ey_A vl b 26 k = nI b) := fun z => c_60_8 z.1
                        refine lv_aload_n hx hb xd_Mo_joins_77 rfl (lv_at hl 0 rfl) ?_
                        refine va_get (D := G) (ci := 8) (v := .ref mv) (C := xc_Mo) (T := xf_Mo) (N := 23) hx hb hts xw_Mo hown hK.1 hP 0 rfl rfl 3 (by decide) (hts _ xm_622) (fun _ h9 => h9) rfl xd_Mo_joins_78 ?_
                        refine lv_iload_n hx hb xd_Mo_joins_81 rfl (lv_at hl 3 rfl) ?_
                        refine wx_iald hx hb hK.1 hP 3 0 rfl rfl (k := k) (by omega) (by decide) xd_Mo_joins_82 ?_
                        refine lx_top (z := ey_A vl b 26 k) (rv_k _ _ _ _ _) ?_
                        refine wx_iast hx hb hK.1 hP hD hS 3 0 rfl rfl (k := k) (z := ey_A vl b 26 k) (rfl) (by omega) (by decide) xd_Mo_joins_83 (fun H locs hP hD hS => ?_)
                        have hP : va_P G xk_cl [(mo, .inr (8, [.int th, .ref ms, .ref mk, .ref mv, .int (nI mm), .int (nI ml), .int (nI cnt), .ref mt, .int mp, .int mn, .int (nI mu), .ref ma, .int (nI at_), .int bd, .int le, .int ob, .ref m1, .ref m2, .ref m3, .ref m4, .int (nI rn), .int (nI pw), .ref mc])), (ms, .inl (cA 0, 720, .inl (upd sa b (nI 0)))), (mk, .inl (cA 0, 18720, .inl (ey_A kd b 26))), (mv, .inl (cA 0, 18720, .inl (upd (rv_A (ey_A kd b 26) (ey_A vl b 26) a b k) k (ey_A vl b 26 k))))] H := hP
                        have hD : va_D A [(mo, .inr (8, [.int th, .ref ms, .ref mk, .ref mv, .int (nI mm), .int (nI ml), .int (nI cnt), .ref mt, .int mp, .int mn, .int (nI mu), .ref ma, .int (nI at_), .int bd, .int le, .int ob, .ref m1, .ref m2, .ref m3, .ref m4, .int (nI rn), .int (nI pw), .ref mc])), (ms, .inl (cA 0, 720, .inl (upd sa b (nI 0)))), (mk, .inl (cA 0, 18720, .inl (ey_A kd b 26))), (mv, .inl (cA 0, 18720, .inl (upd (rv_A (ey_A kd b 26) (ey_A vl b 26) a b k) k (ey_A vl b 26 k))))] := hD
                        refine lv_iinc (v := nI (k + 1)) (lv' := [(3, .int (nI (k + 1))), (0, .ref mo), (1, .int (nI a)), (2, .int (nI b))]) hx hb xd_Mo_joins_84 hl (k := 3) rfl (nI_inc _) (by decide) rfl (fun ls hl => ?_)
                        refine lv_goto (tgt := 41) hx hb xd_Mo_joins_87 (by decide) ?_
                        have hP : va_P G xk_cl [(mo, .inr (8, [.int th, .ref ms, .ref mk, .ref mv, .int (nI mm), .int (nI ml), .int (nI cnt), .ref mt, .int mp, .int mn, .int (nI mu), .ref ma, .int (nI at_), .int bd, .int le, .int ob, .ref m1, .ref m2, .ref m3, .ref m4, .int (nI rn), .int (nI pw), .ref mc])), (ms, .inl (cA 0, 720, .inl (upd sa b (nI 0)))), (mk, .inl (cA 0, 18720, .inl (ey_A kd b 26))), (mv, .inl (cA 0, 18720, .inl (rv_A (ey_A kd b 26) (ey_A vl b 26) a b (k + 1))))] H := by rw [rv_s _ _ _ _ _ (by rw [if_neg q_y])]; exact hP
                        have hD : va_D A [(mo, .inr (8, [.int th, .ref ms, .ref mk, .ref mv, .int (nI mm), .int (nI ml), .int (nI cnt), .ref mt, .int mp, .int mn, .int (nI mu), .ref ma, .int (nI at_), .int bd, .int le, .int ob, .ref m1, .ref m2, .ref m3, .ref m4, .int (nI rn), .int (nI pw), .ref mc])), (ms, .inl (cA 0, 720, .inl (upd sa b (nI 0)))), (mk, .inl (cA 0, 18720, .inl (ey_A kd b 26))), (mv, .inl (cA 0, 18720, .inl (rv_A (ey_A kd b 26) (ey_A vl b 26) a b (k + 1))))] := by rw [rv_s _ _ _ _ _ (by rw [if_neg q_y])]; exact hD
                        exact ih_lr (k + 1) (by omega) (by omega) _ _ (hP.sub [0, 1, 2, 3] rfl) (hD.sub [0, 1, 2, 3] (by decide) rfl) hS ls (lv_sub hl [1, 2, 3, 0] rfl)
                      · have q_y1 := c_60_8
                        refine lv_aload_n hx hb xd_Mo_joins_63 rfl (lv_at hl 0 rfl) ?_
                        refine va_get (D := G) (ci := 8) (v := .ref mv) (C := xc_Mo) (T := xf_Mo) (N := 23) hx hb hts xw_Mo hown hK.1 hP 0 rfl rfl 3 (by decide) (hts _ xm_622) (fun _ h9 => h9) rfl xd_Mo_joins_64 ?_
                        refine lv_iload_n hx hb xd_Mo_joins_67 rfl (lv_at hl 3 rfl) ?_
                        refine wx_iald hx hb hK.1 hP 3 0 rfl rfl (k := k) (by omega) (by decide) xd_Mo_joins_68 ?_
                        refine lx_top (z := ey_A vl b 26 k) (rv_k _ _ _ _ _) ?_
                        refine lv_iload_n hx hb xd_Mo_joins_69 rfl (lv_at hl 2 rfl) ?_
                        refine lv_icmp_ne (tgt := 77) hx hb xd_Mo_joins_70 (by decide) (fun c_70_9 => ?_) (fun c_70_9 => ?_)
                        · have q_y : ¬ (ey_A kd b 26 k = nI 2 ∧ ey_A vl b 26 k = nI b) := fun z => c_70_9 z.2
                          refine lv_aload_n hx hb xd_Mo_joins_77 rfl (lv_at hl 0 rfl) ?_
                          refine va_get (D := G) (ci := 8) (v := .ref mv) (C := xc_Mo) (T := xf_Mo) (N := 23) hx hb hts xw_Mo hown hK.1 hP 0 rfl rfl 3 (by decide) (hts _ xm_622) (fun _ h9 => h9) rfl xd_Mo_joins_78 ?_
                          refine lv_iload_n hx hb xd_Mo_joins_81 rfl (lv_at hl 3 rfl) ?_
                          refine wx_iald hx hb hK.1 hP 3 0 rfl rfl (k := k) (by omega) (by decide) xd_Mo_joins_82 ?_
                          refine lx_top (z := ey_A vl b 26 k) (rv_k _ _ _ _ _) ?_
                          refine wx_iast hx hb hK.1 hP hD hS 3 0 rfl rfl (k := k) (z := ey_A vl b 26 k) (rfl) (by omega) (by decide) xd_Mo_joins_83 (fun H locs hP hD hS => ?_)
                          have hP : va_P G xk_cl [(mo, .inr (8, [.int th, .ref ms, .ref mk, .ref mv, .int (nI mm), .int (nI ml), .int (nI cnt), .ref mt, .int mp, .int mn, .int (nI mu), .ref ma, .int (nI at_), .int bd, .int le, .int ob, .ref m1, .ref m2, .ref m3, .ref m4, .int (nI rn), .int (nI pw), .ref mc])), (ms, .inl (cA 0, 720, .inl (upd sa b (nI 0)))), (mk, .inl (cA 0, 18720, .inl (ey_A kd b 26))), (mv, .inl (cA 0, 18720, .inl (upd (rv_A (ey_A kd b 26) (ey_A vl b 26) a b k) k (ey_A vl b 26 k))))] H := hP
                          have hD : va_D A [(mo, .inr (8, [.int th, .ref ms, .ref mk, .ref mv, .int (nI mm), .int (nI ml), .int (nI cnt), .ref mt, .int mp, .int mn, .int (nI mu), .ref ma, .int (nI at_), .int bd, .int le, .int ob, .ref m1, .ref m2, .ref m3, .ref m4, .int (nI rn), .int (nI pw), .ref mc])), (ms, .inl (cA 0, 720, .inl (upd sa b (nI 0)))), (mk, .inl (cA 0, 18720, .inl (ey_A kd b 26))), (mv, .inl (cA 0, 18720, .inl (upd (rv_A (ey_A kd b 26) (ey_A vl b 26) a b k) k (ey_A vl b 26 k))))] := hD
                          refine lv_iinc (v := nI (k + 1)) (lv' := [(3, .int (nI (k + 1))), (0, .ref mo), (1, .int (nI a)), (2, .int (nI b))]) hx hb xd_Mo_joins_84 hl (k := 3) rfl (nI_inc _) (by decide) rfl (fun ls hl => ?_)
                          refine lv_goto (tgt := 41) hx hb xd_Mo_joins_87 (by decide) ?_
                          have hP : va_P G xk_cl [(mo, .inr (8, [.int th, .ref ms, .ref mk, .ref mv, .int (nI mm), .int (nI ml), .int (nI cnt), .ref mt, .int mp, .int mn, .int (nI mu), .ref ma, .int (nI at_), .int bd, .int le, .int ob, .ref m1, .ref m2, .ref m3, .ref m4, .int (nI rn), .int (nI pw), .ref mc])), (ms, .inl (cA 0, 720, .inl (upd sa b (nI 0)))), (mk, .inl (cA 0, 18720, .inl (ey_A kd b 26))), (mv, .inl (cA 0, 18720, .inl (rv_A (ey_A kd b 26) (ey_A vl b 26) a b (k + 1))))] H := by rw [rv_s _ _ _ _ _ (by rw [if_neg q_y])]; exact hP
                          have hD : va_D A [(mo, .inr (8, [.int th, .ref ms, .ref mk, .ref mv, .int (nI mm), .int (nI ml), .int (nI cnt), .ref mt, .int mp, .int mn, .int (nI mu), .ref ma, .int (nI at_), .int bd, .int le, .int ob, .ref m1, .ref m2, .ref m3, .ref m4, .int (nI rn), .int (nI pw), .ref mc])), (ms, .inl (cA 0, 720, .inl (upd sa b (nI 0)))), (mk, .inl (cA 0, 18720, .inl (ey_A kd b 26))), (mv, .inl (cA 0, 18720, .inl (rv_A (ey_A kd b 26) (ey_A vl b 26) a b (k + 1))))] := by rw [rv_s _ _ _ _ _ (by rw [if_neg q_y])]; exact hD
                          exact ih_lr (k + 1) (by omega) (by omega) _ _ (hP.sub [0, 1, 2, 3] rfl) (hD.sub [0, 1, 2, 3] (by decide) rfl) hS ls (lv_sub hl [1, 2, 3, 0] rfl)
                        · have q_y : (ey_A kd b 26 k = nI 2 ∧ ey_A vl b 26 k = nI b) := ⟨q_y1, c_70_9⟩
                          refine lv_iload_n hx hb xd_Mo_joins_73 rfl (lv_at hl 1 rfl) ?_
                          refine lv_goto (tgt := 83) hx hb xd_Mo_joins_74 (by decide) ?_
                          refine wx_iast hx hb hK.1 hP hD hS 3 0 rfl rfl (k := k) (z := nI a) (rfl) (by omega) (by decide) xd_Mo_joins_83 (fun H locs hP hD hS => ?_)
                          have hP : va_P G xk_cl [(mo, .inr (8, [.int th, .ref ms, .ref mk, .ref mv, .int (nI mm), .int (nI ml), .int (nI cnt), .ref mt, .int mp, .int mn, .int (nI mu), .ref ma, .int (nI at_), .int bd, .int le, .int ob, .ref m1, .ref m2, .ref m3, .ref m4, .int (nI rn), .int (nI pw), .ref mc])), (ms, .inl (cA 0, 720, .inl (upd sa b (nI 0)))), (mk, .inl (cA 0, 18720, .inl (ey_A kd b 26))), (mv, .inl (cA 0, 18720, .inl (upd (rv_A (ey_A kd b 26) (ey_A vl b 26) a b k) k (nI a))))] H := hP
                          have hD : va_D A [(mo, .inr (8, [.int th, .ref ms, .ref mk, .ref mv, .int (nI mm), .int (nI ml), .int (nI cnt), .ref mt, .int mp, .int mn, .int (nI mu), .ref ma, .int (nI at_), .int bd, .int le, .int ob, .ref m1, .ref m2, .ref m3, .ref m4, .int (nI rn), .int (nI pw), .ref mc])), (ms, .inl (cA 0, 720, .inl (upd sa b (nI 0)))), (mk, .inl (cA 0, 18720, .inl (ey_A kd b 26))), (mv, .inl (cA 0, 18720, .inl (upd (rv_A (ey_A kd b 26) (ey_A vl b 26) a b k) k (nI a))))] := hD
                          refine lv_iinc (v := nI (k + 1)) (lv' := [(3, .int (nI (k + 1))), (0, .ref mo), (1, .int (nI a)), (2, .int (nI b))]) hx hb xd_Mo_joins_84 hl (k := 3) rfl (nI_inc _) (by decide) rfl (fun ls hl => ?_)
                          refine lv_goto (tgt := 41) hx hb xd_Mo_joins_87 (by decide) ?_
                          have hP : va_P G xk_cl [(mo, .inr (8, [.int th, .ref ms, .ref mk, .ref mv, .int (nI mm), .int (nI ml), .int (nI cnt), .ref mt, .int mp, .int mn, .int (nI mu), .ref ma, .int (nI at_), .int bd, .int le, .int ob, .ref m1, .ref m2, .ref m3, .ref m4, .int (nI rn), .int (nI pw), .ref mc])), (ms, .inl (cA 0, 720, .inl (upd sa b (nI 0)))), (mk, .inl (cA 0, 18720, .inl (ey_A kd b 26))), (mv, .inl (cA 0, 18720, .inl (rv_A (ey_A kd b 26) (ey_A vl b 26) a b (k + 1))))] H := by rw [rv_s _ _ _ _ _ (by rw [if_pos q_y])]; exact hP
                          have hD : va_D A [(mo, .inr (8, [.int th, .ref ms, .ref mk, .ref mv, .int (nI mm), .int (nI ml), .int (nI cnt), .ref mt, .int mp, .int mn, .int (nI mu), .ref ma, .int (nI at_), .int bd, .int le, .int ob, .ref m1, .ref m2, .ref m3, .ref m4, .int (nI rn), .int (nI pw), .ref mc])), (ms, .inl (cA 0, 720, .inl (upd sa b (nI 0)))), (mk, .inl (cA 0, 18720, .inl (ey_A kd b 26))), (mv, .inl (cA 0, 18720, .inl (rv_A (ey_A kd b 26) (ey_A vl b 26) a b (k + 1))))] := by rw [rv_s _ _ _ _ _ (by rw [if_pos q_y])]; exact hD
                          exact ih_lr (k + 1) (by omega) (by omega) _ _ (hP.sub [0, 1, 2, 3] rfl) (hD.sub [0, 1, 2, 3] (by decide) rfl) hS ls (lv_sub hl [1, 2, 3, 0] rfl)
                exact lr ((1040 - 0) + 1) 0 (by omega) (Nat.lt_succ_self _) _ _ (hP.sub [1, 0, 2, 3] rfl) (hD.sub [1, 0, 2, 3] (by decide) rfl) hS ls (lv_sub hl [1, 2, 3, 0] rfl)
        exact lq ((40 - (a + 1)) + 1) (a + 1) (by omega) (by omega) (jn_ext hj (fun k h1 h2 => jn_f (i := a) (j := k % 40) (by omega) (by omega) (Or.inl (by omega)))) (Nat.lt_succ_self _) _ _ (hP.sub [0, 1, 2, 3] rfl) (hD.sub [0, 1, 2, 3] (by decide) rfl) hS ls (lv_sub hl [1, 2, 0] rfl)
  exact lp ((40 - 1) + 1) 1 (by decide) (by decide) (fun k hk => jn_f (i := 0) (j := k) (by omega) (by omega) (Or.inr (Or.inl rfl))) (Nat.lt_succ_self _) _ _ (hP.sub [0, 1, 2, 3] rfl) (hD.sub [0, 1, 2, 3] (by decide) rfl) hS ls (lv_sub hl [1, 0] rfl)
set_option maxHeartbeats 4000000 in
set_option maxRecDepth 100000 in
theorem ct_Mo_join (l : Launch) (G : va_G) (cA : Nat → ClassId) (sz : Nat) (mo : Nat) (th : Int32) (ms : Nat) (mk : Nat) (mv : Nat) (mm : Nat) (ml : Nat) (cnt : Nat) (mt : Nat) (mp : Int32) (mn : Int32) (mu : Nat) (ma : Nat) (at_ : Nat) (bd : Int32) (le : Int32) (ob : Int32) (m1 : Nat) (m2 : Nat) (m3 : Nat) (m4 : Nat) (rn : Nat) (pw : Nat) (mc : Nat) (sa : Nat → Int32) (kd : Nat → Int32) (vl : Nat → Int32) (st : Nat → Int32) (ce : Nat → Int32) (hR : sn_R sa kd vl st ce) (hso : st_O st) (hlm : ml < 16) (hmm : mm ≤ 16) (uf : Nat → Nat) : Met l xy_Mo_join (.code xy_Mo_join xb_Mo_join 2 (some .int) :: tw_W) ({ frames := 2, cells := 0, slots := 0, locals := 50 }) (pc_w G cA [(mo, .inr (8, [.int th, .ref ms, .ref mk, .ref mv, .int (nI mm), .int (nI ml), .int (nI cnt), .ref mt, .int mp, .int mn, .int (nI mu), .ref ma, .int (nI at_), .int bd, .int le, .int ob, .ref m1, .ref m2, .ref m3, .ref m4, .int (nI rn), .int (nI pw), .ref mc])), (ms, .inl (cA 0, 720, .inl sa)), (mk, .inl (cA 0, 18720, .inl kd)), (mv, .inl (cA 0, 18720, .inl vl)), (ma, .inl (cA 0, 40, .inl (tx_A uf)))] sz [.ref mo]) (va_Qi (fun (r : Int32) (u9 : Nat × Nat × Nat × (Nat → Nat) × (Nat → Int32) × (Nat → Int32) × (Nat → Int32)) => match u9 with | (mm2, ml2, mu2, uf2, sa2, kd2, vl2) => r = nI (jc_F st ce 40 0) ∧ mj_Q (js_F st ce (jc_F st ce 40 0)).1 (js_F st ce (jc_F st ce 40 0)).2 st ce sa kd vl mm ml sa2 kd2 vl2 mm2 ml2 mu2) (fun u9 T9 => match u9 with | (mm2, ml2, mu2, uf2, sa2, kd2, vl2) => at_w G (va_A [(mo, .inr (8, [.int th, .ref ms, .ref mk, .ref mv, .int (nI mm), .int (nI ml), .int (nI cnt), .ref mt, .int mp, .int mn, .int (nI mu), .ref ma, .int (nI at_), .int bd, .int le, .int ob, .ref m1, .ref m2, .ref m3, .ref m4, .int (nI rn), .int (nI pw), .ref mc])), (ms, .inl (cA 0, 720, .inl sa)), (mk, .inl (cA 0, 18720, .inl kd)), (mv, .inl (cA 0, 18720, .inl vl)), (ma, .inl (cA 0, 40, .inl (tx_A uf)))] sz) [(mo, .inr (8, [.int (nI 0), .ref ms, .ref mk, .ref mv, .int (nI mm2), .int (nI ml2), .int (nI cnt), .ref mt, .int mp, .int mn, .int (nI mu2), .ref ma, .int (nI at_), .int bd, .int le, .int ob, .ref m1, .ref m2, .ref m3, .ref m4, .int (nI rn), .int (nI pw), .ref mc])), (ms, .inl (cA 0, 720, .inl sa2)), (mk, .inl (cA 0, 18720, .inl kd2)), (mv, .inl (cA 0, 18720, .inl vl2)), (ma, .inl (cA 0, 40, .inl (tx_A uf2)))] T9) (va_A [(mo, .inr (8, [.int th, .ref ms, .ref mk, .ref mv, .int (nI mm), .int (nI ml), .int (nI cnt), .ref mt, .int mp, .int mn, .int (nI mu), .ref ma, .int (nI at_), .int bd, .int le, .int ob, .ref m1, .ref m2, .ref m3, .ref m4, .int (nI rn), .int (nI pw), .ref mc])), (ms, .inl (cA 0, 720, .inl sa)), (mk, .inl (cA 0, 18720, .inl kd)), (mv, .inl (cA 0, 18720, .inl vl)), (ma, .inl (cA 0, 40, .inl (tx_A uf)))] sz)) 0 0 (va_A [(mo, .inr (8, [.int th, .ref ms, .ref mk, .ref mv, .int (nI mm), .int (nI ml), .int (nI cnt), .ref mt, .int mp, .int mn, .int (nI mu), .ref ma, .int (nI at_), .int bd, .int le, .int ob, .ref m1, .ref m2, .ref m3, .ref m4, .int (nI rn), .int (nI pw), .ref mc])), (ms, .inl (cA 0, 720, .inl sa)), (mk, .inl (cA 0, 18720, .inl kd)), (mv, .inl (cA 0, 18720, .inl vl)), (ma, .inl (cA 0, 40, .inl (tx_A uf)))] sz) := by
  refine Met.ofW (cc := xb_Mo_join) (maxL := 2) (ret := (some .int)) (by decide) rfl ?_
  intro p e s m args below meth c s₁ B hml hv
  obtain ⟨rfl, hsz, hK, hP, hD0⟩ := hv
  have hx := B.exec
  have hb := B.bytes
  have hr := B.returns
  have hts0 := atoms_spec (ws := .code xy_Mo_join xb_Mo_join 2 (some .int) :: tw_W) B.pre
  have hts : ∀ w9 ∈ tw_W, w9.before [.ref mo].toArray s = true := fun w9 h9 => hts0 w9 (List.mem_cons_of_mem _ h9)
  have hown : s.vm.findClass xc_Mo = some m.cls := findClass_of_methodNamed B.named
  have hlocks := B.notSynchronized
  subst hsz
  have hD := hD0.self (sz := s.heap.size)
  generalize hAe : va_A [(mo, .inr (8, [.int th, .ref ms, .ref mk, .ref mv, .int (nI mm), .int (nI ml), .int (nI cnt), .ref mt, .int mp, .int mn, .int (nI mu), .ref ma, .int (nI at_), .int bd, .int le, .int ob, .ref m1, .ref m2, .ref m3, .ref m4, .int (nI rn), .int (nI pw), .ref mc])), (ms, .inl (cA 0, 720, .inl sa)), (mk, .inl (cA 0, 18720, .inl kd)), (mv, .inl (cA 0, 18720, .inl vl)), (ma, .inl (cA 0, 40, .inl (tx_A uf)))] s.heap.size = A at hD ⊢
  have hA : ∀ q : Nat, s.heap.size ≤ q → A q := fun q h => by rw [← hAe]; exact Or.inr h
  have hS : va_S A s.heap s.heap [] := va_S.rf
  have hP : va_P G xk_cl [(mo, .inr (8, [.int th, .ref ms, .ref mk, .ref mv, .int (nI mm), .int (nI ml), .int (nI cnt), .ref mt, .int mp, .int mn, .int (nI mu), .ref ma, .int (nI at_), .int bd, .int le, .int ob, .ref m1, .ref m2, .ref m3, .ref m4, .int (nI rn), .int (nI pw), .ref mc])), (ms, .inl (cA 0, 720, .inl sa)), (mk, .inl (cA 0, 18720, .inl kd)), (mv, .inl (cA 0, 18720, .inl vl)), (ma, .inl (cA 0, 40, .inl (tx_A uf)))] s.heap := hP
  have hl := lv_entry ([.ref mo]) (n := 2) (Nat.le_of_ble_eq_true rfl)
  rw [lg_entry_eq]
  generalize (lg_sl ([.ref mo]) ++ List.replicate (2 - (lg_sl ([.ref mo])).length) Slot.unset).toArray = ls at hl ⊢
  have hl : lv_has ls 2 [(0, .ref mo)] := hl
  refine lv_aload_n hx hb xd_Mo_join_0 rfl (lv_at hl 0 rfl) ?_
  refine lv_iconst (v := nI 0) hx hb xd_Mo_join_1 (by decide) ?_
  refine va_put (D := G) (ci := 8) (v := .int (nI 0)) (ty := .int) (C := xc_Mo) (T := xf_Mo) (N := 23) hx hb hts xw_Mo xt_Mo xt_Mo_ok xn_Mo hown hK.1 hP hD hS 0 rfl rfl 0 (by decide) (hts _ xm_619) (fun _ h9 => h9) rfl (by decide +kernel) rfl rfl (Nat.le_of_ble_eq_true rfl) xd_Mo_join_2 (fun H locs hP hD hS => ?_)
  have hP : va_P G xk_cl [(mo, .inr (8, [.int (nI 0), .ref ms, .ref mk, .ref mv, .int (nI mm), .int (nI ml), .int (nI cnt), .ref mt, .int mp, .int mn, .int (nI mu), .ref ma, .int (nI at_), .int bd, .int le, .int ob, .ref m1, .ref m2, .ref m3, .ref m4, .int (nI rn), .int (nI pw), .ref mc])), (ms, .inl (cA 0, 720, .inl sa)), (mk, .inl (cA 0, 18720, .inl kd)), (mv, .inl (cA 0, 18720, .inl vl)), (ma, .inl (cA 0, 40, .inl (tx_A uf)))] H := hP
  have hD : va_D A [(mo, .inr (8, [.int (nI 0), .ref ms, .ref mk, .ref mv, .int (nI mm), .int (nI ml), .int (nI cnt), .ref mt, .int mp, .int mn, .int (nI mu), .ref ma, .int (nI at_), .int bd, .int le, .int ob, .ref m1, .ref m2, .ref m3, .ref m4, .int (nI rn), .int (nI pw), .ref mc])), (ms, .inl (cA 0, 720, .inl sa)), (mk, .inl (cA 0, 18720, .inl kd)), (mv, .inl (cA 0, 18720, .inl vl)), (ma, .inl (cA 0, 40, .inl (tx_A uf)))] := hD
  refine lv_aload_n hx hb xd_Mo_join_5 rfl (lv_at hl 0 rfl) ?_
  refine lv_iconst (v := nI 0) hx hb xd_Mo_join_6 (by decide) ?_
  refine lv_iconst (v := nI 1) hx hb xd_Mo_join_7 (by decide) ?_
  have hPc := hP.sub (ws' := [(mo, .inr (8, [.int (nI 0), .ref ms, .ref mk, .ref mv, .int (nI mm), .int (nI ml), .int (nI cnt), .ref mt, .int mp, .int mn, .int (nI mu), .ref ma, .int (nI at_), .int bd, .int le, .int ob, .ref m1, .ref m2, .ref m3, .ref m4, .int (nI rn), .int (nI pw), .ref mc])), (ms, .inl (cA 0, 720, .inl sa)), (mk, .inl (cA 0, 18720, .inl kd)), (mv, .inl (cA 0, 18720, .inl vl))]) [0, 1, 2, 3] rfl
  have hDc := hD.sub (ws' := [(mo, .inr (8, [.int (nI 0), .ref ms, .ref mk, .ref mv, .int (nI mm), .int (nI ml), .int (nI cnt), .ref mt, .int mp, .int mn, .int (nI mu), .ref ma, .int (nI at_), .int bd, .int le, .int ob, .ref m1, .ref m2, .ref m3, .ref m4, .int (nI rn), .int (nI pw), .ref mc])), (ms, .inl (cA 0, 720, .inl sa)), (mk, .inl (cA 0, 18720, .inl kd)), (mv, .inl (cA 0, 18720, .inl vl))]) [0, 1, 2, 3] (by decide) rfl
  have hFc := va_free (wc := [(mo, .inr (8, [.int (nI 0), .ref ms, .ref mk, .ref mv, .int (nI mm), .int (nI ml), .int (nI cnt), .ref mt, .int mp, .int mn, .int (nI mu), .ref ma, .int (nI at_), .int bd, .int le, .int ob, .ref m1, .ref m2, .ref m3, .ref m4, .int (nI rn), .int (nI pw), .ref mc])), (ms, .inl (cA 0, 720, .inl sa)), (mk, .inl (cA 0, 18720, .inl kd)), (mv, .inl (cA 0, 18720, .inl vl))]) hD hS hA [0, 1, 2, 3] rfl
  refine va_callv (va_runV (As := [.int (nI 0), .int (nI 1)]) (rest := []) ⟨hx, hb, hml, hown, hts⟩ (ct_Mo_copy l G cA H.size mo (nI 0) ms mk mv mm ml cnt mt mp mn mu ma at_ bd le ob m1 m2 m3 m4 rn pw mc sa kd vl 0 1 (by omega) (by omega) (by decide)) (cwV 2 hts (gi_v xm_704 xm_706 xs_Mo_copy xm_9 xm_707) rfl rfl rfl ⟨rfl, xh_Mo_copy⟩ ⟨Nat.le_of_ble_eq_true rfl, Nat.le_of_ble_eq_true rfl⟩) (pv_w hK hPc hDc (ci := 8) (q0 := 0) rfl rfl) rfl rfl hl.1 rfl (lv_room (Nat.le_of_ble_eq_true rfl)) xd_Mo_join_8 ⟨Nat.le_of_ble_eq_true rfl, Nat.le_of_ble_eq_true rfl⟩) hS (fun q _ h => hFc q h) hFc (fun u9 t9 H1 locs ht hvm q_2 hB hz1 hk1 hS => ?_)
  obtain ⟨hP1, hD1⟩ := hB
  rw [ht] at hP1
  obtain ⟨hP, hD⟩ := va_join (wr := [(ma, .inl (cA 0, 40, .inl (tx_A uf)))]) (w1 := [(mo, .inr (8, [.int (nI 0), .ref ms, .ref mk, .ref mv, .int (nI mm), .int (nI ml), .int (nI cnt), .ref mt, .int mp, .int mn, .int (nI mu), .ref ma, .int (nI at_), .int bd, .int le, .int ob, .ref m1, .ref m2, .ref m3, .ref m4, .int (nI rn), .int (nI pw), .ref mc])), (ms, .inl (cA 0, 720, .inl (cp_A 40 0 1 sa 40))), (mk, .inl (cA 0, 18720, .inl (cp_A 1040 0 1 kd 1040))), (mv, .inl (cA 0, 18720, .inl (cp_A 1040 0 1 vl 1040)))]) hP hD [0, 1, 2, 3] [4] rfl rfl (by decide) (by decide) hk1 hFc hP1 hD1
  generalize H1 = H at hP hS ⊢
  have hP : va_P G xk_cl [(ma, .inl (cA 0, 40, .inl (tx_A uf))), (mo, .inr (8, [.int (nI 0), .ref ms, .ref mk, .ref mv, .int (nI mm), .int (nI ml), .int (nI cnt), .ref mt, .int mp, .int mn, .int (nI mu), .ref ma, .int (nI at_), .int bd, .int le, .int ob, .ref m1, .ref m2, .ref m3, .ref m4, .int (nI rn), .int (nI pw), .ref mc])), (ms, .inl (cA 0, 720, .inl (cp_A 40 0 1 sa 40))), (mk, .inl (cA 0, 18720, .inl (cp_A 1040 0 1 kd 1040))), (mv, .inl (cA 0, 18720, .inl (cp_A 1040 0 1 vl 1040)))] H := hP
  have hD : va_D A [(ma, .inl (cA 0, 40, .inl (tx_A uf))), (mo, .inr (8, [.int (nI 0), .ref ms, .ref mk, .ref mv, .int (nI mm), .int (nI ml), .int (nI cnt), .ref mt, .int mp, .int mn, .int (nI mu), .ref ma, .int (nI at_), .int bd, .int le, .int ob, .ref m1, .ref m2, .ref m3, .ref m4, .int (nI rn), .int (nI pw), .ref mc])), (ms, .inl (cA 0, 720, .inl (cp_A 40 0 1 sa 40))), (mk, .inl (cA 0, 18720, .inl (cp_A 1040 0 1 kd 1040))), (mv, .inl (cA 0, 18720, .inl (cp_A 1040 0 1 vl 1040)))] := hD
  refine lv_aload_n hx hb xd_Mo_join_11 rfl (lv_at hl 0 rfl) ?_
  have hPc := hP.sub (ws' := [(mo, .inr (8, [.int (nI 0), .ref ms, .ref mk, .ref mv, .int (nI mm), .int (nI ml), .int (nI cnt), .ref mt, .int mp, .int mn, .int (nI mu), .ref ma, .int (nI at_), .int bd, .int le, .int ob, .ref m1, .ref m2, .ref m3, .ref m4, .int (nI rn), .int (nI pw), .ref mc])), (ms, .inl (cA 0, 720, .inl (cp_A 40 0 1 sa 40))), (mk, .inl (cA 0, 18720, .inl (cp_A 1040 0 1 kd 1040))), (mv, .inl (cA 0, 18720, .inl (cp_A 1040 0 1 vl 1040)))]) [1, 2, 3, 4] rfl
  have hDc := hD.sub (ws' := [(mo, .inr (8, [.int (nI 0), .ref ms, .ref mk, .ref mv, .int (nI mm), .int (nI ml), .int (nI cnt), .ref mt, .int mp, .int mn, .int (nI mu), .ref ma, .int (nI at_), .int bd, .int le, .int ob, .ref m1, .ref m2, .ref m3, .ref m4, .int (nI rn), .int (nI pw), .ref mc])), (ms, .inl (cA 0, 720, .inl (cp_A 40 0 1 sa 40))), (mk, .inl (cA 0, 18720, .inl (cp_A 1040 0 1 kd 1040))), (mv, .inl (cA 0, 18720, .inl (cp_A 1040 0 1 vl 1040)))]) [1, 2, 3, 4] (by decide) rfl
  have hFc := va_free (wc := [(mo, .inr (8, [.int (nI 0), .ref ms, .ref mk, .ref mv, .int (nI mm), .int (nI ml), .int (nI cnt), .ref mt, .int mp, .int mn, .int (nI mu), .ref ma, .int (nI at_), .int bd, .int le, .int ob, .ref m1, .ref m2, .ref m3, .ref m4, .int (nI rn), .int (nI pw), .ref mc])), (ms, .inl (cA 0, 720, .inl (cp_A 40 0 1 sa 40))), (mk, .inl (cA 0, 18720, .inl (cp_A 1040 0 1 kd 1040))), (mv, .inl (cA 0, 18720, .inl (cp_A 1040 0 1 vl 1040)))]) hD hS hA [1, 2, 3, 4] rfl
  refine va_callv (va_runV (As := []) (rest := []) ⟨hx, hb, hml, hown, hts⟩ (ct_Mo_keep l G cA H.size mo (nI 0) ms mk mv mm ml cnt mt mp mn mu ma at_ bd le ob m1 m2 m3 m4 rn pw mc (cp_A 40 0 1 sa 40) (cp_A 1040 0 1 kd 1040) (cp_A 1040 0 1 vl 1040) hlm hmm) (cwV 0 hts (gi_v xm_763 xm_765 xs_Mo_keep xm_9 xm_766) rfl rfl rfl ⟨rfl, xh_Mo_keep⟩ ⟨Nat.le_of_ble_eq_true rfl, Nat.le_of_ble_eq_true rfl⟩) (pv_w hK hPc hDc (ci := 8) (q0 := 0) rfl rfl) rfl rfl hl.1 rfl (lv_room (Nat.le_of_ble_eq_true rfl)) xd_Mo_join_12 ⟨Nat.le_of_ble_eq_true rfl, Nat.le_of_ble_eq_true rfl⟩) hS (fun q _ h => hFc q h) hFc (fun u9 t9 H1 locs ht hvm q_4 hB hz1 hk1 hS => ?_)
  obtain ⟨hP1, hD1⟩ := hB
  rw [ht] at hP1
  obtain ⟨hP, hD⟩ := va_join (wr := [(ma, .inl (cA 0, 40, .inl (tx_A uf)))]) (w1 := [(mo, .inr (8, [.int (nI 0), .ref ms, .ref mk, .ref mv, .int (nI (mm_N mm)), .int (nI ((ml + 1) % 16)), .int (nI cnt), .ref mt, .int mp, .int mn, .int (nI mu), .ref ma, .int (nI at_), .int bd, .int le, .int ob, .ref m1, .ref m2, .ref m3, .ref m4, .int (nI rn), .int (nI pw), .ref mc])), (ms, .inl (cA 0, 720, .inl (cp_A 40 1 (2 + (ml + 1) % 16) (cp_A 40 0 1 sa 40) 40))), (mk, .inl (cA 0, 18720, .inl (cp_A 1040 1 (2 + (ml + 1) % 16) (cp_A 1040 0 1 kd 1040) 1040))), (mv, .inl (cA 0, 18720, .inl (cp_A 1040 1 (2 + (ml + 1) % 16) (cp_A 1040 0 1 vl 1040) 1040)))]) hP hD [1, 2, 3, 4] [0] rfl rfl (by decide) (by decide) hk1 hFc hP1 hD1
  generalize H1 = H at hP hS ⊢
  have hP : va_P G xk_cl [(ma, .inl (cA 0, 40, .inl (tx_A uf))), (mo, .inr (8, [.int (nI 0), .ref ms, .ref mk, .ref mv, .int (nI (mm_N mm)), .int (nI ((ml + 1) % 16)), .int (nI cnt), .ref mt, .int mp, .int mn, .int (nI mu), .ref ma, .int (nI at_), .int bd, .int le, .int ob, .ref m1, .ref m2, .ref m3, .ref m4, .int (nI rn), .int (nI pw), .ref mc])), (ms, .inl (cA 0, 720, .inl (cp_A 40 1 (2 + (ml + 1) % 16) (cp_A 40 0 1 sa 40) 40))), (mk, .inl (cA 0, 18720, .inl (cp_A 1040 1 (2 + (ml + 1) % 16) (cp_A 1040 0 1 kd 1040) 1040))), (mv, .inl (cA 0, 18720, .inl (cp_A 1040 1 (2 + (ml + 1) % 16) (cp_A 1040 0 1 vl 1040) 1040)))] H := hP
  have hD : va_D A [(ma, .inl (cA 0, 40, .inl (tx_A uf))), (mo, .inr (8, [.int (nI 0), .ref ms, .ref mk, .ref mv, .int (nI (mm_N mm)), .int (nI ((ml + 1) % 16)), .int (nI cnt), .ref mt, .int mp, .int mn, .int (nI mu), .ref ma, .int (nI at_), .int bd, .int le, .int ob, .ref m1, .ref m2, .ref m3, .ref m4, .int (nI rn), .int (nI pw), .ref mc])), (ms, .inl (cA 0, 720, .inl (cp_A 40 1 (2 + (ml + 1) % 16) (cp_A 40 0 1 sa 40) 40))), (mk, .inl (cA 0, 18720, .inl (cp_A 1040 1 (2 + (ml + 1) % 16) (cp_A 1040 0 1 kd 1040) 1040))), (mv, .inl (cA 0, 18720, .inl (cp_A 1040 1 (2 + (ml + 1) % 16) (cp_A 1040 0 1 vl 1040) 1040)))] := hD
  have hR1 : sn_R (cp_A 40 1 (2 + (ml + 1) % 16) (cp_A 40 0 1 sa 40) 40) (cp_A 1040 1 (2 + (ml + 1) % 16) (cp_A 1040 0 1 kd 1040) 1040) (cp_A 1040 1 (2 + (ml + 1) % 16) (cp_A 1040 0 1 vl 1040) 1040) st ce := sn_cp (sn_c hR 1 (by decide)) (by omega)
  have hK1 : kp_M sa kd vl (cp_A 40 1 (2 + (ml + 1) % 16) (cp_A 40 0 1 sa 40) 40) (cp_A 1040 1 (2 + (ml + 1) % 16) (cp_A 1040 0 1 kd 1040) 1040) (cp_A 1040 1 (2 + (ml + 1) % 16) (cp_A 1040 0 1 vl 1040) 1040) (2 + (ml + 1) % 16) st ce := kp_c hR (bf_c sa kd vl)
  have h11 : sh_R (cp_A 40 1 (2 + (ml + 1) % 16) (cp_A 40 0 1 sa 40) 40) (cp_A 1040 1 (2 + (ml + 1) % 16) (cp_A 1040 0 1 kd 1040) 1040) (cp_A 1040 1 (2 + (ml + 1) % 16) (cp_A 1040 0 1 vl 1040) 1040) 1 st ce := sh_co (sh_1 hR (bf_c sa kd vl)) (by omega)
  refine lv_iconst (v := nI 0) hx hb xd_Mo_join_15 (by decide) ?_
  refine lv_istore_n (lv' := [(1, .int (nI 0)), (0, .ref mo)]) hx hb xd_Mo_join_16 rfl hl (by decide) rfl (fun ls hl => ?_)
  have lp : ∀ (k_lp : Nat) (i : Nat) (sa1 : Nat → Int32) (kd1 : Nat → Int32) (vl1 : Nat → Int32), (i ≤ 40) → (jc_F st ce 40 0 = jc_F st ce (40 - i) i) → (sn_R sa1 kd1 vl1 (js_F st ce i).1 (js_F st ce i).2) → (fr_H (cp_A 40 1 (2 + (ml + 1) % 16) (cp_A 40 0 1 sa 40) 40) (cp_A 1040 1 (2 + (ml + 1) % 16) (cp_A 1040 0 1 kd 1040) 1040) (cp_A 1040 1 (2 + (ml + 1) % 16) (cp_A 1040 0 1 vl 1040) 1040) sa1 kd1 vl1) → (ct_N (nz_B (js_F st ce i).1) 40 + i ≤ 40) → 40 - i < k_lp → ∀ (H : Heap) (locs : List Loc), va_P G xk_cl [(mo, .inr (8, [.int (nI 0), .ref ms, .ref mk, .ref mv, .int (nI (mm_N mm)), .int (nI ((ml + 1) % 16)), .int (nI cnt), .ref mt, .int mp, .int mn, .int (nI mu), .ref ma, .int (nI at_), .int bd, .int le, .int ob, .ref m1, .ref m2, .ref m3, .ref m4, .int (nI rn), .int (nI pw), .ref mc])), (ms, .inl (cA 0, 720, .inl sa1)), (mk, .inl (cA 0, 18720, .inl kd1)), (mv, .inl (cA 0, 18720, .inl vl1)), (ma, .inl (cA 0, 40, .inl (tx_A uf)))] H → va_D A [(mo, .inr (8, [.int (nI 0), .ref ms, .ref mk, .ref mv, .int (nI (mm_N mm)), .int (nI ((ml + 1) % 16)), .int (nI cnt), .ref mt, .int mp, .int mn, .int (nI mu), .ref ma, .int (nI at_), .int bd, .int le, .int ob, .ref m1, .ref m2, .ref m3, .ref m4, .int (nI rn), .int (nI pw), .ref mc])), (ms, .inl (cA 0, 720, .inl sa1)), (mk, .inl (cA 0, 18720, .inl kd1)), (mv, .inl (cA 0, 18720, .inl vl1)), (ma, .inl (cA 0, 40, .inl (tx_A uf)))] → va_S A s.heap H locs → ∀ (ls : Array Slot), lv_has ls 2 [(0, .ref mo), (1, .int (nI i))] → W p l e (headSpec (.code xy_Mo_join xb_Mo_join 2 (some .int) :: tw_W) ({ frames := 2, cells := 0, slots := 0, locals := 50 })).room s m ([.ref mo] : List Value).toArray below meth c H locs 0 0 (MQ below (va_Qi (fun (r : Int32) (u9 : Nat × Nat × Nat × (Nat → Nat) × (Nat → Int32) × (Nat → Int32) × (Nat → Int32)) => match u9 with | (mm2, ml2, mu2, uf2, sa2, kd2, vl2) => r = nI (jc_F st ce 40 0) ∧ mj_Q (js_F st ce (jc_F st ce 40 0)).1 (js_F st ce (jc_F st ce 40 0)).2 st ce sa kd vl mm ml sa2 kd2 vl2 mm2 ml2 mu2) (fun u9 T9 => match u9 with | (mm2, ml2, mu2, uf2, sa2, kd2, vl2) => at_w G A [(mo, .inr (8, [.int (nI 0), .ref ms, .ref mk, .ref mv, .int (nI mm2), .int (nI ml2), .int (nI cnt), .ref mt, .int mp, .int mn, .int (nI mu2), .ref ma, .int (nI at_), .int bd, .int le, .int ob, .ref m1, .ref m2, .ref m3, .ref m4, .int (nI rn), .int (nI pw), .ref mc])), (ms, .inl (cA 0, 720, .inl sa2)), (mk, .inl (cA 0, 18720, .inl kd2)), (mv, .inl (cA 0, 18720, .inl vl2)), (ma, .inl (cA 0, 40, .inl (tx_A uf2)))] T9) A) ([.ref mo] : List Value).toArray s 0 0 A) (F0 m 17 ls []) := by
    intro k_lp
    induction k_lp with
    | zero =>
      intro i sa1 kd1 vl1 hi_ hj hRi hFi hct hk_lp
      exact absurd hk_lp (Nat.not_lt_zero _)
    | succ k_lp ih_lp =>
      intro i sa1 kd1 vl1 hi_ hj hRi hFi hct hk_lp H locs hP hD hS ls hl
      refine lv_aload_n hx hb xd_Mo_join_17 rfl (lv_at hl 0 rfl) ?_
      have hPc := hP.sub (ws' := [(mo, .inr (8, [.int (nI 0), .ref ms, .ref mk, .ref mv, .int (nI (mm_N mm)), .int (nI ((ml + 1) % 16)), .int (nI cnt), .ref mt, .int mp, .int mn, .int (nI mu), .ref ma, .int (nI at_), .int bd, .int le, .int ob, .ref m1, .ref m2, .ref m3, .ref m4, .int (nI rn), .int (nI pw), .ref mc])), (ms, .inl (cA 0, 720, .inl sa1)), (mk, .inl (cA 0, 18720, .inl kd1)), (mv, .inl (cA 0, 18720, .inl vl1))]) [0, 1, 2, 3] rfl
      have hDc := hD.sub (ws' := [(mo, .inr (8, [.int (nI 0), .ref ms, .ref mk, .ref mv, .int (nI (mm_N mm)), .int (nI ((ml + 1) % 16)), .int (nI cnt), .ref mt, .int mp, .int mn, .int (nI mu), .ref ma, .int (nI at_), .int bd, .int le, .int ob, .ref m1, .ref m2, .ref m3, .ref m4, .int (nI rn), .int (nI pw), .ref mc])), (ms, .inl (cA 0, 720, .inl sa1)), (mk, .inl (cA 0, 18720, .inl kd1)), (mv, .inl (cA 0, 18720, .inl vl1))]) [0, 1, 2, 3] (by decide) rfl
      have hFc := va_free (wc := [(mo, .inr (8, [.int (nI 0), .ref ms, .ref mk, .ref mv, .int (nI (mm_N mm)), .int (nI ((ml + 1) % 16)), .int (nI cnt), .ref mt, .int mp, .int mn, .int (nI mu), .ref ma, .int (nI at_), .int bd, .int le, .int ob, .ref m1, .ref m2, .ref m3, .ref m4, .int (nI rn), .int (nI pw), .ref mc])), (ms, .inl (cA 0, 720, .inl sa1)), (mk, .inl (cA 0, 18720, .inl kd1)), (mv, .inl (cA 0, 18720, .inl vl1))]) hD hS hA [0, 1, 2, 3] rfl
      refine va_calli (va_runV (As := []) (rest := []) ⟨hx, hb, hml, hown, hts⟩ (ct_Mo_joins l G cA H.size mo (nI 0) ms mk mv (mm_N mm) ((ml + 1) % 16) cnt mt mp mn mu ma at_ bd le ob m1 m2 m3 m4 rn pw mc sa1 kd1 vl1 ((js_F st ce i).1) ((js_F st ce i).2) hRi (js_so hso i)) (cwV 0 hts (gi_v xm_807 xm_809 xs_Mo_joins xm_9 xm_810) rfl rfl rfl ⟨rfl, xh_Mo_joins⟩ ⟨Nat.le_of_ble_eq_true rfl, Nat.le_of_ble_eq_true rfl⟩) (pv_w hK hPc hDc (ci := 8) (q0 := 0) rfl rfl) rfl rfl hl.1 rfl (lv_room (Nat.le_of_ble_eq_true rfl)) xd_Mo_join_18 ⟨Nat.le_of_ble_eq_true rfl, Nat.le_of_ble_eq_true rfl⟩) hS (fun q _ h => hFc q h) hFc (fun r_5 u9 t9 H1 locs ht hvm q_6 hB hz1 hk1 hS => ?_)
      obtain ⟨u_sa2_7, u_kd2_8, u_vl2_9⟩ := u9
      try dsimp only at q_6 hB
      obtain ⟨hP1, hD1⟩ := hB
      rw [ht] at hP1
      obtain ⟨hP, hD⟩ := va_join (wr := [(ma, .inl (cA 0, 40, .inl (tx_A uf)))]) (w1 := [(mo, .inr (8, [.int (nI 0), .ref ms, .ref mk, .ref mv, .int (nI (mm_N mm)), .int (nI ((ml + 1) % 16)), .int (nI cnt), .ref mt, .int mp, .int mn, .int (nI mu), .ref ma, .int (nI at_), .int bd, .int le, .int ob, .ref m1, .ref m2, .ref m3, .ref m4, .int (nI rn), .int (nI pw), .ref mc])), (ms, .inl (cA 0, 720, .inl u_sa2_7)), (mk, .inl (cA 0, 18720, .inl u_kd2_8)), (mv, .inl (cA 0, 18720, .inl u_vl2_9))]) hP hD [0, 1, 2, 3] [4] rfl rfl (by decide) (by decide) hk1 hFc hP1 hD1
      generalize H1 = H at hP hS ⊢
      have hP : va_P G xk_cl [(ma, .inl (cA 0, 40, .inl (tx_A uf))), (mo, .inr (8, [.int (nI 0), .ref ms, .ref mk, .ref mv, .int (nI (mm_N mm)), .int (nI ((ml + 1) % 16)), .int (nI cnt), .ref mt, .int mp, .int mn, .int (nI mu), .ref ma, .int (nI at_), .int bd, .int le, .int ob, .ref m1, .ref m2, .ref m3, .ref m4, .int (nI rn), .int (nI pw), .ref mc])), (ms, .inl (cA 0, 720, .inl u_sa2_7)), (mk, .inl (cA 0, 18720, .inl u_kd2_8)), (mv, .inl (cA 0, 18720, .inl u_vl2_9))] H := hP
      have hD : va_D A [(ma, .inl (cA 0, 40, .inl (tx_A uf))), (mo, .inr (8, [.int (nI 0), .ref ms, .ref mk, .ref mv, .int (nI (mm_N mm)), .int (nI ((ml + 1) % 16)), .int (nI cnt), .ref mt, .int mp, .int mn, .int (nI mu), .ref ma, .int (nI at_), .int bd, .int le, .int ob, .ref m1, .ref m2, .ref m3, .ref m4, .int (nI rn), .int (nI pw), .ref mc])), (ms, .inl (cA 0, 720, .inl u_sa2_7)), (mk, .inl (cA 0, 18720, .inl u_kd2_8)), (mv, .inl (cA 0, 18720, .inl u_vl2_9))] := hD
      obtain ⟨hq_1, hq_2, hq_3⟩ := q_6
      refine lx_top (z := jn_r (js_F st ce i).1 (js_F st ce i).2) (hq_1) ?_
      refine lv_if_eq (tgt := 30) hx hb xd_Mo_join_21 (by decide) (fun c_21_9 => ?_) (fun c_21_9 => ?_)
      · have q_j := jr_z.mp c_21_9
        have e_c : jc_F st ce 40 0 = i := by rw [hj]; exact jc_z q_j
        rw [jn_st_n q_j, jn_ce_n q_j] at hq_2
        refine lv_aload_n hx hb xd_Mo_join_30 rfl (lv_at hl 0 rfl) ?_
        have hPc := hP.sub (ws' := [(mo, .inr (8, [.int (nI 0), .ref ms, .ref mk, .ref mv, .int (nI (mm_N mm)), .int (nI ((ml + 1) % 16)), .int (nI cnt), .ref mt, .int mp, .int mn, .int (nI mu), .ref ma, .int (nI at_), .int bd, .int le, .int ob, .ref m1, .ref m2, .ref m3, .ref m4, .int (nI rn), .int (nI pw), .ref mc])), (ms, .inl (cA 0, 720, .inl u_sa2_7)), (mk, .inl (cA 0, 18720, .inl u_kd2_8)), (mv, .inl (cA 0, 18720, .inl u_vl2_9)), (ma, .inl (cA 0, 40, .inl (tx_A uf)))]) [1, 2, 3, 4, 0] rfl
        have hDc := hD.sub (ws' := [(mo, .inr (8, [.int (nI 0), .ref ms, .ref mk, .ref mv, .int (nI (mm_N mm)), .int (nI ((ml + 1) % 16)), .int (nI cnt), .ref mt, .int mp, .int mn, .int (nI mu), .ref ma, .int (nI at_), .int bd, .int le, .int ob, .ref m1, .ref m2, .ref m3, .ref m4, .int (nI rn), .int (nI pw), .ref mc])), (ms, .inl (cA 0, 720, .inl u_sa2_7)), (mk, .inl (cA 0, 18720, .inl u_kd2_8)), (mv, .inl (cA 0, 18720, .inl u_vl2_9)), (ma, .inl (cA 0, 40, .inl (tx_A uf)))]) [1, 2, 3, 4, 0] (by decide) rfl
        have hFc := va_free (wc := [(mo, .inr (8, [.int (nI 0), .ref ms, .ref mk, .ref mv, .int (nI (mm_N mm)), .int (nI ((ml + 1) % 16)), .int (nI cnt), .ref mt, .int mp, .int mn, .int (nI mu), .ref ma, .int (nI at_), .int bd, .int le, .int ob, .ref m1, .ref m2, .ref m3, .ref m4, .int (nI rn), .int (nI pw), .ref mc])), (ms, .inl (cA 0, 720, .inl u_sa2_7)), (mk, .inl (cA 0, 18720, .inl u_kd2_8)), (mv, .inl (cA 0, 18720, .inl u_vl2_9)), (ma, .inl (cA 0, 40, .inl (tx_A uf)))]) hD hS hA [1, 2, 3, 4, 0] rfl
        refine va_calli (va_runV (As := []) (rest := []) ⟨hx, hb, hml, hown, hts⟩ (ct_Mo_noteUnlike l G cA H.size mo (nI 0) ms mk mv (mm_N mm) ((ml + 1) % 16) cnt mt mp mn mu ma at_ bd le ob m1 m2 m3 m4 rn pw mc u_sa2_7 u_kd2_8 u_vl2_9 uf) (cwV 0 hts (gi_v xm_767 xm_769 xs_Mo_noteUnlike xm_9 xm_770) rfl rfl rfl ⟨rfl, xh_Mo_noteUnlike⟩ ⟨Nat.le_of_ble_eq_true rfl, Nat.le_of_ble_eq_true rfl⟩) (pv_w hK hPc hDc (ci := 8) (q0 := 0) rfl rfl) rfl rfl hl.1 rfl (lv_room (Nat.le_of_ble_eq_true rfl)) xd_Mo_join_31 ⟨Nat.le_of_ble_eq_true rfl, Nat.le_of_ble_eq_true rfl⟩) hS (fun q _ h => hFc q h) hFc (fun r_11 u9 t9 H1 locs ht hvm q_12 hB hz1 hk1 hS => ?_)
        obtain ⟨hP1, hD1⟩ := hB
        rw [ht] at hP1
        obtain ⟨hP, hD⟩ := va_join (wr := []) (w1 := [(mo, .inr (8, [.int (nI 0), .ref ms, .ref mk, .ref mv, .int (nI (mm_N mm)), .int (nI ((ml + 1) % 16)), .int (nI cnt), .ref mt, .int mp, .int mn, .int (nI (ct_N (mu_B u_sa2_7 u_kd2_8 u_vl2_9 1) 40)), .ref ma, .int (nI at_), .int bd, .int le, .int ob, .ref m1, .ref m2, .ref m3, .ref m4, .int (nI rn), .int (nI pw), .ref mc])), (ms, .inl (cA 0, 720, .inl u_sa2_7)), (mk, .inl (cA 0, 18720, .inl u_kd2_8)), (mv, .inl (cA 0, 18720, .inl u_vl2_9)), (ma, .inl (cA 0, 40, .inl (tx_A (ul_F (mu_B u_sa2_7 u_kd2_8 u_vl2_9 1) uf 40))))]) hP hD [1, 2, 3, 4, 0] [] rfl rfl (by decide) (by decide) hk1 hFc hP1 hD1
        generalize H1 = H at hP hS ⊢
        have hP : va_P G xk_cl [(mo, .inr (8, [.int (nI 0), .ref ms, .ref mk, .ref mv, .int (nI (mm_N mm)), .int (nI ((ml + 1) % 16)), .int (nI cnt), .ref mt, .int mp, .int mn, .int (nI (ct_N (mu_B u_sa2_7 u_kd2_8 u_vl2_9 1) 40)), .ref ma, .int (nI at_), .int bd, .int le, .int ob, .ref m1, .ref m2, .ref m3, .ref m4, .int (nI rn), .int (nI pw), .ref mc])), (ms, .inl (cA 0, 720, .inl u_sa2_7)), (mk, .inl (cA 0, 18720, .inl u_kd2_8)), (mv, .inl (cA 0, 18720, .inl u_vl2_9)), (ma, .inl (cA 0, 40, .inl (tx_A (ul_F (mu_B u_sa2_7 u_kd2_8 u_vl2_9 1) uf 40))))] H := hP
        have hD : va_D A [(mo, .inr (8, [.int (nI 0), .ref ms, .ref mk, .ref mv, .int (nI (mm_N mm)), .int (nI ((ml + 1) % 16)), .int (nI cnt), .ref mt, .int mp, .int mn, .int (nI (ct_N (mu_B u_sa2_7 u_kd2_8 u_vl2_9 1) 40)), .ref ma, .int (nI at_), .int bd, .int le, .int ob, .ref m1, .ref m2, .ref m3, .ref m4, .int (nI rn), .int (nI pw), .ref mc])), (ms, .inl (cA 0, 720, .inl u_sa2_7)), (mk, .inl (cA 0, 18720, .inl u_kd2_8)), (mv, .inl (cA 0, 18720, .inl u_vl2_9)), (ma, .inl (cA 0, 40, .inl (tx_A (ul_F (mu_B u_sa2_7 u_kd2_8 u_vl2_9 1) uf 40))))] := hD
        refine lx_top (z := nI (ct_N (mu_B u_sa2_7 u_kd2_8 u_vl2_9 1) 40)) (q_12) ?_
        refine lv_pop hx hb xd_Mo_join_34 rfl ?_
        refine lv_iload_n hx hb xd_Mo_join_35 rfl (lv_at hl 1 rfl) ?_
        have hP9 : va_P G xk_cl [(mo, .inr (8, [.int (nI 0), .ref ms, .ref mk, .ref mv, .int (nI (mm_N mm)), .int (nI ((ml + 1) % 16)), .int (nI cnt), .ref mt, .int mp, .int mn, .int (nI (ct_N (mu_B u_sa2_7 u_kd2_8 u_vl2_9 1) 40)), .ref ma, .int (nI at_), .int bd, .int le, .int ob, .ref m1, .ref m2, .ref m3, .ref m4, .int (nI rn), .int (nI pw), .ref mc])), (ms, .inl (cA 0, 720, .inl u_sa2_7)), (mk, .inl (cA 0, 18720, .inl u_kd2_8)), (mv, .inl (cA 0, 18720, .inl u_vl2_9)), (ma, .inl (cA 0, 40, .inl (tx_A (ul_F (mu_B u_sa2_7 u_kd2_8 u_vl2_9 1) uf 40))))] _ := hP.sub [0, 1, 2, 3, 4] rfl
        have hD9 : va_D A [(mo, .inr (8, [.int (nI 0), .ref ms, .ref mk, .ref mv, .int (nI (mm_N mm)), .int (nI ((ml + 1) % 16)), .int (nI cnt), .ref mt, .int mp, .int mn, .int (nI (ct_N (mu_B u_sa2_7 u_kd2_8 u_vl2_9 1) 40)), .ref ma, .int (nI at_), .int bd, .int le, .int ob, .ref m1, .ref m2, .ref m3, .ref m4, .int (nI rn), .int (nI pw), .ref mc])), (ms, .inl (cA 0, 720, .inl u_sa2_7)), (mk, .inl (cA 0, 18720, .inl u_kd2_8)), (mv, .inl (cA 0, 18720, .inl u_vl2_9)), (ma, .inl (cA 0, 40, .inl (tx_A (ul_F (mu_B u_sa2_7 u_kd2_8 u_vl2_9 1) uf 40))))] := hD.sub [0, 1, 2, 3, 4] (by decide) rfl
        exact W.iret (v := nI i) hx hb hr (fun T9 ht hW => ⟨⟨_, (mm_N mm, (ml + 1) % 16, ct_N (mu_B u_sa2_7 u_kd2_8 u_vl2_9 1) 40, ul_F (mu_B u_sa2_7 u_kd2_8 u_vl2_9 1) uf 40, u_sa2_7, u_kd2_8, u_vl2_9), rfl, ⟨by rw [e_c], by rw [e_c]; exact ⟨ct_N_le _ _, hq_2, kp_f hK1 (fr_t hFi hq_3) (by omega), rfl, rfl⟩⟩, by rw [ht]; exact hP9, hD9⟩, hS.F ht⟩) hS.2.2 xd_Mo_join_36
      · have q_j : ¬ jn_S (js_F st ce i).1 (js_F st ce i).2 = none := fun z => c_21_9 (jr_z.mpr z)
        have q_ct := jn_ct q_j
        refine lv_iinc (v := nI (i + 1)) (lv' := [(1, .int (nI (i + 1))), (0, .ref mo)]) hx hb xd_Mo_join_24 hl (k := 1) rfl (nI_inc _) (by decide) rfl (fun ls hl => ?_)
        refine lv_goto (tgt := 17) hx hb xd_Mo_join_27 (by decide) ?_
        exact ih_lp (i + 1) u_sa2_7 u_kd2_8 u_vl2_9 (by omega) (by rw [hj, show 40 - i = (40 - (i + 1)) + 1 by omega, jc_s q_j]) hq_2 (fr_t hFi hq_3) (by show ct_N (nz_B (jn_st (js_F st ce i).1 (js_F st ce i).2)) 40 + (i + 1) ≤ 40; omega) (by omega) _ _ (hP.sub [1, 2, 3, 4, 0] rfl) (hD.sub [1, 2, 3, 4, 0] (by decide) rfl) hS ls (lv_sub hl [1, 0] rfl)
  exact lp ((40 - 0) + 1) 0 (cp_A 40 1 (2 + (ml + 1) % 16) (cp_A 40 0 1 sa 40) 40) (cp_A 1040 1 (2 + (ml + 1) % 16) (cp_A 1040 0 1 kd 1040) 1040) (cp_A 1040 1 (2 + (ml + 1) % 16) (cp_A 1040 0 1 vl 1040) 1040) (by omega) rfl hR1 (fr_r _ _ _) (ct_N_le _ _) (Nat.lt_succ_self _) _ _ (hP.sub [1, 2, 3, 4, 0] rfl) (hD.sub [1, 2, 3, 4, 0] (by decide) rfl) hS ls (lv_sub hl [1, 0] rfl)
