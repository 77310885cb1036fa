def sn_R (sa kd vl st ce : Nat → Int32) : Prop := (∀ n, n < 40 → sa n = st n) ∧ ∀ j, j < 1040 → kd j = en_K (ce j) ∧ vl j = en_V (ce j)
def fr_H (sa kd vl sa2 kd2 vl2 : Nat → Int32) : Prop := (∀ j, 40 ≤ j → sa2 j = sa j) ∧ ∀ j, 1040 ≤ j → kd2 j = kd j ∧ vl2 j = vl j
theorem fr_r (sa kd vl : Nat → Int32) : fr_H sa kd vl sa kd vl := ⟨fun _ _ => rfl, fun _ _ => ⟨rfl, rfl⟩⟩
theorem fr_t {sa kd vl sa2 kd2 vl2 sa3 kd3 vl3 : Nat → Int32} (h : fr_H sa kd vl sa2 kd2 vl2) (g : fr_H sa2 kd2 vl2 sa3 kd3 vl3) : fr_H sa kd vl sa3 kd3 vl3 :=
  ⟨fun j hj => (g.1 j hj).trans (h.1 j hj), fun j hj => ⟨(g.2 j hj).1.trans (h.2 j hj).1, (g.2 j hj).2.trans (h.2 j hj).2⟩⟩
theorem fr_s (sa kd vl : Nat → Int32) {n : Nat} (x : Int32) (hn : n < 40) : fr_H sa kd vl (upd sa n x) kd vl := ⟨fun j hj => pk_un (by omega), fun _ _ => ⟨rfl, rfl⟩⟩
theorem fr_k (sa kd vl : Nat → Int32) {p : Nat} (x y : Int32) (hp : p < 1040) : fr_H sa kd vl sa (upd kd p x) (upd vl p y) := ⟨fun _ _ => rfl, fun j hj => ⟨pk_un (by omega), pk_un (by omega)⟩⟩
theorem fr_e (sa kd vl : Nat → Int32) {n : Nat} (hn : n < 40) : fr_H sa kd vl sa (ey_A kd n 26) (ey_A vl n 26) := ⟨fun _ _ => rfl, fun j hj => ⟨if_neg (by omega), if_neg (by omega)⟩⟩
theorem sn_s {sa kd vl st ce : Nat → Int32} (h : sn_R sa kd vl st ce) (n : Nat) (x : Int32) : sn_R (upd sa n x) kd vl (upd st n x) ce := ⟨fun j hj => by
  by_cases e : j = n
  · rw [e, pk_us, pk_us]
  · rw [pk_un e, pk_un e]; exact h.1 j hj, h.2⟩
theorem sn_e {sa kd vl st ce : Nat → Int32} (h : sn_R sa kd vl st ce) (n : Nat) : sn_R sa (ey_A kd n 26) (ey_A vl n 26) st (sp_cl ce n 26) := ⟨h.1, fun j hj => by
  unfold ey_A sp_cl
  by_cases e : 26 * n ≤ j ∧ j < 26 * n + 26
  · rw [if_pos e, if_pos e, if_pos (by omega)]; exact ⟨by decide, by decide⟩
  · rw [if_neg e, if_neg e, if_neg (by omega)]; exact h.2 j hj⟩
theorem sn_k {sa kd vl st ce : Nat → Int32} (h : sn_R sa kd vl st ce) (p : Nat) {a b x : Int32} (ha : a = en_K x) (hb : b = en_V x) : sn_R sa (upd kd p a) (upd vl p b) st (upd ce p x) := ⟨h.1, fun j hj => by
  by_cases e : j = p
  · rw [e, pk_us, pk_us, pk_us]; exact ⟨ha, hb⟩
  · rw [pk_un e, pk_un e, pk_un e]; exact h.2 j hj⟩
def fq_R (o : Option Nat) (k : Nat) : Int32 := match o with
  | none => -1
  | some n => nI (26 * n + k)
theorem wn_65 : ∀ n, n < 100 → (wn_R (nI 65) (nI n) (nI 0) (nI 0) = 0 ↔ n < 40) := by decide +kernel
theorem wn_71 : ∀ n, n < 100 → (wn_R (nI 71) (nI n) (nI 0) (nI 0) = 0 ↔ n < 40) := by decide +kernel
theorem wn_82 : ∀ n, n < 100 → (wn_R (nI 82) (nI n) (nI 0) (nI 0) = 0 ↔ (n < 40 ∧ ¬ n = 0)) := by decide +kernel
def do_Q (E : ex_T) (sa kd vl : Nat → Int32) (r : Int32) (sa2 kd2 vl2 : Nat → Int32) : Prop := r = E.1 ∧ sn_R sa2 kd2 vl2 E.2.1 E.2.2 ∧ fr_H sa kd vl sa2 kd2 vl2
set_option maxHeartbeats 4000000 in
set_option maxRecDepth 100000 in
theorem ct_Mo_follow (l : Launch) (G : va_G) (cA : Nat → ClassId) (mo : Nat) (th : Int32) (ms : Nat) (mk : Nat) (mv : Nat) (mm : Nat) (ml : Nat) (cnt : Nat) (mt : Nat) (mp : Int32) (mn : Int32) (mu : Nat) (ma : Nat) (at_ : Nat) (le : Int32) (ob : Int32) (m1 : Nat) (m2 : Nat) (m3 : Nat) (m4 : Nat) (rn : Nat) (pw : Nat) (mc : Nat) (b : Nat) (tn : Nat → Nat) (hc : cnt ≤ 300) (ha : at_ ≤ 301) (hv : ∀ j, tn j < 128) (hb9 : b ≤ 1) (sa : Nat → Int32) (kd : Nat → Int32) (vl : Nat → Int32) (st : Nat → Int32) (ce : Nat → Int32) (pa : Nat → Nat) (ps : Nat → Nat) (w : Nat) (hw : w < 2) (hR : sn_R sa kd vl st ce) (hO : wv_O ce) (h0 : 0 < ps w) (h8 : ps w ≤ 8) (hlt : ∀ i, i < ps w → lt_P tn cnt (pa w + i)) : Met l xy_Mo_follow (.code xy_Mo_follow xb_Mo_follow 5 (some .int) :: tw_W) ({ frames := 0, cells := 0, slots := 0, locals := 0 }) (pc_r G cA [(mo, .inr (8, [.int th, .ref ms, .ref mk, .ref mv, .int (nI mm), .int (nI ml), .int (nI cnt), .ref mt, .int mp, .int mn, .int (nI mu), .ref ma, .int (nI at_), .int (nI b), .int le, .int ob, .ref m1, .ref m2, .ref m3, .ref m4, .int (nI rn), .int (nI pw), .ref mc])), (ms, .inl (cA 0, 720, .inl sa)), (mk, .inl (cA 0, 18720, .inl kd)), (mv, .inl (cA 0, 18720, .inl vl)), (mt, .inl (cA 0, 300, .inl (tx_A tn))), (m1, .inl (cA 0, 2, .inl (tx_A pa))), (m2, .inl (cA 0, 2, .inl (tx_A ps)))] [.ref mo, .int (nI w)]) (vp_Si (fun r : Int32 => r = fq_R (fo_F st ce (pk_t tn (pa w)) (ps w - 1)) (pk_t tn (pa w) (ps w - 1)))) 0 0 (fun _ => False) := by
  refine Met.ofW (cc := xb_Mo_follow) (maxL := 5) (ret := (some .int)) (by decide) rfl ?_
  intro p e s m args below meth c s₁ B hml hv
  obtain ⟨rfl, hK, hP⟩ := hv
  have hx := B.exec
  have hb := B.bytes
  have hr := B.returns
  have hts0 := atoms_spec (ws := .code xy_Mo_follow xb_Mo_follow 5 (some .int) :: tw_W) B.pre
  have hts : ∀ w9 ∈ tw_W, w9.before [.ref mo, .int (nI w)].toArray s = true := fun w9 h9 => hts0 w9 (List.mem_cons_of_mem _ h9)
  have hown : s.vm.findClass xc_Mo = some m.cls := findClass_of_methodNamed B.named
  have hlocks := B.notSynchronized
  have hP : va_P G xk_cl [(mo, .inr (8, [.int th, .ref ms, .ref mk, .ref mv, .int (nI mm), .int (nI ml), .int (nI cnt), .ref mt, .int mp, .int mn, .int (nI mu), .ref ma, .int (nI at_), .int (nI b), .int le, .int ob, .ref m1, .ref m2, .ref m3, .ref m4, .int (nI rn), .int (nI pw), .ref mc])), (ms, .inl (cA 0, 720, .inl sa)), (mk, .inl (cA 0, 18720, .inl kd)), (mv, .inl (cA 0, 18720, .inl vl)), (mt, .inl (cA 0, 300, .inl (tx_A tn))), (m1, .inl (cA 0, 2, .inl (tx_A pa))), (m2, .inl (cA 0, 2, .inl (tx_A ps)))] s.heap := hP
  have hl := lv_entry ([.ref mo, .int (nI w)]) (n := 5) (Nat.le_of_ble_eq_true rfl)
  rw [lg_entry_eq]
  generalize (lg_sl ([.ref mo, .int (nI w)]) ++ List.replicate (5 - (lg_sl ([.ref mo, .int (nI w)])).length) Slot.unset).toArray = ls at hl ⊢
  have hl : lv_has ls 5 [(0, .ref mo), (1, .int (nI w))] := hl
  refine lv_iconst (v := nI 0) hx hb xd_Mo_follow_0 (by decide) ?_
  refine lv_istore_n (lv' := [(2, .int (nI 0)), (0, .ref mo), (1, .int (nI w))]) hx hb xd_Mo_follow_1 rfl hl (by decide) rfl (fun ls hl => ?_)
  refine lv_iconst (v := nI 0) hx hb xd_Mo_follow_2 (by decide) ?_
  refine lv_istore_n (lv' := [(3, .int (nI 0)), (2, .int (nI 0)), (0, .ref mo), (1, .int (nI w))]) hx hb xd_Mo_follow_3 rfl hl (by decide) rfl (fun ls hl => ?_)
  have hl : lv_has ls 5 [(3, .int (nI 0)), (2, .int (nI 0)), (0, .ref mo), (1, .int (nI w))] := by skip; exact hl
  have lp : ∀ (k_lp : Nat) (i : Nat) (n : Nat), (i ≤ ps w - 1) → (fo_F st ce (pk_t tn (pa w)) i = some n) → ps w - 1 - i < k_lp → ∀ (ls : Array Slot), lv_has ls 5 [(0, .ref mo), (1, .int (nI w)), (2, .int (nI n)), (3, .int (nI i))] → W p l e (headSpec (.code xy_Mo_follow xb_Mo_follow 5 (some .int) :: tw_W) ({ frames := 0, cells := 0, slots := 0, locals := 0 })).room s m ([.ref mo, .int (nI w)] : List Value).toArray below meth c s.heap [] 0 0 (MQ below (vp_Si (fun r : Int32 => r = fq_R (fo_F st ce (pk_t tn (pa w)) (ps w - 1)) (pk_t tn (pa w) (ps w - 1)))) ([.ref mo, .int (nI w)] : List Value).toArray s 0 0 (fun _ => False)) (F0 m 4 ls []) := by
    intro k_lp
    induction k_lp with
    | zero =>
      intro i n hi hf hk_lp
      exact absurd hk_lp (Nat.not_lt_zero _)
    | succ k_lp ih_lp =>
      intro i n hi hf hk_lp ls hl
      refine lv_iload_n hx hb xd_Mo_follow_4 rfl (lv_at hl 3 rfl) ?_
      have q_n := fo_F_l hO (fun j hj => by have := hlt j (by omega); unfold pk_t; omega) hf
      refine lv_aload_n hx hb xd_Mo_follow_5 rfl (lv_at hl 0 rfl) ?_
      refine va_get (D := G) (ci := 8) (v := .ref m2) (C := xc_Mo) (T := xf_Mo) (N := 23) hx hb hts xw_Mo hown hK.1 hP 0 rfl rfl 17 (by decide) (hts _ xm_636) (fun _ h9 => h9) rfl xd_Mo_follow_6 ?_
      refine lv_iload_n hx hb xd_Mo_follow_9 rfl (lv_at hl 1 rfl) ?_
      refine wx_iald hx hb hK.1 hP 6 0 rfl rfl (k := w) (by omega) (by decide) xd_Mo_follow_10 ?_
      refine lx_top (z := nI (ps w)) (rfl) ?_
      refine lv_iconst (v := nI 1) hx hb xd_Mo_follow_11 (by decide) ?_
      refine lx_isub (z := nI (ps w - 1)) hx hb xd_Mo_follow_12 (by rw [pk_sub (by omega)]) ?_
      refine lv_icmp_ge (tgt := 81) hx hb xd_Mo_follow_13 (by decide) (fun c_13_0 => ?_) (fun c_13_0 => ?_)
      · have e_i : i = ps w - 1 := Nat.le_antisymm hi (nI_gle (by omega) (by omega) c_13_0)
        have q_t := hlt (ps w - 1) (by omega)
        refine lv_bipush (v := nI 26) hx hb xd_Mo_follow_81 (by decide) ?_
        refine lv_iload_n hx hb xd_Mo_follow_83 rfl (lv_at hl 2 rfl) ?_
        refine lx_imul (z := nI (26 * n)) hx hb xd_Mo_follow_84 (pk_mul _ _) ?_
        refine lv_aload_n hx hb xd_Mo_follow_85 rfl (lv_at hl 0 rfl) ?_
        refine va_get (D := G) (ci := 8) (v := .ref mt) (C := xc_Mo) (T := xf_Mo) (N := 23) hx hb hts xw_Mo hown hK.1 hP 0 rfl rfl 7 (by decide) (hts _ xm_626) (fun _ h9 => h9) rfl xd_Mo_follow_86 ?_
        refine lv_aload_n hx hb xd_Mo_follow_89 rfl (lv_at hl 0 rfl) ?_
        refine va_get (D := G) (ci := 8) (v := .ref m1) (C := xc_Mo) (T := xf_Mo) (N := 23) hx hb hts xw_Mo hown hK.1 hP 0 rfl rfl 16 (by decide) (hts _ xm_635) (fun _ h9 => h9) rfl xd_Mo_follow_90 ?_
        refine lv_iload_n hx hb xd_Mo_follow_93 rfl (lv_at hl 1 rfl) ?_
        refine wx_iald hx hb hK.1 hP 5 0 rfl rfl (k := w) (by omega) (by decide) xd_Mo_follow_94 ?_
        refine lx_top (z := nI (pa w)) (rfl) ?_
        refine lv_aload_n hx hb xd_Mo_follow_95 rfl (lv_at hl 0 rfl) ?_
        refine va_get (D := G) (ci := 8) (v := .ref m2) (C := xc_Mo) (T := xf_Mo) (N := 23) hx hb hts xw_Mo hown hK.1 hP 0 rfl rfl 17 (by decide) (hts _ xm_636) (fun _ h9 => h9) rfl xd_Mo_follow_96 ?_
        refine lv_iload_n hx hb xd_Mo_follow_99 rfl (lv_at hl 1 rfl) ?_
        refine wx_iald hx hb hK.1 hP 6 0 rfl rfl (k := w) (by omega) (by decide) xd_Mo_follow_100 ?_
        refine lx_top (z := nI (ps w)) (rfl) ?_
        refine lx_iadd (z := nI (pa w + (ps w))) hx hb xd_Mo_follow_101 (nI_add _ _) ?_
        refine lv_iconst (v := nI 1) hx hb xd_Mo_follow_102 (by decide) ?_
        refine lx_isub (z := nI (pa w + (ps w - 1))) hx hb xd_Mo_follow_103 (by rw [pk_sub (by omega)]; exact congrArg nI (by omega)) ?_
        refine wx_iald hx hb hK.1 hP 4 0 rfl rfl (k := pa w + (ps w - 1)) (by have := (hlt (ps w - 1) (by omega)).1; omega) (by decide) xd_Mo_follow_104 ?_
        refine lx_top (z := nI (tn (pa w + (ps w - 1)))) (rfl) ?_
        refine lx_iadd (z := nI (26 * n + (tn (pa w + (ps w - 1))))) hx hb xd_Mo_follow_105 (nI_add _ _) ?_
        refine lv_bipush (v := nI 97) hx hb xd_Mo_follow_106 (by decide) ?_
        refine lx_isub (z := nI (26 * n + pk_t tn (pa w) (ps w - 1))) hx hb xd_Mo_follow_108 (by rw [pk_sub (by have := q_t.2.1; omega)]; exact congrArg nI (by unfold pk_t; have := q_t.2.1; omega)) ?_
        exact W.iret (v := nI (26 * n + pk_t tn (pa w) (ps w - 1))) hx hb hr (fun T9 ht _ => ⟨_, rfl, by rw [← e_i, hf]; rfl, ht⟩) (fun _ h => absurd h List.not_mem_nil) xd_Mo_follow_109
      · have e_i := nI_gnl (by omega) (by omega) c_13_0
        have q_t := hlt i (by omega)
        refine lv_bipush (v := nI 26) hx hb xd_Mo_follow_16 (by decide) ?_
        refine lv_iload_n hx hb xd_Mo_follow_18 rfl (lv_at hl 2 rfl) ?_
        refine lx_imul (z := nI (26 * n)) hx hb xd_Mo_follow_19 (pk_mul _ _) ?_
        refine lv_aload_n hx hb xd_Mo_follow_20 rfl (lv_at hl 0 rfl) ?_
        refine va_get (D := G) (ci := 8) (v := .ref mt) (C := xc_Mo) (T := xf_Mo) (N := 23) hx hb hts xw_Mo hown hK.1 hP 0 rfl rfl 7 (by decide) (hts _ xm_626) (fun _ h9 => h9) rfl xd_Mo_follow_21 ?_
        refine lv_aload_n hx hb xd_Mo_follow_24 rfl (lv_at hl 0 rfl) ?_
        refine va_get (D := G) (ci := 8) (v := .ref m1) (C := xc_Mo) (T := xf_Mo) (N := 23) hx hb hts xw_Mo hown hK.1 hP 0 rfl rfl 16 (by decide) (hts _ xm_635) (fun _ h9 => h9) rfl xd_Mo_follow_25 ?_
        refine lv_iload_n hx hb xd_Mo_follow_28 rfl (lv_at hl 1 rfl) ?_
        refine wx_iald hx hb hK.1 hP 5 0 rfl rfl (k := w) (by omega) (by decide) xd_Mo_follow_29 ?_
        refine lx_top (z := nI (pa w)) (rfl) ?_
        refine lv_iload_n hx hb xd_Mo_follow_30 rfl (lv_at hl 3 rfl) ?_
        refine lx_iadd (z := nI (pa w + i)) hx hb xd_Mo_follow_31 (nI_add _ _) ?_
        refine wx_iald hx hb hK.1 hP 4 0 rfl rfl (k := pa w + i) (by have := q_t.1; omega) (by decide) xd_Mo_follow_32 ?_
        refine lx_top (z := nI (tn (pa w + i))) (rfl) ?_
        refine lx_iadd (z := nI (26 * n + (tn (pa w + i)))) hx hb xd_Mo_follow_33 (nI_add _ _) ?_
        refine lv_bipush (v := nI 97) hx hb xd_Mo_follow_34 (by decide) ?_
        refine lx_isub (z := nI (n * 26 + pk_t tn (pa w) i)) hx hb xd_Mo_follow_36 (by rw [pk_sub (by have := q_t.2.1; omega)]; exact congrArg nI (by unfold pk_t; have := q_t.2.1; omega)) ?_
        refine lv_istore (lv' := [(4, .int (nI (n * 26 + pk_t tn (pa w) i))), (0, .ref mo), (1, .int (nI w)), (2, .int (nI n)), (3, .int (nI i))]) hx hb xd_Mo_follow_37 hl (by decide) rfl (fun ls hl => ?_)
        have q_k : pk_t tn (pa w) i < 26 := by unfold pk_t; have := q_t.2; omega
        refine lv_aload_n hx hb xd_Mo_follow_39 rfl (lv_at hl 1 rfl) ?_
        refine va_get (D := G) (ci := 8) (v := .ref mk) (C := xc_Mo) (T := xf_Mo) (N := 23) hx hb hts xw_Mo hown hK.1 hP 0 rfl rfl 2 (by decide) (hts _ xm_621) (fun _ h9 => h9) rfl xd_Mo_follow_40 ?_
        refine lv_iload hx hb xd_Mo_follow_43 (lv_at hl 0 rfl) ?_
        refine wx_iald hx hb hK.1 hP 2 0 rfl rfl (k := n * 26 + pk_t tn (pa w) i) (by omega) (by decide) xd_Mo_follow_45 ?_
        refine lx_top (z := en_K (ce (n * 26 + pk_t tn (pa w) i))) ((hR.2 _ (by omega)).1) ?_
        refine lv_iconst (v := nI 2) hx hb xd_Mo_follow_46 (by decide) ?_
        refine lv_icmp_ne (tgt := 65) hx hb xd_Mo_follow_47 (by decide) (fun c_47_1 => ?_) (fun c_47_1 => ?_)
        · have q_c : ¬ fo_C st ce (n * 26 + pk_t tn (pa w) i) := fun z => c_47_1 z.1
          refine lv_iconst (v := (-1)) hx hb xd_Mo_follow_65 (by decide) ?_
          exact W.iret (v := (-1)) hx hb hr (fun T9 ht _ => ⟨_, rfl, by rw [fo_F_f hf q_c (ps w - 1) (by omega)]; rfl, ht⟩) (fun _ h => absurd h List.not_mem_nil) xd_Mo_follow_66
        · have q_c2 := c_47_1
          refine lv_aload_n hx hb xd_Mo_follow_50 rfl (lv_at hl 1 rfl) ?_
          refine va_get (D := G) (ci := 8) (v := .ref ms) (C := xc_Mo) (T := xf_Mo) (N := 23) hx hb hts xw_Mo hown hK.1 hP 0 rfl rfl 1 (by decide) (hts _ xm_620) (fun _ h9 => h9) rfl xd_Mo_follow_51 ?_
          refine lv_aload_n hx hb xd_Mo_follow_54 rfl (lv_at hl 1 rfl) ?_
          refine va_get (D := G) (ci := 8) (v := .ref mv) (C := xc_Mo) (T := xf_Mo) (N := 23) hx hb hts xw_Mo hown hK.1 hP 0 rfl rfl 3 (by decide) (hts _ xm_622) (fun _ h9 => h9) rfl xd_Mo_follow_55 ?_
          refine lv_iload hx hb xd_Mo_follow_58 (lv_at hl 0 rfl) ?_
          refine wx_iald hx hb hK.1 hP 3 0 rfl rfl (k := n * 26 + pk_t tn (pa w) i) (by omega) (by decide) xd_Mo_follow_60 ?_
          refine lx_top (z := nI (cv_N (ce (n * 26 + pk_t tn (pa w) i)))) (((hR.2 _ (by omega)).2).trans (hO _ (by omega) q_c2).1) ?_
          refine wx_iald hx hb hK.1 hP 1 0 rfl rfl (k := cv_N (ce (n * 26 + pk_t tn (pa w) i))) (by have := (hO _ (show n * 26 + pk_t tn (pa w) i < 1040 by omega) q_c2).2; omega) (by decide) xd_Mo_follow_61 ?_
          refine lx_top (z := st (cv_N (ce (n * 26 + pk_t tn (pa w) i)))) (hR.1 _ (hO _ (by omega) q_c2).2) ?_
          refine lv_if_ne (tgt := 67) hx hb xd_Mo_follow_62 (by decide) (fun c_62_2 => ?_) (fun c_62_2 => ?_)
          · have q_c : fo_C st ce (n * 26 + pk_t tn (pa w) i) := ⟨q_c2, c_62_2⟩
            refine lv_aload_n hx hb xd_Mo_follow_67 rfl (lv_at hl 1 rfl) ?_
            refine va_get (D := G) (ci := 8) (v := .ref mv) (C := xc_Mo) (T := xf_Mo) (N := 23) hx hb hts xw_Mo hown hK.1 hP 0 rfl rfl 3 (by decide) (hts _ xm_622) (fun _ h9 => h9) rfl xd_Mo_follow_68 ?_
            refine lv_iload hx hb xd_Mo_follow_71 (lv_at hl 0 rfl) ?_
            refine wx_iald hx hb hK.1 hP 3 0 rfl rfl (k := n * 26 + pk_t tn (pa w) i) (by omega) (by decide) xd_Mo_follow_73 ?_
            refine lx_top (z := nI (cv_N (ce (n * 26 + pk_t tn (pa w) i)))) (((hR.2 _ (by omega)).2).trans (hO _ (by omega) q_c2).1) ?_
            refine lv_istore_n (lv' := [(2, .int (nI (cv_N (ce (n * 26 + pk_t tn (pa w) i))))), (4, .int (nI (n * 26 + pk_t tn (pa w) i))), (0, .ref mo), (1, .int (nI w)), (3, .int (nI i))]) hx hb xd_Mo_follow_74 rfl hl (by decide) rfl (fun ls hl => ?_)
            refine lv_iinc (v := nI (i + 1)) (lv' := [(3, .int (nI (i + 1))), (2, .int (nI (cv_N (ce (n * 26 + pk_t tn (pa w) i))))), (4, .int (nI (n * 26 + pk_t tn (pa w) i))), (0, .ref mo), (1, .int (nI w))]) hx hb xd_Mo_follow_75 hl (k := 4) rfl (nI_inc _) (by decide) rfl (fun ls hl => ?_)
            refine lv_goto (tgt := 4) hx hb xd_Mo_follow_78 (by decide) ?_
            exact ih_lp (i + 1) (cv_N (ce (n * 26 + pk_t tn (pa w) i))) (by omega) (fo_F_t hf q_c) (by omega) ls (lv_sub hl [3, 4, 1, 0] rfl)
          · have q_c : ¬ fo_C st ce (n * 26 + pk_t tn (pa w) i) := fun z => z.2 c_62_2
            refine lv_iconst (v := (-1)) hx hb xd_Mo_follow_65 (by decide) ?_
            exact W.iret (v := (-1)) hx hb hr (fun T9 ht _ => ⟨_, rfl, by rw [fo_F_f hf q_c (ps w - 1) (by omega)]; rfl, ht⟩) (fun _ h => absurd h List.not_mem_nil) xd_Mo_follow_66
  exact lp ((ps w - 1 - 0) + 1) 0 0 (by omega) rfl (Nat.lt_succ_self _) ls (lv_sub hl [2, 3, 1, 0] rfl)
set_option maxHeartbeats 4000000 in
set_option maxRecDepth 100000 in
theorem ct_Mo_doObject (l : Launch) (G : va_G) (cA : Nat → ClassId) (sz : Nat) (mo : Nat) (th : Int32) (ms : Nat) (mk : Nat) (mv : Nat) (mm : Nat) (ml : Nat) (cnt : Nat) (mt : Nat) (mp : Int32) (mn : Int32) (mu : Nat) (ma : Nat) (at_ : Nat) (m1 : Nat) (m2 : Nat) (m3 : Nat) (m4 : Nat) (rn : Nat) (pw : Nat) (mc : Nat) (b : Nat) (tn : Nat → Nat) (hc : cnt ≤ 300) (ha : at_ ≤ 301) (hv : ∀ j, tn j < 128) (hb9 : b ≤ 1) (sa : Nat → Int32) (kd : Nat → Int32) (vl : Nat → Int32) (st : Nat → Int32) (ce : Nat → Int32) (fo : Int32) (v : Nat) (n : Nat) (fk : Nat → Nat) (fn : Nat) (gk : Nat → Nat) (gn : Nat) (hR : sn_R sa kd vl st ce) (hv3 : v = 65 ∨ v = 82 ∨ v = 71) (hn : n < 100) : Met l xy_Mo_doObject (.code xy_Mo_doObject xb_Mo_doObject 2 (some .int) :: tw_W) ({ frames := 1, cells := 0, slots := 0, locals := 22 }) (pc_w G cA [(mo, .inr (8, [.int th, .ref ms, .ref mk, .ref mv, .int (nI mm), .int (nI ml), .int (nI cnt), .ref mt, .int mp, .int mn, .int (nI mu), .ref ma, .int (nI at_), .int (nI b), .int (nI v), .int (nI n), .ref m1, .ref m2, .ref m3, .ref m4, .int (nI rn), .int (nI pw), .ref mc])), (ms, .inl (cA 0, 720, .inl sa)), (mk, .inl (cA 0, 18720, .inl kd)), (mv, .inl (cA 0, 18720, .inl vl))] sz [.ref mo, .int fo]) (va_Qi (fun (r : Int32) (u9 : (Nat → Int32) × (Nat → Int32) × (Nat → Int32)) => match u9 with | (sa2, kd2, vl2) => do_Q (ex_l fo st ce v n fk fn gk gn (nI 0) (nI 0)) sa kd vl r sa2 kd2 vl2) (fun u9 T9 => match u9 with | (sa2, kd2, vl2) => at_w G (va_A [(mo, .inr (8, [.int th, .ref ms, .ref mk, .ref mv, .int (nI mm), .int (nI ml), .int (nI cnt), .ref mt, .int mp, .int mn, .int (nI mu), .ref ma, .int (nI at_), .int (nI b), .int (nI v), .int (nI n), .ref m1, .ref m2, .ref m3, .ref m4, .int (nI rn), .int (nI pw), .ref mc])), (ms, .inl (cA 0, 720, .inl sa)), (mk, .inl (cA 0, 18720, .inl kd)), (mv, .inl (cA 0, 18720, .inl vl))] sz) [(mo, .inr (8, [.int th, .ref ms, .ref mk, .ref mv, .int (nI mm), .int (nI ml), .int (nI cnt), .ref mt, .int mp, .int mn, .int (nI mu), .ref ma, .int (nI at_), .int (nI b), .int (nI v), .int (nI n), .ref m1, .ref m2, .ref m3, .ref m4, .int (nI rn), .int (nI pw), .ref mc])), (ms, .inl (cA 0, 720, .inl sa2)), (mk, .inl (cA 0, 18720, .inl kd2)), (mv, .inl (cA 0, 18720, .inl vl2))] T9) (va_A [(mo, .inr (8, [.int th, .ref ms, .ref mk, .ref mv, .int (nI mm), .int (nI ml), .int (nI cnt), .ref mt, .int mp, .int mn, .int (nI mu), .ref ma, .int (nI at_), .int (nI b), .int (nI v), .int (nI n), .ref m1, .ref m2, .ref m3, .ref m4, .int (nI rn), .int (nI pw), .ref mc])), (ms, .inl (cA 0, 720, .inl sa)), (mk, .inl (cA 0, 18720, .inl kd)), (mv, .inl (cA 0, 18720, .inl vl))] sz)) 0 0 (va_A [(mo, .inr (8, [.int th, .ref ms, .ref mk, .ref mv, .int (nI mm), .int (nI ml), .int (nI cnt), .ref mt, .int mp, .int mn, .int (nI mu), .ref ma, .int (nI at_), .int (nI b), .int (nI v), .int (nI n), .ref m1, .ref m2, .ref m3, .ref m4, .int (nI rn), .int (nI pw), .ref mc])), (ms, .inl (cA 0, 720, .inl sa)), (mk, .inl (cA 0, 18720, .inl kd)), (mv, .inl (cA 0, 18720, .inl vl))] sz) := by
  refine Met.ofW (cc := xb_Mo_doObject) (maxL := 2) (ret := (some .int)) (by decide) rfl ?_
  intro p e s m args below meth c s₁ B hml hv
  obtain ⟨rfl, hsz, hK, hP, hD0⟩ := hv
  have hx := B.exec
  have hb := B.bytes
  have hr := B.returns
  have hts0 := atoms_spec (ws := .code xy_Mo_doObject xb_Mo_doObject 2 (some .int) :: tw_W) B.pre
  have hts : ∀ w9 ∈ tw_W, w9.before [.ref mo, .int fo].toArray s = true := fun w9 h9 => hts0 w9 (List.mem_cons_of_mem _ h9)
  have hown : s.vm.findClass xc_Mo = some m.cls := findClass_of_methodNamed B.named
  have hlocks := B.notSynchronized
  subst hsz
  have hD := hD0.self (sz := s.heap.size)
  generalize hAe : va_A [(mo, .inr (8, [.int th, .ref ms, .ref mk, .ref mv, .int (nI mm), .int (nI ml), .int (nI cnt), .ref mt, .int mp, .int mn, .int (nI mu), .ref ma, .int (nI at_), .int (nI b), .int (nI v), .int (nI n), .ref m1, .ref m2, .ref m3, .ref m4, .int (nI rn), .int (nI pw), .ref mc])), (ms, .inl (cA 0, 720, .inl sa)), (mk, .inl (cA 0, 18720, .inl kd)), (mv, .inl (cA 0, 18720, .inl vl))] s.heap.size = A at hD ⊢
  have hA : ∀ q : Nat, s.heap.size ≤ q → A q := fun q h => by rw [← hAe]; exact Or.inr h
  have hS : va_S A s.heap s.heap [] := va_S.rf
  have hP : va_P G xk_cl [(mo, .inr (8, [.int th, .ref ms, .ref mk, .ref mv, .int (nI mm), .int (nI ml), .int (nI cnt), .ref mt, .int mp, .int mn, .int (nI mu), .ref ma, .int (nI at_), .int (nI b), .int (nI v), .int (nI n), .ref m1, .ref m2, .ref m3, .ref m4, .int (nI rn), .int (nI pw), .ref mc])), (ms, .inl (cA 0, 720, .inl sa)), (mk, .inl (cA 0, 18720, .inl kd)), (mv, .inl (cA 0, 18720, .inl vl))] s.heap := hP
  have hl := lv_entry ([.ref mo, .int fo]) (n := 2) (Nat.le_of_ble_eq_true rfl)
  rw [lg_entry_eq]
  generalize (lg_sl ([.ref mo, .int fo]) ++ List.replicate (2 - (lg_sl ([.ref mo, .int fo])).length) Slot.unset).toArray = ls at hl ⊢
  have hl : lv_has ls 2 [(0, .ref mo), (1, .int fo)] := hl
  rcases hv3 with rfl | rfl | rfl
  · refine lv_aload_n hx hb xd_Mo_doObject_0 rfl (lv_at hl 0 rfl) ?_
    refine va_get (D := G) (ci := 8) (v := .int (nI n)) (C := xc_Mo) (T := xf_Mo) (N := 23) hx hb hts xw_Mo hown hK.1 hP 0 rfl rfl 15 (by decide) (hts _ xm_634) (fun _ h9 => h9) rfl xd_Mo_doObject_1 ?_
    refine lv_bipush (v := nI 40) hx hb xd_Mo_doObject_4 (by decide) ?_
    refine lv_icmp_ge (tgt := 25) hx hb xd_Mo_doObject_6 (by decide) (fun c_6_0 => ?_) (fun c_6_0 => ?_)
    · have q_n := nI_gle (by omega) (by omega) c_6_0
      refine lv_iconst (v := nI 2) hx hb xd_Mo_doObject_25 (by decide) ?_
      have hP9 : va_P G xk_cl [(mo, .inr (8, [.int th, .ref ms, .ref mk, .ref mv, .int (nI mm), .int (nI ml), .int (nI cnt), .ref mt, .int mp, .int mn, .int (nI mu), .ref ma, .int (nI at_), .int (nI b), .int (nI 65), .int (nI n), .ref m1, .ref m2, .ref m3, .ref m4, .int (nI rn), .int (nI pw), .ref mc])), (ms, .inl (cA 0, 720, .inl sa)), (mk, .inl (cA 0, 18720, .inl kd)), (mv, .inl (cA 0, 18720, .inl vl))] _ := hP.sub [0, 1, 2, 3] rfl
      have hD9 : va_D A [(mo, .inr (8, [.int th, .ref ms, .ref mk, .ref mv, .int (nI mm), .int (nI ml), .int (nI cnt), .ref mt, .int mp, .int mn, .int (nI mu), .ref ma, .int (nI at_), .int (nI b), .int (nI 65), .int (nI n), .ref m1, .ref m2, .ref m3, .ref m4, .int (nI rn), .int (nI pw), .ref mc])), (ms, .inl (cA 0, 720, .inl sa)), (mk, .inl (cA 0, 18720, .inl kd)), (mv, .inl (cA 0, 18720, .inl vl))] := hD.sub [0, 1, 2, 3] (by decide) rfl
      exact W.iret (v := nI 2) hx hb hr (fun T9 ht hW => ⟨⟨_, (sa, kd, vl), rfl, by rw [ex_l, if_neg (fun z => by have := (wn_65 n (by omega)).mp z; omega)]; exact ⟨rfl, hR, fr_r _ _ _⟩, by rw [ht]; exact hP9, hD9⟩, hS.F ht⟩) hS.2.2 xd_Mo_doObject_26
    · have q_n := nI_gnl (by omega) (by omega) c_6_0
      refine lv_aload_n hx hb xd_Mo_doObject_9 rfl (lv_at hl 0 rfl) ?_
      refine va_get (D := G) (ci := 8) (v := .int (nI 65)) (C := xc_Mo) (T := xf_Mo) (N := 23) hx hb hts xw_Mo hown hK.1 hP 0 rfl rfl 14 (by decide) (hts _ xm_633) (fun _ h9 => h9) rfl xd_Mo_doObject_10 ?_
      refine lv_bipush (v := nI 82) hx hb xd_Mo_doObject_13 (by decide) ?_
      refine lv_icmp_ne (tgt := 27) hx hb xd_Mo_doObject_15 (by decide) (fun c_15_1 => ?_) (fun c_15_1 => absurd c_15_1 (by decide))
      refine lv_aload_n hx hb xd_Mo_doObject_27 rfl (lv_at hl 0 rfl) ?_
      refine va_get (D := G) (ci := 8) (v := .int (nI 65)) (C := xc_Mo) (T := xf_Mo) (N := 23) hx hb hts xw_Mo hown hK.1 hP 0 rfl rfl 14 (by decide) (hts _ xm_633) (fun _ h9 => h9) rfl xd_Mo_doObject_28 ?_
      refine lv_bipush (v := nI 65) hx hb xd_Mo_doObject_31 (by decide) ?_
      refine lv_icmp_ne (tgt := 51) hx hb xd_Mo_doObject_33 (by decide) (fun c_33_2 => absurd (by decide) c_33_2) (fun c_33_2 => ?_)
      refine lv_aload_n hx hb xd_Mo_doObject_36 rfl (lv_at hl 0 rfl) ?_
      refine va_get (D := G) (ci := 8) (v := .ref ms) (C := xc_Mo) (T := xf_Mo) (N := 23) hx hb hts xw_Mo hown hK.1 hP 0 rfl rfl 1 (by decide) (hts _ xm_620) (fun _ h9 => h9) rfl xd_Mo_doObject_37 ?_
      refine lv_aload_n hx hb xd_Mo_doObject_40 rfl (lv_at hl 0 rfl) ?_
      refine va_get (D := G) (ci := 8) (v := .int (nI n)) (C := xc_Mo) (T := xf_Mo) (N := 23) hx hb hts xw_Mo hown hK.1 hP 0 rfl rfl 15 (by decide) (hts _ xm_634) (fun _ h9 => h9) rfl xd_Mo_doObject_41 ?_
      refine wx_iald hx hb hK.1 hP 1 0 rfl rfl (k := n) (by omega) (by decide) xd_Mo_doObject_44 ?_
      refine lx_top (z := st n) (hR.1 _ q_n) ?_
      refine lv_if_eq (tgt := 65) hx hb xd_Mo_doObject_45 (by decide) (fun c_45_3 => ?_) (fun c_45_3 => ?_)
      · refine lv_aload_n hx hb xd_Mo_doObject_65 rfl (lv_at hl 0 rfl) ?_
        refine va_get (D := G) (ci := 8) (v := .int (nI 65)) (C := xc_Mo) (T := xf_Mo) (N := 23) hx hb hts xw_Mo hown hK.1 hP 0 rfl rfl 14 (by decide) (hts _ xm_633) (fun _ h9 => h9) rfl xd_Mo_doObject_66 ?_
        refine lv_bipush (v := nI 82) hx hb xd_Mo_doObject_69 (by decide) ?_
        refine lv_icmp_ne (tgt := 89) hx hb xd_Mo_doObject_71 (by decide) (fun c_71_4 => ?_) (fun c_71_4 => absurd c_71_4 (by decide))
        refine lv_aload_n hx hb xd_Mo_doObject_89 rfl (lv_at hl 0 rfl) ?_
        refine va_get (D := G) (ci := 8) (v := .ref ms) (C := xc_Mo) (T := xf_Mo) (N := 23) hx hb hts xw_Mo hown hK.1 hP 0 rfl rfl 1 (by decide) (hts _ xm_620) (fun _ h9 => h9) rfl xd_Mo_doObject_90 ?_
        refine lv_aload_n hx hb xd_Mo_doObject_93 rfl (lv_at hl 0 rfl) ?_
        refine va_get (D := G) (ci := 8) (v := .int (nI n)) (C := xc_Mo) (T := xf_Mo) (N := 23) hx hb hts xw_Mo hown hK.1 hP 0 rfl rfl 15 (by decide) (hts _ xm_634) (fun _ h9 => h9) rfl xd_Mo_doObject_94 ?_
        refine lv_aload_n hx hb xd_Mo_doObject_97 rfl (lv_at hl 0 rfl) ?_
        refine va_get (D := G) (ci := 8) (v := .int (nI 65)) (C := xc_Mo) (T := xf_Mo) (N := 23) hx hb hts xw_Mo hown hK.1 hP 0 rfl rfl 14 (by decide) (hts _ xm_633) (fun _ h9 => h9) rfl xd_Mo_doObject_98 ?_
        refine lv_bipush (v := nI 65) hx hb xd_Mo_doObject_101 (by decide) ?_
        refine lv_icmp_ne (tgt := 110) hx hb xd_Mo_doObject_103 (by decide) (fun c_103_5 => absurd (by decide) c_103_5) (fun c_103_5 => ?_)
        refine lv_iconst (v := nI 1) hx hb xd_Mo_doObject_106 (by decide) ?_
        refine lv_goto (tgt := 124) hx hb xd_Mo_doObject_107 (by decide) ?_
        refine wx_iast hx hb hK.1 hP hD hS 1 0 rfl rfl (k := n) (z := nI 1) (rfl) (by omega) (by decide) xd_Mo_doObject_124 (fun H locs hP hD hS => ?_)
        have hP : va_P G xk_cl [(mo, .inr (8, [.int th, .ref ms, .ref mk, .ref mv, .int (nI mm), .int (nI ml), .int (nI cnt), .ref mt, .int mp, .int mn, .int (nI mu), .ref ma, .int (nI at_), .int (nI b), .int (nI 65), .int (nI n), .ref m1, .ref m2, .ref m3, .ref m4, .int (nI rn), .int (nI pw), .ref mc])), (ms, .inl (cA 0, 720, .inl (upd sa n (nI 1)))), (mk, .inl (cA 0, 18720, .inl kd)), (mv, .inl (cA 0, 18720, .inl vl))] H := hP
        have hD : va_D A [(mo, .inr (8, [.int th, .ref ms, .ref mk, .ref mv, .int (nI mm), .int (nI ml), .int (nI cnt), .ref mt, .int mp, .int mn, .int (nI mu), .ref ma, .int (nI at_), .int (nI b), .int (nI 65), .int (nI n), .ref m1, .ref m2, .ref m3, .ref m4, .int (nI rn), .int (nI pw), .ref mc])), (ms, .inl (cA 0, 720, .inl (upd sa n (nI 1)))), (mk, .inl (cA 0, 18720, .inl kd)), (mv, .inl (cA 0, 18720, .inl vl))] := hD
        refine lv_aload_n hx hb xd_Mo_doObject_125 rfl (lv_at hl 0 rfl) ?_
        refine va_get (D := G) (ci := 8) (v := .int (nI 65)) (C := xc_Mo) (T := xf_Mo) (N := 23) hx hb hts xw_Mo hown hK.1 hP 0 rfl rfl 14 (by decide) (hts _ xm_633) (fun _ h9 => h9) rfl xd_Mo_doObject_126 ?_
        refine lv_bipush (v := nI 82) hx hb xd_Mo_doObject_129 (by decide) ?_
        refine lv_icmp_ne (tgt := 142) hx hb xd_Mo_doObject_131 (by decide) (fun c_131_6 => ?_) (fun c_131_6 => absurd c_131_6 (by decide))
        refine lv_iconst (v := nI 0) hx hb xd_Mo_doObject_142 (by decide) ?_
        have hP9 : va_P G xk_cl [(mo, .inr (8, [.int th, .ref ms, .ref mk, .ref mv, .int (nI mm), .int (nI ml), .int (nI cnt), .ref mt, .int mp, .int mn, .int (nI mu), .ref ma, .int (nI at_), .int (nI b), .int (nI 65), .int (nI n), .ref m1, .ref m2, .ref m3, .ref m4, .int (nI rn), .int (nI pw), .ref mc])), (ms, .inl (cA 0, 720, .inl (upd sa n (nI 1)))), (mk, .inl (cA 0, 18720, .inl kd)), (mv, .inl (cA 0, 18720, .inl vl))] _ := hP.sub [0, 1, 2, 3] rfl
        have hD9 : va_D A [(mo, .inr (8, [.int th, .ref ms, .ref mk, .ref mv, .int (nI mm), .int (nI ml), .int (nI cnt), .ref mt, .int mp, .int mn, .int (nI mu), .ref ma, .int (nI at_), .int (nI b), .int (nI 65), .int (nI n), .ref m1, .ref m2, .ref m3, .ref m4, .int (nI rn), .int (nI pw), .ref mc])), (ms, .inl (cA 0, 720, .inl (upd sa n (nI 1)))), (mk, .inl (cA 0, 18720, .inl kd)), (mv, .inl (cA 0, 18720, .inl vl))] := hD.sub [0, 1, 2, 3] (by decide) rfl
        exact W.iret (v := nI 0) hx hb hr (fun T9 ht hW => ⟨⟨_, (upd sa n (nI 1), kd, vl), rfl, by rw [ex_l, if_pos ((wn_65 n (by omega)).mpr q_n), if_pos rfl, ex_A, if_pos c_45_3]; exact ⟨rfl, sn_s hR n _, fr_s _ _ _ _ q_n⟩, by rw [ht]; exact hP9, hD9⟩, hS.F ht⟩) hS.2.2 xd_Mo_doObject_143
      · refine lv_goto (tgt := 63) hx hb xd_Mo_doObject_48 (by decide) ?_
        refine lv_iconst (v := nI 3) hx hb xd_Mo_doObject_63 (by decide) ?_
        have hP9 : va_P G xk_cl [(mo, .inr (8, [.int th, .ref ms, .ref mk, .ref mv, .int (nI mm), .int (nI ml), .int (nI cnt), .ref mt, .int mp, .int mn, .int (nI mu), .ref ma, .int (nI at_), .int (nI b), .int (nI 65), .int (nI n), .ref m1, .ref m2, .ref m3, .ref m4, .int (nI rn), .int (nI pw), .ref mc])), (ms, .inl (cA 0, 720, .inl sa)), (mk, .inl (cA 0, 18720, .inl kd)), (mv, .inl (cA 0, 18720, .inl vl))] _ := hP.sub [0, 1, 2, 3] rfl
        have hD9 : va_D A [(mo, .inr (8, [.int th, .ref ms, .ref mk, .ref mv, .int (nI mm), .int (nI ml), .int (nI cnt), .ref mt, .int mp, .int mn, .int (nI mu), .ref ma, .int (nI at_), .int (nI b), .int (nI 65), .int (nI n), .ref m1, .ref m2, .ref m3, .ref m4, .int (nI rn), .int (nI pw), .ref mc])), (ms, .inl (cA 0, 720, .inl sa)), (mk, .inl (cA 0, 18720, .inl kd)), (mv, .inl (cA 0, 18720, .inl vl))] := hD.sub [0, 1, 2, 3] (by decide) rfl
        exact W.iret (v := nI 3) hx hb hr (fun T9 ht hW => ⟨⟨_, (sa, kd, vl), rfl, by rw [ex_l, if_pos ((wn_65 n (by omega)).mpr q_n), if_pos rfl, ex_A, if_neg c_45_3]; exact ⟨rfl, hR, fr_r _ _ _⟩, by rw [ht]; exact hP9, hD9⟩, hS.F ht⟩) hS.2.2 xd_Mo_doObject_64
  · refine lv_aload_n hx hb xd_Mo_doObject_0 rfl (lv_at hl 0 rfl) ?_
    refine va_get (D := G) (ci := 8) (v := .int (nI n)) (C := xc_Mo) (T := xf_Mo) (N := 23) hx hb hts xw_Mo hown hK.1 hP 0 rfl rfl 15 (by decide) (hts _ xm_634) (fun _ h9 => h9) rfl xd_Mo_doObject_1 ?_
    refine lv_bipush (v := nI 40) hx hb xd_Mo_doObject_4 (by decide) ?_
    refine lv_icmp_ge (tgt := 25) hx hb xd_Mo_doObject_6 (by decide) (fun c_6_7 => ?_) (fun c_6_7 => ?_)
    · have q_n := nI_gle (by omega) (by omega) c_6_7
      refine lv_iconst (v := nI 2) hx hb xd_Mo_doObject_25 (by decide) ?_
      have hP9 : va_P G xk_cl [(mo, .inr (8, [.int th, .ref ms, .ref mk, .ref mv, .int (nI mm), .int (nI ml), .int (nI cnt), .ref mt, .int mp, .int mn, .int (nI mu), .ref ma, .int (nI at_), .int (nI b), .int (nI 82), .int (nI n), .ref m1, .ref m2, .ref m3, .ref m4, .int (nI rn), .int (nI pw), .ref mc])), (ms, .inl (cA 0, 720, .inl sa)), (mk, .inl (cA 0, 18720, .inl kd)), (mv, .inl (cA 0, 18720, .inl vl))] _ := hP.sub [0, 1, 2, 3] rfl
      have hD9 : va_D A [(mo, .inr (8, [.int th, .ref ms, .ref mk, .ref mv, .int (nI mm), .int (nI ml), .int (nI cnt), .ref mt, .int mp, .int mn, .int (nI mu), .ref ma, .int (nI at_), .int (nI b), .int (nI 82), .int (nI n), .ref m1, .ref m2, .ref m3, .ref m4, .int (nI rn), .int (nI pw), .ref mc])), (ms, .inl (cA 0, 720, .inl sa)), (mk, .inl (cA 0, 18720, .inl kd)), (mv, .inl (cA 0, 18720, .inl vl))] := hD.sub [0, 1, 2, 3] (by decide) rfl
      exact W.iret (v := nI 2) hx hb hr (fun T9 ht hW => ⟨⟨_, (sa, kd, vl), rfl, by rw [ex_l, if_neg (fun z => by have := (wn_82 n (by omega)).mp z; omega)]; exact ⟨rfl, hR, fr_r _ _ _⟩, by rw [ht]; exact hP9, hD9⟩, hS.F ht⟩) hS.2.2 xd_Mo_doObject_26
    · have q_n := nI_gnl (by omega) (by omega) c_6_7
      refine lv_aload_n hx hb xd_Mo_doObject_9 rfl (lv_at hl 0 rfl) ?_
      refine va_get (D := G) (ci := 8) (v := .int (nI 82)) (C := xc_Mo) (T := xf_Mo) (N := 23) hx hb hts xw_Mo hown hK.1 hP 0 rfl rfl 14 (by decide) (hts _ xm_633) (fun _ h9 => h9) rfl xd_Mo_doObject_10 ?_
      refine lv_bipush (v := nI 82) hx hb xd_Mo_doObject_13 (by decide) ?_
      refine lv_icmp_ne (tgt := 27) hx hb xd_Mo_doObject_15 (by decide) (fun c_15_8 => absurd (by decide) c_15_8) (fun c_15_8 => ?_)
      refine lv_aload_n hx hb xd_Mo_doObject_18 rfl (lv_at hl 0 rfl) ?_
      refine va_get (D := G) (ci := 8) (v := .int (nI n)) (C := xc_Mo) (T := xf_Mo) (N := 23) hx hb hts xw_Mo hown hK.1 hP 0 rfl rfl 15 (by decide) (hts _ xm_634) (fun _ h9 => h9) rfl xd_Mo_doObject_19 ?_
      refine lv_if_ne (tgt := 27) hx hb xd_Mo_doObject_22 (by decide) (fun c_22_9 => ?_) (fun c_22_9 => ?_)
      · have q_0 : ¬ n = 0 := fun z => c_22_9 (by rw [z]; rfl)
        refine lv_aload_n hx hb xd_Mo_doObject_27 rfl (lv_at hl 0 rfl) ?_
        refine va_get (D := G) (ci := 8) (v := .int (nI 82)) (C := xc_Mo) (T := xf_Mo) (N := 23) hx hb hts xw_Mo hown hK.1 hP 0 rfl rfl 14 (by decide) (hts _ xm_633) (fun _ h9 => h9) rfl xd_Mo_doObject_28 ?_
        refine lv_bipush (v := nI 65) hx hb xd_Mo_doObject_31 (by decide) ?_
        refine lv_icmp_ne (tgt := 51) hx hb xd_Mo_doObject_33 (by decide) (fun c_33_10 => ?_) (fun c_33_10 => absurd c_33_10 (by decide))
        refine lv_aload_n hx hb xd_Mo_doObject_51 rfl (lv_at hl 0 rfl) ?_
        refine va_get (D := G) (ci := 8) (v := .ref ms) (C := xc_Mo) (T := xf_Mo) (N := 23) hx hb hts xw_Mo hown hK.1 hP 0 rfl rfl 1 (by decide) (hts _ xm_620) (fun _ h9 => h9) rfl xd_Mo_doObject_52 ?_
        refine lv_aload_n hx hb xd_Mo_doObject_55 rfl (lv_at hl 0 rfl) ?_
        refine va_get (D := G) (ci := 8) (v := .int (nI n)) (C := xc_Mo) (T := xf_Mo) (N := 23) hx hb hts xw_Mo hown hK.1 hP 0 rfl rfl 15 (by decide) (hts _ xm_634) (fun _ h9 => h9) rfl xd_Mo_doObject_56 ?_
        refine wx_iald hx hb hK.1 hP 1 0 rfl rfl (k := n) (by omega) (by decide) xd_Mo_doObject_59 ?_
        refine lx_top (z := st n) (hR.1 _ q_n) ?_
        refine lv_if_ne (tgt := 65) hx hb xd_Mo_doObject_60 (by decide) (fun c_60_11 => ?_) (fun c_60_11 => ?_)
        · refine lv_aload_n hx hb xd_Mo_doObject_65 rfl (lv_at hl 0 rfl) ?_
          refine va_get (D := G) (ci := 8) (v := .int (nI 82)) (C := xc_Mo) (T := xf_Mo) (N := 23) hx hb hts xw_Mo hown hK.1 hP 0 rfl rfl 14 (by decide) (hts _ xm_633) (fun _ h9 => h9) rfl xd_Mo_doObject_66 ?_
          refine lv_bipush (v := nI 82) hx hb xd_Mo_doObject_69 (by decide) ?_
          refine lv_icmp_ne (tgt := 89) hx hb xd_Mo_doObject_71 (by decide) (fun c_71_12 => absurd (by decide) c_71_12) (fun c_71_12 => ?_)
          refine lv_aload_n hx hb xd_Mo_doObject_74 rfl (lv_at hl 0 rfl) ?_
          refine lv_aload_n hx hb xd_Mo_doObject_75 rfl (lv_at hl 0 rfl) ?_
          refine va_get (D := G) (ci := 8) (v := .int (nI n)) (C := xc_Mo) (T := xf_Mo) (N := 23) hx hb hts xw_Mo hown hK.1 hP 0 rfl rfl 15 (by decide) (hts _ xm_634) (fun _ h9 => h9) rfl xd_Mo_doObject_76 ?_
          refine lv_iload_n hx hb xd_Mo_doObject_79 rfl (lv_at hl 1 rfl) ?_
          have hPc := hP.sub (ws' := [(mo, .inr (8, [.int th, .ref ms, .ref mk, .ref mv, .int (nI mm), .int (nI ml), .int (nI cnt), .ref mt, .int mp, .int mn, .int (nI mu), .ref ma, .int (nI at_), .int (nI b), .int (nI 82), .int (nI n), .ref m1, .ref m2, .ref m3, .ref m4, .int (nI rn), .int (nI pw), .ref mc])), (ms, .inl (cA 0, 720, .inl sa))]) [0, 1] rfl
          refine vp_callSi (va_Run.run (va_runV (As := [.int (nI n), .int fo]) (rest := []) ⟨hx, hb, hml, hown, hts⟩ (ct_Mo_isShut l G cA mo th ms mk mv mm ml cnt mt mp mn mu ma at_ (nI b) (nI 82) (nI n) m1 m2 m3 m4 rn pw mc sa n fo q_n) (cwV 2 hts (gi_v xm_739 xm_741 xs_Mo_isShut xm_9 xm_742) rfl rfl rfl ⟨rfl, xh_Mo_isShut⟩ ⟨Nat.le_of_ble_eq_true rfl, Nat.le_of_ble_eq_true rfl⟩) (pv_r hK hPc (ci := 8) (q0 := 0) rfl rfl) rfl rfl hl.1 rfl (lv_room (Nat.le_of_ble_eq_true rfl)) xd_Mo_doObject_80 ⟨Nat.le_of_ble_eq_true rfl, Nat.le_of_ble_eq_true rfl⟩)) (fun r_14 q_15 => ?_)
          refine lx_top (z := cl_D fo (sa n)) (q_15) ?_
          refine lx_top (z := cl_D fo (st n)) (by rw [hR.1 n q_n]) ?_
          refine lv_if_eq (tgt := 89) hx hb xd_Mo_doObject_83 (by decide) (fun c_83_15 => ?_) (fun c_83_15 => ?_)
          · have q_p := cl_D_z.mp c_83_15
            refine lv_aload_n hx hb xd_Mo_doObject_89 rfl (lv_at hl 0 rfl) ?_
            refine va_get (D := G) (ci := 8) (v := .ref ms) (C := xc_Mo) (T := xf_Mo) (N := 23) hx hb hts xw_Mo hown hK.1 hP 0 rfl rfl 1 (by decide) (hts _ xm_620) (fun _ h9 => h9) rfl xd_Mo_doObject_90 ?_
            refine lv_aload_n hx hb xd_Mo_doObject_93 rfl (lv_at hl 0 rfl) ?_
            refine va_get (D := G) (ci := 8) (v := .int (nI n)) (C := xc_Mo) (T := xf_Mo) (N := 23) hx hb hts xw_Mo hown hK.1 hP 0 rfl rfl 15 (by decide) (hts _ xm_634) (fun _ h9 => h9) rfl xd_Mo_doObject_94 ?_
            refine lv_aload_n hx hb xd_Mo_doObject_97 rfl (lv_at hl 0 rfl) ?_
            refine va_get (D := G) (ci := 8) (v := .int (nI 82)) (C := xc_Mo) (T := xf_Mo) (N := 23) hx hb hts xw_Mo hown hK.1 hP 0 rfl rfl 14 (by decide) (hts _ xm_633) (fun _ h9 => h9) rfl xd_Mo_doObject_98 ?_
            refine lv_bipush (v := nI 65) hx hb xd_Mo_doObject_101 (by decide) ?_
            refine lv_icmp_ne (tgt := 110) hx hb xd_Mo_doObject_103 (by decide) (fun c_103_16 => ?_) (fun c_103_16 => absurd c_103_16 (by decide))
            refine lv_aload_n hx hb xd_Mo_doObject_110 rfl (lv_at hl 0 rfl) ?_
            refine va_get (D := G) (ci := 8) (v := .int (nI 82)) (C := xc_Mo) (T := xf_Mo) (N := 23) hx hb hts xw_Mo hown hK.1 hP 0 rfl rfl 14 (by decide) (hts _ xm_633) (fun _ h9 => h9) rfl xd_Mo_doObject_111 ?_
            refine lv_bipush (v := nI 71) hx hb xd_Mo_doObject_114 (by decide) ?_
            refine lv_icmp_ne (tgt := 123) hx hb xd_Mo_doObject_116 (by decide) (fun c_116_17 => ?_) (fun c_116_17 => absurd c_116_17 (by decide))
            refine lv_iconst (v := nI 0) hx hb xd_Mo_doObject_123 (by decide) ?_
            refine wx_iast hx hb hK.1 hP hD hS 1 0 rfl rfl (k := n) (z := nI 0) (rfl) (by omega) (by decide) xd_Mo_doObject_124 (fun H locs hP hD hS => ?_)
            have hP : va_P G xk_cl [(mo, .inr (8, [.int th, .ref ms, .ref mk, .ref mv, .int (nI mm), .int (nI ml), .int (nI cnt), .ref mt, .int mp, .int mn, .int (nI mu), .ref ma, .int (nI at_), .int (nI b), .int (nI 82), .int (nI n), .ref m1, .ref m2, .ref m3, .ref m4, .int (nI rn), .int (nI pw), .ref mc])), (ms, .inl (cA 0, 720, .inl (upd sa n (nI 0)))), (mk, .inl (cA 0, 18720, .inl kd)), (mv, .inl (cA 0, 18720, .inl vl))] H := hP
            have hD : va_D A [(mo, .inr (8, [.int th, .ref ms, .ref mk, .ref mv, .int (nI mm), .int (nI ml), .int (nI cnt), .ref mt, .int mp, .int mn, .int (nI mu), .ref ma, .int (nI at_), .int (nI b), .int (nI 82), .int (nI n), .ref m1, .ref m2, .ref m3, .ref m4, .int (nI rn), .int (nI pw), .ref mc])), (ms, .inl (cA 0, 720, .inl (upd sa n (nI 0)))), (mk, .inl (cA 0, 18720, .inl kd)), (mv, .inl (cA 0, 18720, .inl vl))] := hD
            refine lv_aload_n hx hb xd_Mo_doObject_125 rfl (lv_at hl 0 rfl) ?_
            refine va_get (D := G) (ci := 8) (v := .int (nI 82)) (C := xc_Mo) (T := xf_Mo) (N := 23) hx hb hts xw_Mo hown hK.1 hP 0 rfl rfl 14 (by decide) (hts _ xm_633) (fun _ h9 => h9) rfl xd_Mo_doObject_126 ?_
            refine lv_bipush (v := nI 82) hx hb xd_Mo_doObject_129 (by decide) ?_
            refine lv_icmp_ne (tgt := 142) hx hb xd_Mo_doObject_131 (by decide) (fun c_131_18 => absurd (by decide) c_131_18) (fun c_131_18 => ?_)
            refine lv_aload_n hx hb xd_Mo_doObject_134 rfl (lv_at hl 0 rfl) ?_
            refine lv_aload_n hx hb xd_Mo_doObject_135 rfl (lv_at hl 0 rfl) ?_
            refine va_get (D := G) (ci := 8) (v := .int (nI n)) (C := xc_Mo) (T := xf_Mo) (N := 23) hx hb hts xw_Mo hown hK.1 hP 0 rfl rfl 15 (by decide) (hts _ xm_634) (fun _ h9 => h9) rfl xd_Mo_doObject_136 ?_
            have hPc := hP.sub (ws' := [(mo, .inr (8, [.int th, .ref ms, .ref mk, .ref mv, .int (nI mm), .int (nI ml), .int (nI cnt), .ref mt, .int mp, .int mn, .int (nI mu), .ref ma, .int (nI at_), .int (nI b), .int (nI 82), .int (nI n), .ref m1, .ref m2, .ref m3, .ref m4, .int (nI rn), .int (nI pw), .ref mc])), (mk, .inl (cA 0, 18720, .inl kd)), (mv, .inl (cA 0, 18720, .inl vl))]) [0, 2, 3] rfl
            have hDc := hD.sub (ws' := [(mo, .inr (8, [.int th, .ref ms, .ref mk, .ref mv, .int (nI mm), .int (nI ml), .int (nI cnt), .ref mt, .int mp, .int mn, .int (nI mu), .ref ma, .int (nI at_), .int (nI b), .int (nI 82), .int (nI n), .ref m1, .ref m2, .ref m3, .ref m4, .int (nI rn), .int (nI pw), .ref mc])), (mk, .inl (cA 0, 18720, .inl kd)), (mv, .inl (cA 0, 18720, .inl vl))]) [0, 2, 3] (by decide) rfl
            have hFc := va_free (wc := [(mo, .inr (8, [.int th, .ref ms, .ref mk, .ref mv, .int (nI mm), .int (nI ml), .int (nI cnt), .ref mt, .int mp, .int mn, .int (nI mu), .ref ma, .int (nI at_), .int (nI b), .int (nI 82), .int (nI n), .ref m1, .ref m2, .ref m3, .ref m4, .int (nI rn), .int (nI pw), .ref mc])), (mk, .inl (cA 0, 18720, .inl kd)), (mv, .inl (cA 0, 18720, .inl vl))]) hD hS hA [0, 2, 3] rfl
            refine va_callv (va_runV (As := [.int (nI n)]) (rest := []) ⟨hx, hb, hml, hown, hts⟩ (ct_Mo_empty l G cA H.size mo th ms mk mv mm ml cnt mt mp mn mu ma at_ (nI b) (nI 82) (nI n) m1 m2 m3 m4 rn pw mc kd vl n q_n) (cwV 1 hts (gi_v xm_743 xm_745 xs_Mo_empty xm_9 xm_746) rfl rfl rfl ⟨rfl, xh_Mo_empty⟩ ⟨Nat.le_of_ble_eq_true rfl, Nat.le_of_ble_eq_true rfl⟩) (pv_w hK hPc hDc (ci := 8) (q0 := 0) rfl rfl) rfl rfl hl.1 rfl (lv_room (Nat.le_of_ble_eq_true rfl)) xd_Mo_doObject_139 ⟨Nat.le_of_ble_eq_true rfl, Nat.le_of_ble_eq_true rfl⟩) hS (fun q _ h => hFc q h) hFc (fun u9 t9 H1 locs ht hvm q_21 hB hz1 hk1 hS => ?_)
            obtain ⟨hP1, hD1⟩ := hB
            rw [ht] at hP1
            obtain ⟨hP, hD⟩ := va_join (wr := [(ms, .inl (cA 0, 720, .inl (upd sa n (nI 0))))]) (w1 := [(mo, .inr (8, [.int th, .ref ms, .ref mk, .ref mv, .int (nI mm), .int (nI ml), .int (nI cnt), .ref mt, .int mp, .int mn, .int (nI mu), .ref ma, .int (nI at_), .int (nI b), .int (nI 82), .int (nI n), .ref m1, .ref m2, .ref m3, .ref m4, .int (nI rn), .int (nI pw), .ref mc])), (mk, .inl (cA 0, 18720, .inl (ey_A kd n 26))), (mv, .inl (cA 0, 18720, .inl (ey_A vl n 26)))]) hP hD [0, 2, 3] [1] rfl rfl (by decide) (by decide) hk1 hFc hP1 hD1
            generalize H1 = H at hP hS ⊢
            have hP : va_P G xk_cl [(ms, .inl (cA 0, 720, .inl (upd sa n (nI 0)))), (mo, .inr (8, [.int th, .ref ms, .ref mk, .ref mv, .int (nI mm), .int (nI ml), .int (nI cnt), .ref mt, .int mp, .int mn, .int (nI mu), .ref ma, .int (nI at_), .int (nI b), .int (nI 82), .int (nI n), .ref m1, .ref m2, .ref m3, .ref m4, .int (nI rn), .int (nI pw), .ref mc])), (mk, .inl (cA 0, 18720, .inl (ey_A kd n 26))), (mv, .inl (cA 0, 18720, .inl (ey_A vl n 26)))] H := hP
            have hD : va_D A [(ms, .inl (cA 0, 720, .inl (upd sa n (nI 0)))), (mo, .inr (8, [.int th, .ref ms, .ref mk, .ref mv, .int (nI mm), .int (nI ml), .int (nI cnt), .ref mt, .int mp, .int mn, .int (nI mu), .ref ma, .int (nI at_), .int (nI b), .int (nI 82), .int (nI n), .ref m1, .ref m2, .ref m3, .ref m4, .int (nI rn), .int (nI pw), .ref mc])), (mk, .inl (cA 0, 18720, .inl (ey_A kd n 26))), (mv, .inl (cA 0, 18720, .inl (ey_A vl n 26)))] := hD
            refine lv_iconst (v := nI 0) hx hb xd_Mo_doObject_142 (by decide) ?_
            have hP9 : va_P G xk_cl [(mo, .inr (8, [.int th, .ref ms, .ref mk, .ref mv, .int (nI mm), .int (nI ml), .int (nI cnt), .ref mt, .int mp, .int mn, .int (nI mu), .ref ma, .int (nI at_), .int (nI b), .int (nI 82), .int (nI n), .ref m1, .ref m2, .ref m3, .ref m4, .int (nI rn), .int (nI pw), .ref mc])), (ms, .inl (cA 0, 720, .inl (upd sa n (nI 0)))), (mk, .inl (cA 0, 18720, .inl (ey_A kd n 26))), (mv, .inl (cA 0, 18720, .inl (ey_A vl n 26)))] _ := hP.sub [1, 0, 2, 3] rfl
            have hD9 : va_D A [(mo, .inr (8, [.int th, .ref ms, .ref mk, .ref mv, .int (nI mm), .int (nI ml), .int (nI cnt), .ref mt, .int mp, .int mn, .int (nI mu), .ref ma, .int (nI at_), .int (nI b), .int (nI 82), .int (nI n), .ref m1, .ref m2, .ref m3, .ref m4, .int (nI rn), .int (nI pw), .ref mc])), (ms, .inl (cA 0, 720, .inl (upd sa n (nI 0)))), (mk, .inl (cA 0, 18720, .inl (ey_A kd n 26))), (mv, .inl (cA 0, 18720, .inl (ey_A vl n 26)))] := hD.sub [1, 0, 2, 3] (by decide) rfl
            exact W.iret (v := nI 0) hx hb hr (fun T9 ht hW => ⟨⟨_, (upd sa n (nI 0), ey_A kd n 26, ey_A vl n 26), rfl, by rw [ex_l, if_pos ((wn_82 n (by omega)).mpr ⟨q_n, q_0⟩), if_neg (by decide), if_pos rfl, ex_R, if_neg c_60_11, if_neg q_p]; exact ⟨rfl, sn_e (sn_s hR n _) n, fr_t (fr_s _ _ _ _ q_n) (fr_e _ _ _ q_n)⟩, by rw [ht]; exact hP9, hD9⟩, hS.F ht⟩) hS.2.2 xd_Mo_doObject_143
          · have q_p : cl_P fo (st n) := Classical.byContradiction fun z => c_83_15 (cl_D_z.mpr z)
            refine lv_bipush (v := nI 6) hx hb xd_Mo_doObject_86 (by decide) ?_
            have hP9 : va_P G xk_cl [(mo, .inr (8, [.int th, .ref ms, .ref mk, .ref mv, .int (nI mm), .int (nI ml), .int (nI cnt), .ref mt, .int mp, .int mn, .int (nI mu), .ref ma, .int (nI at_), .int (nI b), .int (nI 82), .int (nI n), .ref m1, .ref m2, .ref m3, .ref m4, .int (nI rn), .int (nI pw), .ref mc])), (ms, .inl (cA 0, 720, .inl sa)), (mk, .inl (cA 0, 18720, .inl kd)), (mv, .inl (cA 0, 18720, .inl vl))] _ := hP.sub [0, 1, 2, 3] rfl
            have hD9 : va_D A [(mo, .inr (8, [.int th, .ref ms, .ref mk, .ref mv, .int (nI mm), .int (nI ml), .int (nI cnt), .ref mt, .int mp, .int mn, .int (nI mu), .ref ma, .int (nI at_), .int (nI b), .int (nI 82), .int (nI n), .ref m1, .ref m2, .ref m3, .ref m4, .int (nI rn), .int (nI pw), .ref mc])), (ms, .inl (cA 0, 720, .inl sa)), (mk, .inl (cA 0, 18720, .inl kd)), (mv, .inl (cA 0, 18720, .inl vl))] := hD.sub [0, 1, 2, 3] (by decide) rfl
            exact W.iret (v := nI 6) hx hb hr (fun T9 ht hW => ⟨⟨_, (sa, kd, vl), rfl, by rw [ex_l, if_pos ((wn_82 n (by omega)).mpr ⟨q_n, q_0⟩), if_neg (by decide), if_pos rfl, ex_R, if_neg c_60_11, if_pos q_p]; exact ⟨rfl, hR, fr_r _ _ _⟩, by rw [ht]; exact hP9, hD9⟩, hS.F ht⟩) hS.2.2 xd_Mo_doObject_88
        · refine lv_iconst (v := nI 3) hx hb xd_Mo_doObject_63 (by decide) ?_
          have hP9 : va_P G xk_cl [(mo, .inr (8, [.int th, .ref ms, .ref mk, .ref mv, .int (nI mm), .int (nI ml), .int (nI cnt), .ref mt, .int mp, .int mn, .int (nI mu), .ref ma, .int (nI at_), .int (nI b), .int (nI 82), .int (nI n), .ref m1, .ref m2, .ref m3, .ref m4, .int (nI rn), .int (nI pw), .ref mc])), (ms, .inl (cA 0, 720, .inl sa)), (mk, .inl (cA 0, 18720, .inl kd)), (mv, .inl (cA 0, 18720, .inl vl))] _ := hP.sub [0, 1, 2, 3] rfl
          have hD9 : va_D A [(mo, .inr (8, [.int th, .ref ms, .ref mk, .ref mv, .int (nI mm), .int (nI ml), .int (nI cnt), .ref mt, .int mp, .int mn, .int (nI mu), .ref ma, .int (nI at_), .int (nI b), .int (nI 82), .int (nI n), .ref m1, .ref m2, .ref m3, .ref m4, .int (nI rn), .int (nI pw), .ref mc])), (ms, .inl (cA 0, 720, .inl sa)), (mk, .inl (cA 0, 18720, .inl kd)), (mv, .inl (cA 0, 18720, .inl vl))] := hD.sub [0, 1, 2, 3] (by decide) rfl
          exact W.iret (v := nI 3) hx hb hr (fun T9 ht hW => ⟨⟨_, (sa, kd, vl), rfl, by rw [ex_l, if_pos ((wn_82 n (by omega)).mpr ⟨q_n, q_0⟩), if_neg (by decide), if_pos rfl, ex_R, if_pos c_60_11]; exact ⟨rfl, hR, fr_r _ _ _⟩, by rw [ht]; exact hP9, hD9⟩, hS.F ht⟩) hS.2.2 xd_Mo_doObject_64
      · have q_0 : n = 0 := nI_z (by omega) c_22_9
        refine lv_iconst (v := nI 2) hx hb xd_Mo_doObject_25 (by decide) ?_
        have hP9 : va_P G xk_cl [(mo, .inr (8, [.int th, .ref ms, .ref mk, .ref mv, .int (nI mm), .int (nI ml), .int (nI cnt), .ref mt, .int mp, .int mn, .int (nI mu), .ref ma, .int (nI at_), .int (nI b), .int (nI 82), .int (nI n), .ref m1, .ref m2, .ref m3, .ref m4, .int (nI rn), .int (nI pw), .ref mc])), (ms, .inl (cA 0, 720, .inl sa)), (mk, .inl (cA 0, 18720, .inl kd)), (mv, .inl (cA 0, 18720, .inl vl))] _ := hP.sub [0, 1, 2, 3] rfl
        have hD9 : va_D A [(mo, .inr (8, [.int th, .ref ms, .ref mk, .ref mv, .int (nI mm), .int (nI ml), .int (nI cnt), .ref mt, .int mp, .int mn, .int (nI mu), .ref ma, .int (nI at_), .int (nI b), .int (nI 82), .int (nI n), .ref m1, .ref m2, .ref m3, .ref m4, .int (nI rn), .int (nI pw), .ref mc])), (ms, .inl (cA 0, 720, .inl sa)), (mk, .inl (cA 0, 18720, .inl kd)), (mv, .inl (cA 0, 18720, .inl vl))] := hD.sub [0, 1, 2, 3] (by decide) rfl
        exact W.iret (v := nI 2) hx hb hr (fun T9 ht hW => ⟨⟨_, (sa, kd, vl), rfl, by rw [ex_l, if_neg (fun z => by have := (wn_82 n (by omega)).mp z; omega)]; exact ⟨rfl, hR, fr_r _ _ _⟩, by rw [ht]; exact hP9, hD9⟩, hS.F ht⟩) hS.2.2 xd_Mo_doObject_26
  · refine lv_aload_n hx hb xd_Mo_doObject_0 rfl (lv_at hl 0 rfl) ?_
    refine va_get (D := G) (ci := 8) (v := .int (nI n)) (C := xc_Mo) (T := xf_Mo) (N := 23) hx hb hts xw_Mo hown hK.1 hP 0 rfl rfl 15 (by decide) (hts _ xm_634) (fun _ h9 => h9) rfl xd_Mo_doObject_1 ?_
    refine lv_bipush (v := nI 40) hx hb xd_Mo_doObject_4 (by decide) ?_
    refine lv_icmp_ge (tgt := 25) hx hb xd_Mo_doObject_6 (by decide) (fun c_6_21 => ?_) (fun c_6_21 => ?_)
    · have q_n := nI_gle (by omega) (by omega) c_6_21
      refine lv_iconst (v := nI 2) hx hb xd_Mo_doObject_25 (by decide) ?_
      have hP9 : va_P G xk_cl [(mo, .inr (8, [.int th, .ref ms, .ref mk, .ref mv, .int (nI mm), .int (nI ml), .int (nI cnt), .ref mt, .int mp, .int mn, .int (nI mu), .ref ma, .int (nI at_), .int (nI b), .int (nI 71), .int (nI n), .ref m1, .ref m2, .ref m3, .ref m4, .int (nI rn), .int (nI pw), .ref mc])), (ms, .inl (cA 0, 720, .inl sa)), (mk, .inl (cA 0, 18720, .inl kd)), (mv, .inl (cA 0, 18720, .inl vl))] _ := hP.sub [0, 1, 2, 3] rfl
      have hD9 : va_D A [(mo, .inr (8, [.int th, .ref ms, .ref mk, .ref mv, .int (nI mm), .int (nI ml), .int (nI cnt), .ref mt, .int mp, .int mn, .int (nI mu), .ref ma, .int (nI at_), .int (nI b), .int (nI 71), .int (nI n), .ref m1, .ref m2, .ref m3, .ref m4, .int (nI rn), .int (nI pw), .ref mc])), (ms, .inl (cA 0, 720, .inl sa)), (mk, .inl (cA 0, 18720, .inl kd)), (mv, .inl (cA 0, 18720, .inl vl))] := hD.sub [0, 1, 2, 3] (by decide) rfl
      exact W.iret (v := nI 2) hx hb hr (fun T9 ht hW => ⟨⟨_, (sa, kd, vl), rfl, by rw [ex_l, if_neg (fun z => by have := (wn_71 n (by omega)).mp z; omega)]; exact ⟨rfl, hR, fr_r _ _ _⟩, by rw [ht]; exact hP9, hD9⟩, hS.F ht⟩) hS.2.2 xd_Mo_doObject_26
    · have q_n := nI_gnl (by omega) (by omega) c_6_21
      refine lv_aload_n hx hb xd_Mo_doObject_9 rfl (lv_at hl 0 rfl) ?_
      refine va_get (D := G) (ci := 8) (v := .int (nI 71)) (C := xc_Mo) (T := xf_Mo) (N := 23) hx hb hts xw_Mo hown hK.1 hP 0 rfl rfl 14 (by decide) (hts _ xm_633) (fun _ h9 => h9) rfl xd_Mo_doObject_10 ?_
      refine lv_bipush (v := nI 82) hx hb xd_Mo_doObject_13 (by decide) ?_
      refine lv_icmp_ne (tgt := 27) hx hb xd_Mo_doObject_15 (by decide) (fun c_15_22 => ?_) (fun c_15_22 => absurd c_15_22 (by decide))
      refine lv_aload_n hx hb xd_Mo_doObject_27 rfl (lv_at hl 0 rfl) ?_
      refine va_get (D := G) (ci := 8) (v := .int (nI 71)) (C := xc_Mo) (T := xf_Mo) (N := 23) hx hb hts xw_Mo hown hK.1 hP 0 rfl rfl 14 (by decide) (hts _ xm_633) (fun _ h9 => h9) rfl xd_Mo_doObject_28 ?_
      refine lv_bipush (v := nI 65) hx hb xd_Mo_doObject_31 (by decide) ?_
      refine lv_icmp_ne (tgt := 51) hx hb xd_Mo_doObject_33 (by decide) (fun c_33_23 => ?_) (fun c_33_23 => absurd c_33_23 (by decide))
      refine lv_aload_n hx hb xd_Mo_doObject_51 rfl (lv_at hl 0 rfl) ?_
      refine va_get (D := G) (ci := 8) (v := .ref ms) (C := xc_Mo) (T := xf_Mo) (N := 23) hx hb hts xw_Mo hown hK.1 hP 0 rfl rfl 1 (by decide) (hts _ xm_620) (fun _ h9 => h9) rfl xd_Mo_doObject_52 ?_
      refine lv_aload_n hx hb xd_Mo_doObject_55 rfl (lv_at hl 0 rfl) ?_
      refine va_get (D := G) (ci := 8) (v := .int (nI n)) (C := xc_Mo) (T := xf_Mo) (N := 23) hx hb hts xw_Mo hown hK.1 hP 0 rfl rfl 15 (by decide) (hts _ xm_634) (fun _ h9 => h9) rfl xd_Mo_doObject_56 ?_
      refine wx_iald hx hb hK.1 hP 1 0 rfl rfl (k := n) (by omega) (by decide) xd_Mo_doObject_59 ?_
      refine lx_top (z := st n) (hR.1 _ q_n) ?_
      refine lv_if_ne (tgt := 65) hx hb xd_Mo_doObject_60 (by decide) (fun c_60_24 => ?_) (fun c_60_24 => ?_)
      · refine lv_aload_n hx hb xd_Mo_doObject_65 rfl (lv_at hl 0 rfl) ?_
        refine va_get (D := G) (ci := 8) (v := .int (nI 71)) (C := xc_Mo) (T := xf_Mo) (N := 23) hx hb hts xw_Mo hown hK.1 hP 0 rfl rfl 14 (by decide) (hts _ xm_633) (fun _ h9 => h9) rfl xd_Mo_doObject_66 ?_
        refine lv_bipush (v := nI 82) hx hb xd_Mo_doObject_69 (by decide) ?_
        refine lv_icmp_ne (tgt := 89) hx hb xd_Mo_doObject_71 (by decide) (fun c_71_25 => ?_) (fun c_71_25 => absurd c_71_25 (by decide))
        refine lv_aload_n hx hb xd_Mo_doObject_89 rfl (lv_at hl 0 rfl) ?_
        refine va_get (D := G) (ci := 8) (v := .ref ms) (C := xc_Mo) (T := xf_Mo) (N := 23) hx hb hts xw_Mo hown hK.1 hP 0 rfl rfl 1 (by decide) (hts _ xm_620) (fun _ h9 => h9) rfl xd_Mo_doObject_90 ?_
        refine lv_aload_n hx hb xd_Mo_doObject_93 rfl (lv_at hl 0 rfl) ?_
        refine va_get (D := G) (ci := 8) (v := .int (nI n)) (C := xc_Mo) (T := xf_Mo) (N := 23) hx hb hts xw_Mo hown hK.1 hP 0 rfl rfl 15 (by decide) (hts _ xm_634) (fun _ h9 => h9) rfl xd_Mo_doObject_94 ?_
        refine lv_aload_n hx hb xd_Mo_doObject_97 rfl (lv_at hl 0 rfl) ?_
        refine va_get (D := G) (ci := 8) (v := .int (nI 71)) (C := xc_Mo) (T := xf_Mo) (N := 23) hx hb hts xw_Mo hown hK.1 hP 0 rfl rfl 14 (by decide) (hts _ xm_633) (fun _ h9 => h9) rfl xd_Mo_doObject_98 ?_
        refine lv_bipush (v := nI 65) hx hb xd_Mo_doObject_101 (by decide) ?_
        refine lv_icmp_ne (tgt := 110) hx hb xd_Mo_doObject_103 (by decide) (fun c_103_26 => ?_) (fun c_103_26 => absurd c_103_26 (by decide))
        refine lv_aload_n hx hb xd_Mo_doObject_110 rfl (lv_at hl 0 rfl) ?_
        refine va_get (D := G) (ci := 8) (v := .int (nI 71)) (C := xc_Mo) (T := xf_Mo) (N := 23) hx hb hts xw_Mo hown hK.1 hP 0 rfl rfl 14 (by decide) (hts _ xm_633) (fun _ h9 => h9) rfl xd_Mo_doObject_111 ?_
        refine lv_bipush (v := nI 71) hx hb xd_Mo_doObject_114 (by decide) ?_
        refine lv_icmp_ne (tgt := 123) hx hb xd_Mo_doObject_116 (by decide) (fun c_116_27 => absurd (by decide) c_116_27) (fun c_116_27 => ?_)
        refine lv_iconst (v := nI 2) hx hb xd_Mo_doObject_119 (by decide) ?_
        refine lv_goto (tgt := 124) hx hb xd_Mo_doObject_120 (by decide) ?_
        refine wx_iast hx hb hK.1 hP hD hS 1 0 rfl rfl (k := n) (z := nI 2) (rfl) (by omega) (by decide) xd_Mo_doObject_124 (fun H locs hP hD hS => ?_)
        have hP : va_P G xk_cl [(mo, .inr (8, [.int th, .ref ms, .ref mk, .ref mv, .int (nI mm), .int (nI ml), .int (nI cnt), .ref mt, .int mp, .int mn, .int (nI mu), .ref ma, .int (nI at_), .int (nI b), .int (nI 71), .int (nI n), .ref m1, .ref m2, .ref m3, .ref m4, .int (nI rn), .int (nI pw), .ref mc])), (ms, .inl (cA 0, 720, .inl (upd sa n (nI 2)))), (mk, .inl (cA 0, 18720, .inl kd)), (mv, .inl (cA 0, 18720, .inl vl))] H := hP
        have hD : va_D A [(mo, .inr (8, [.int th, .ref ms, .ref mk, .ref mv, .int (nI mm), .int (nI ml), .int (nI cnt), .ref mt, .int mp, .int mn, .int (nI mu), .ref ma, .int (nI at_), .int (nI b), .int (nI 71), .int (nI n), .ref m1, .ref m2, .ref m3, .ref m4, .int (nI rn), .int (nI pw), .ref mc])), (ms, .inl (cA 0, 720, .inl (upd sa n (nI 2)))), (mk, .inl (cA 0, 18720, .inl kd)), (mv, .inl (cA 0, 18720, .inl vl))] := hD
        refine lv_aload_n hx hb xd_Mo_doObject_125 rfl (lv_at hl 0 rfl) ?_
        refine va_get (D := G) (ci := 8) (v := .int (nI 71)) (C := xc_Mo) (T := xf_Mo) (N := 23) hx hb hts xw_Mo hown hK.1 hP 0 rfl rfl 14 (by decide) (hts _ xm_633) (fun _ h9 => h9) rfl xd_Mo_doObject_126 ?_
        refine lv_bipush (v := nI 82) hx hb xd_Mo_doObject_129 (by decide) ?_
        refine lv_icmp_ne (tgt := 142) hx hb xd_Mo_doObject_131 (by decide) (fun c_131_28 => ?_) (fun c_131_28 => absurd c_131_28 (by decide))
        refine lv_iconst (v := nI 0) hx hb xd_Mo_doObject_142 (by decide) ?_
        have hP9 : va_P G xk_cl [(mo, .inr (8, [.int th, .ref ms, .ref mk, .ref mv, .int (nI mm), .int (nI ml), .int (nI cnt), .ref mt, .int mp, .int mn, .int (nI mu), .ref ma, .int (nI at_), .int (nI b), .int (nI 71), .int (nI n), .ref m1, .ref m2, .ref m3, .ref m4, .int (nI rn), .int (nI pw), .ref mc])), (ms, .inl (cA 0, 720, .inl (upd sa n (nI 2)))), (mk, .inl (cA 0, 18720, .inl kd)), (mv, .inl (cA 0, 18720, .inl vl))] _ := hP.sub [0, 1, 2, 3] rfl
        have hD9 : va_D A [(mo, .inr (8, [.int th, .ref ms, .ref mk, .ref mv, .int (nI mm), .int (nI ml), .int (nI cnt), .ref mt, .int mp, .int mn, .int (nI mu), .ref ma, .int (nI at_), .int (nI b), .int (nI 71), .int (nI n), .ref m1, .ref m2, .ref m3, .ref m4, .int (nI rn), .int (nI pw), .ref mc])), (ms, .inl (cA 0, 720, .inl (upd sa n (nI 2)))), (mk, .inl (cA 0, 18720, .inl kd)), (mv, .inl (cA 0, 18720, .inl vl))] := hD.sub [0, 1, 2, 3] (by decide) rfl
        exact W.iret (v := nI 0) hx hb hr (fun T9 ht hW => ⟨⟨_, (upd sa n (nI 2), kd, vl), rfl, by rw [ex_l, if_pos ((wn_71 n (by omega)).mpr q_n), if_neg (by decide), if_neg (by decide), if_pos rfl, ex_G, if_neg c_60_24]; exact ⟨rfl, sn_s hR n _, fr_s _ _ _ _ q_n⟩, by rw [ht]; exact hP9, hD9⟩, hS.F ht⟩) hS.2.2 xd_Mo_doObject_143
      · refine lv_iconst (v := nI 3) hx hb xd_Mo_doObject_63 (by decide) ?_
        have hP9 : va_P G xk_cl [(mo, .inr (8, [.int th, .ref ms, .ref mk, .ref mv, .int (nI mm), .int (nI ml), .int (nI cnt), .ref mt, .int mp, .int mn, .int (nI mu), .ref ma, .int (nI at_), .int (nI b), .int (nI 71), .int (nI n), .ref m1, .ref m2, .ref m3, .ref m4, .int (nI rn), .int (nI pw), .ref mc])), (ms, .inl (cA 0, 720, .inl sa)), (mk, .inl (cA 0, 18720, .inl kd)), (mv, .inl (cA 0, 18720, .inl vl))] _ := hP.sub [0, 1, 2, 3] rfl
        have hD9 : va_D A [(mo, .inr (8, [.int th, .ref ms, .ref mk, .ref mv, .int (nI mm), .int (nI ml), .int (nI cnt), .ref mt, .int mp, .int mn, .int (nI mu), .ref ma, .int (nI at_), .int (nI b), .int (nI 71), .int (nI n), .ref m1, .ref m2, .ref m3, .ref m4, .int (nI rn), .int (nI pw), .ref mc])), (ms, .inl (cA 0, 720, .inl sa)), (mk, .inl (cA 0, 18720, .inl kd)), (mv, .inl (cA 0, 18720, .inl vl))] := hD.sub [0, 1, 2, 3] (by decide) rfl
        exact W.iret (v := nI 3) hx hb hr (fun T9 ht hW => ⟨⟨_, (sa, kd, vl), rfl, by rw [ex_l, if_pos ((wn_71 n (by omega)).mpr q_n), if_neg (by decide), if_neg (by decide), if_pos rfl, ex_G, if_pos c_60_24]; exact ⟨rfl, hR, fr_r _ _ _⟩, by rw [ht]; exact hP9, hD9⟩, hS.F ht⟩) hS.2.2 xd_Mo_doObject_64
