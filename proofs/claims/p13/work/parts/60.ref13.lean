theorem so_le {x : Int32} (h : x = nI 0 ∨ x = nI 1 ∨ x = nI 2) : x ≤ 0 ↔ x = 0 := by rcases h with rfl | rfl | rfl <;> decide
theorem nz_t {st : Nat → Int32} {i : Nat} (h : ¬ st i = 0) : (fun j => !(st j == 0)) i = true := by simp [h]
theorem nz_f {st : Nat → Int32} {i : Nat} (h : st i = 0) : (fun j => !(st j == 0)) i = false := by simp [h]
def kc_B (ce : Nat → Int32) (n : Nat) : Nat → Bool := fun j => decide (j / 26 = n) && !(ce j == 0)
theorem kc_w (ce : Nat → Int32) (n : Nat) : ∀ j, ct_N (kc_B ce n) j = if j ≤ n * 26 then 0 else if j ≤ n * 26 + 26 then ct_N (fun k => !(ce (n * 26 + k) == 0)) (j - n * 26) else ct_N (fun k => !(ce (n * 26 + k) == 0)) 26
  | 0 => by rw [if_pos (Nat.zero_le _)]; rfl
  | j + 1 => by
    have ih := kc_w ce n j
    by_cases q1 : j + 1 ≤ n * 26
    · rw [if_pos (by omega)] at ih
      rw [if_pos q1, ct_N_f (by unfold kc_B; rw [decide_eq_false (by omega)]; rfl), ih]
    · rw [if_neg q1]
      by_cases q2 : j + 1 ≤ n * 26 + 26
      · rw [if_pos q2]
        have e1 : j + 1 - n * 26 = (j - n * 26) + 1 := by omega
        have e2 : ct_N (kc_B ce n) j = ct_N (fun k => !(ce (n * 26 + k) == 0)) (j - n * 26) := by
          rw [ih]
          by_cases q3 : j ≤ n * 26
          · rw [if_pos q3, show j - n * 26 = 0 by omega]; rfl
          · rw [if_neg q3, if_pos (by omega)]
        have e3 : kc_B ce n j = (fun k => !(ce (n * 26 + k) == 0)) (j - n * 26) := by
          unfold kc_B
          rw [decide_eq_true (by omega)]
          show (true && !(ce j == 0)) = !(ce (n * 26 + (j - n * 26)) == 0)
          rw [show n * 26 + (j - n * 26) = j by omega, Bool.true_and]
        rw [e1]
        cases q : kc_B ce n j with
        | true => rw [ct_N_t q, ct_N_t (e3.symm.trans q), e2]
        | false => rw [ct_N_f q, ct_N_f (e3.symm.trans q), e2]
      · rw [if_neg q2, ct_N_f (by unfold kc_B; rw [decide_eq_false (by omega)]; rfl), ih, if_neg (by omega)]
        by_cases q3 : j ≤ n * 26 + 26
        · rw [if_pos q3, show j - n * 26 = 26 by omega]
        · rw [if_neg q3]
theorem kc_e (ce : Nat → Int32) {n : Nat} (hn : n < 40) : nI (ct_N (kc_B ce n) 1040) = sp_kc ce n := by
  rw [kc_w, if_neg (by omega), sp_kc]
  by_cases q : 1040 ≤ n * 26 + 26
  · rw [if_pos q, show 1040 - n * 26 = 26 by omega]
  · rw [if_neg q]
def ot_B (ce : Nat → Int32) (n : Nat) : Nat → Bool := fun j => ce j == en_C (nI 2) (nI n)
theorem ot_i {ce : Nat → Int32} {n j : Nat} (hn : n < 40) : ce j = en_C (nI 2) (nI n) ↔ (en_K (ce j) = nI 2 ∧ en_V (ce j) = nI n) := by
  constructor
  · intro h; rw [h]; exact ⟨en_KC (k := 2) (by decide) _, en_Vp (by decide) (by omega)⟩
  · intro h; rw [← en_CKV (ce j), h.1, h.2]
theorem ot_t {ce : Nat → Int32} {n j : Nat} (h : ce j = en_C (nI 2) (nI n)) : ot_B ce n j = true := by unfold ot_B; rw [h]; exact beq_self_eq_true _
theorem ot_f {ce : Nat → Int32} {n j : Nat} (h : ¬ ce j = en_C (nI 2) (nI n)) : ot_B ce n j = false := by unfold ot_B; exact beq_eq_false_iff_ne.mpr h
theorem kc_t {ce : Nat → Int32} {n j : Nat} (h1 : j / 26 = n) (h : ¬ ce j = 0) : kc_B ce n j = true := by unfold kc_B; rw [decide_eq_true h1]; simp [h]
theorem kc_f {ce : Nat → Int32} {n j : Nat} (h : ¬ j / 26 = n ∨ ce j = 0) : kc_B ce n j = false := by
  unfold kc_B
  rcases h with h | h
  · rw [decide_eq_false h]; rfl
  · rw [h, Bool.and_eq_false_iff]; exact Or.inr rfl
abbrev w4_P (wh : Int32) : Prop := wh = nI 0 ∨ wh = nI 1 ∨ wh = nI 2 ∨ wh = nI 3
theorem in_w4 (x : Int32) : in_R x (nI 0) (nI 3) = 0 ↔ ¬ w4_P x := by
  unfold in_R
  by_cases h : x < nI 0
  · rw [if_neg (fun z => z.1 h)]
    refine ⟨fun _ z => ?_, fun _ => rfl⟩
    rcases z with rfl | rfl | rfl | rfl <;> exact absurd h (by decide)
  · obtain ⟨j, hj, rfl⟩ := nI_of h
    by_cases q : nI 3 < nI j
    · rw [if_neg (fun z => z.2 q)]
      refine ⟨fun _ z => ?_, fun _ => rfl⟩
      rcases z with z | z | z | z <;> (rw [z] at q; exact absurd q (by decide))
    · rw [if_pos ⟨h, q⟩]
      have hj3 := nI_gnlt (by decide) hj q
      refine ⟨fun z => absurd z (by decide), fun z => absurd ?_ z⟩
      rcases (show j = 0 ∨ j = 1 ∨ j = 2 ∨ j = 3 by omega) with rfl | rfl | rfl | rfl <;> decide
def ob_Q (st ce : Nat → Int32) (x0 wh : Int32) (r th2 : Int32) : Prop := (∀ n, n < 40 → x0 = nI n → w4_P wh → r = ob_R wh st ce n ∧ th2 = nI 0) ∧ ((sp_ob x0 = 0 ∨ ¬ w4_P wh) → th2 = nI 1)
theorem ob_y {st ce : Nat → Int32} {n : Nat} {x0 wh r : Int32} (e : x0 = nI n) (hn : n < 40) (hw : w4_P wh) (hr : r = ob_R wh st ce n) : ob_Q st ce x0 wh r (nI 0) := by
  subst e
  exact ⟨fun n2 h1 h3 _ => by rw [nI_ge' (by omega) (by omega) h3] at hr; exact ⟨hr, rfl⟩, fun z => by rcases z with z | z; exact absurd z (so_F hn); exact absurd hw z⟩
theorem ob_n {st ce : Nat → Int32} {x0 wh r : Int32} (h : sp_ob x0 = 0 ∨ ¬ w4_P wh) : ob_Q st ce x0 wh r (nI 1) :=
  ⟨fun n hn h1 h2 => by
    subst h1
    rcases h with z | z
    · exact absurd z (so_F hn)
    · exact absurd h2 z, fun _ => rfl⟩
theorem sg_e {x : Int32} (h : x = nI 0 ∨ x = nI 1 ∨ x = nI 2) (g : ¬ x ≤ 0) : nI 1 = sp_th x := by rcases h with rfl | rfl | rfl <;> first | rfl | exact absurd (by decide) g
set_option maxHeartbeats 4000000 in
set_option maxRecDepth 100000 in
theorem ct_Mo_told (l : Launch) (G : va_G) (cA : Nat → ClassId) (sz : Nat) (mo : Nat) (th : Int32) (ms : Nat) (mk : Nat) (mv : Nat) (mm : Nat) (ml : Nat) (cnt : Nat) (mt : Nat) (mp : Int32) (mn : Int32) (mu : Nat) (ma : Nat) (at_ : Nat) (bd : Int32) (le : Int32) (ob : Int32) (m1 : Nat) (m2 : Nat) (m3 : Nat) (m4 : Nat) (rn : Nat) (pw : Nat) (mc : Nat) (sa : Nat → Int32) (kd : Nat → Int32) (vl : Nat → Int32) (st : Nat → Int32) (ce : Nat → Int32) (hR : sn_R sa kd vl st ce) (hso : st_O st) (wh : Int32) : Met l xy_Mo_told (.code xy_Mo_told xb_Mo_told 4 (some .int) :: tw_W) ({ frames := 0, cells := 0, slots := 0, locals := 0 }) (pc_w G cA [(mo, .inr (8, [.int th, .ref ms, .ref mk, .ref mv, .int (nI mm), .int (nI ml), .int (nI cnt), .ref mt, .int mp, .int mn, .int (nI mu), .ref ma, .int (nI at_), .int bd, .int le, .int ob, .ref m1, .ref m2, .ref m3, .ref m4, .int (nI rn), .int (nI pw), .ref mc])), (ms, .inl (cA 0, 720, .inl sa))] sz [.ref mo, .int wh]) (va_Qi (fun (r : Int32) (_ : Unit) => r = td_R wh cnt st mm mp mn) (fun _ T9 => at_w G (va_A [(mo, .inr (8, [.int th, .ref ms, .ref mk, .ref mv, .int (nI mm), .int (nI ml), .int (nI cnt), .ref mt, .int mp, .int mn, .int (nI mu), .ref ma, .int (nI at_), .int bd, .int le, .int ob, .ref m1, .ref m2, .ref m3, .ref m4, .int (nI rn), .int (nI pw), .ref mc])), (ms, .inl (cA 0, 720, .inl sa))] sz) [(mo, .inr (8, [.int (nI 0), .ref ms, .ref mk, .ref mv, .int (nI mm), .int (nI ml), .int (nI cnt), .ref mt, .int mp, .int mn, .int (nI mu), .ref ma, .int (nI at_), .int bd, .int le, .int ob, .ref m1, .ref m2, .ref m3, .ref m4, .int (nI rn), .int (nI pw), .ref mc])), (ms, .inl (cA 0, 720, .inl sa))] T9) (va_A [(mo, .inr (8, [.int th, .ref ms, .ref mk, .ref mv, .int (nI mm), .int (nI ml), .int (nI cnt), .ref mt, .int mp, .int mn, .int (nI mu), .ref ma, .int (nI at_), .int bd, .int le, .int ob, .ref m1, .ref m2, .ref m3, .ref m4, .int (nI rn), .int (nI pw), .ref mc])), (ms, .inl (cA 0, 720, .inl sa))] sz)) 0 0 (va_A [(mo, .inr (8, [.int th, .ref ms, .ref mk, .ref mv, .int (nI mm), .int (nI ml), .int (nI cnt), .ref mt, .int mp, .int mn, .int (nI mu), .ref ma, .int (nI at_), .int bd, .int le, .int ob, .ref m1, .ref m2, .ref m3, .ref m4, .int (nI rn), .int (nI pw), .ref mc])), (ms, .inl (cA 0, 720, .inl sa))] sz) := by
  refine Met.ofW (cc := xb_Mo_told) (maxL := 4) (ret := (some .int)) (by decide) rfl ?_
  intro p e s m args below meth c s₁ B hml hv
  obtain ⟨rfl, hsz, hK, hP, hD0⟩ := hv
  have hx := B.exec
  have hb := B.bytes
  have hr := B.returns
  have hts0 := atoms_spec (ws := .code xy_Mo_told xb_Mo_told 4 (some .int) :: tw_W) B.pre
  have hts : ∀ w9 ∈ tw_W, w9.before [.ref mo, .int wh].toArray s = true := fun w9 h9 => hts0 w9 (List.mem_cons_of_mem _ h9)
  have hown : s.vm.findClass xc_Mo = some m.cls := findClass_of_methodNamed B.named
  have hlocks := B.notSynchronized
  subst hsz
  have hD := hD0.self (sz := s.heap.size)
  generalize hAe : va_A [(mo, .inr (8, [.int th, .ref ms, .ref mk, .ref mv, .int (nI mm), .int (nI ml), .int (nI cnt), .ref mt, .int mp, .int mn, .int (nI mu), .ref ma, .int (nI at_), .int bd, .int le, .int ob, .ref m1, .ref m2, .ref m3, .ref m4, .int (nI rn), .int (nI pw), .ref mc])), (ms, .inl (cA 0, 720, .inl sa))] s.heap.size = A at hD ⊢
  have hA : ∀ q : Nat, s.heap.size ≤ q → A q := fun q h => by rw [← hAe]; exact Or.inr h
  have hS : va_S A s.heap s.heap [] := va_S.rf
  have hP : va_P G xk_cl [(mo, .inr (8, [.int th, .ref ms, .ref mk, .ref mv, .int (nI mm), .int (nI ml), .int (nI cnt), .ref mt, .int mp, .int mn, .int (nI mu), .ref ma, .int (nI at_), .int bd, .int le, .int ob, .ref m1, .ref m2, .ref m3, .ref m4, .int (nI rn), .int (nI pw), .ref mc])), (ms, .inl (cA 0, 720, .inl sa))] s.heap := hP
  have hl := lv_entry ([.ref mo, .int wh]) (n := 4) (Nat.le_of_ble_eq_true rfl)
  rw [lg_entry_eq]
  generalize (lg_sl ([.ref mo, .int wh]) ++ List.replicate (4 - (lg_sl ([.ref mo, .int wh])).length) Slot.unset).toArray = ls at hl ⊢
  have hl : lv_has ls 4 [(0, .ref mo), (1, .int wh)] := hl
  refine lv_aload_n hx hb xd_Mo_told_0 rfl (lv_at hl 0 rfl) ?_
  refine lv_iconst (v := nI 0) hx hb xd_Mo_told_1 (by decide) ?_
  refine va_put (D := G) (ci := 8) (v := .int (nI 0)) (ty := .int) (C := xc_Mo) (T := xf_Mo) (N := 23) hx hb hts xw_Mo xt_Mo xt_Mo_ok xn_Mo hown hK.1 hP hD hS 0 rfl rfl 0 (by decide) (hts _ xm_619) (fun _ h9 => h9) rfl (by decide +kernel) rfl rfl (Nat.le_of_ble_eq_true rfl) xd_Mo_told_2 (fun H locs hP hD hS => ?_)
  have hP : va_P G xk_cl [(mo, .inr (8, [.int (nI 0), .ref ms, .ref mk, .ref mv, .int (nI mm), .int (nI ml), .int (nI cnt), .ref mt, .int mp, .int mn, .int (nI mu), .ref ma, .int (nI at_), .int bd, .int le, .int ob, .ref m1, .ref m2, .ref m3, .ref m4, .int (nI rn), .int (nI pw), .ref mc])), (ms, .inl (cA 0, 720, .inl sa))] H := hP
  have hD : va_D A [(mo, .inr (8, [.int (nI 0), .ref ms, .ref mk, .ref mv, .int (nI mm), .int (nI ml), .int (nI cnt), .ref mt, .int mp, .int mn, .int (nI mu), .ref ma, .int (nI at_), .int bd, .int le, .int ob, .ref m1, .ref m2, .ref m3, .ref m4, .int (nI rn), .int (nI pw), .ref mc])), (ms, .inl (cA 0, 720, .inl sa))] := hD
  refine lv_iconst (v := nI 0) hx hb xd_Mo_told_5 (by decide) ?_
  refine lv_istore_n (lv' := [(2, .int (nI 0)), (0, .ref mo), (1, .int wh)]) hx hb xd_Mo_told_6 rfl hl (by decide) rfl (fun ls hl => ?_)
  refine lv_iconst (v := nI 0) hx hb xd_Mo_told_7 (by decide) ?_
  refine lv_istore_n (lv' := [(3, .int (nI 0)), (2, .int (nI 0)), (0, .ref mo), (1, .int wh)]) hx hb xd_Mo_told_8 rfl hl (by decide) rfl (fun ls hl => ?_)
  have hl : lv_has ls 4 [(3, .int (nI 0)), (2, .int (nI (ct_N (fun j => !(st j == 0)) 0))), (0, .ref mo), (1, .int wh)] := by rw [ct_N]; exact hl
  have lp : ∀ (k_lp : Nat) (i : Nat), (i ≤ 40) → 40 - i < k_lp → ∀ (H : Heap) (locs : List Loc), va_P G xk_cl [(mo, .inr (8, [.int (nI 0), .ref ms, .ref mk, .ref mv, .int (nI mm), .int (nI ml), .int (nI cnt), .ref mt, .int mp, .int mn, .int (nI mu), .ref ma, .int (nI at_), .int bd, .int le, .int ob, .ref m1, .ref m2, .ref m3, .ref m4, .int (nI rn), .int (nI pw), .ref mc])), (ms, .inl (cA 0, 720, .inl sa))] H → va_D A [(mo, .inr (8, [.int (nI 0), .ref ms, .ref mk, .ref mv, .int (nI mm), .int (nI ml), .int (nI cnt), .ref mt, .int mp, .int mn, .int (nI mu), .ref ma, .int (nI at_), .int bd, .int le, .int ob, .ref m1, .ref m2, .ref m3, .ref m4, .int (nI rn), .int (nI pw), .ref mc])), (ms, .inl (cA 0, 720, .inl sa))] → va_S A s.heap H locs → ∀ (ls : Array Slot), lv_has ls 4 [(0, .ref mo), (1, .int wh), (2, .int (nI (ct_N (fun j => !(st j == 0)) i))), (3, .int (nI i))] → W p l e (headSpec (.code xy_Mo_told xb_Mo_told 4 (some .int) :: tw_W) ({ frames := 0, cells := 0, slots := 0, locals := 0 })).room s m ([.ref mo, .int wh] : List Value).toArray below meth c H locs 0 0 (MQ below (va_Qi (fun (r : Int32) (_ : Unit) => r = td_R wh cnt st mm mp mn) (fun _ T9 => at_w G A [(mo, .inr (8, [.int (nI 0), .ref ms, .ref mk, .ref mv, .int (nI mm), .int (nI ml), .int (nI cnt), .ref mt, .int mp, .int mn, .int (nI mu), .ref ma, .int (nI at_), .int bd, .int le, .int ob, .ref m1, .ref m2, .ref m3, .ref m4, .int (nI rn), .int (nI pw), .ref mc])), (ms, .inl (cA 0, 720, .inl sa))] T9) A) ([.ref mo, .int wh] : List Value).toArray s 0 0 A) (F0 m 9 ls []) := by
    intro k_lp
    induction k_lp with
    | zero =>
      intro i hi_ hk_lp
      exact absurd hk_lp (Nat.not_lt_zero _)
    | succ k_lp ih_lp =>
      intro i hi_ hk_lp H locs hP hD hS ls hl
      refine lv_iload_n hx hb xd_Mo_told_9 rfl (lv_at hl 3 rfl) ?_
      refine lv_bipush (v := nI 40) hx hb xd_Mo_told_10 (by decide) ?_
      refine lv_icmp_ge (tgt := 38) hx hb xd_Mo_told_12 (by decide) (fun c_12_0 => ?_) (fun c_12_0 => ?_)
      · have e_i : i = 40 := Nat.le_antisymm hi_ (nI_gle (by decide) (by omega) c_12_0)
        subst e_i
        refine lv_iload_n hx hb xd_Mo_told_38 rfl (lv_at hl 1 rfl) ?_
        refine lv_if_ne (tgt := 49) hx hb xd_Mo_told_39 (by decide) (fun c_39_1 => ?_) (fun c_39_1 => ?_)
        · have q_0 : ¬ wh = 0 := c_39_1
          refine lv_iload_n hx hb xd_Mo_told_49 rfl (lv_at hl 1 rfl) ?_
          refine lv_iconst (v := nI 1) hx hb xd_Mo_told_50 (by decide) ?_
          refine lv_icmp_ne (tgt := 58) hx hb xd_Mo_told_51 (by decide) (fun c_51_2 => ?_) (fun c_51_2 => ?_)
          · have q_1 : ¬ wh = nI 1 := c_51_2
            refine lv_iload_n hx hb xd_Mo_told_58 rfl (lv_at hl 1 rfl) ?_
            refine lv_iconst (v := nI 2) hx hb xd_Mo_told_59 (by decide) ?_
            refine lv_icmp_ne (tgt := 70) hx hb xd_Mo_told_60 (by decide) (fun c_60_3 => ?_) (fun c_60_3 => ?_)
            · have q_2 : ¬ wh = nI 2 := c_60_3
              refine lv_iload_n hx hb xd_Mo_told_70 rfl (lv_at hl 1 rfl) ?_
              refine lv_iconst (v := nI 3) hx hb xd_Mo_told_71 (by decide) ?_
              refine lv_icmp_ne (tgt := 82) hx hb xd_Mo_told_72 (by decide) (fun c_72_4 => ?_) (fun c_72_4 => ?_)
              · have q_3 : ¬ wh = nI 3 := c_72_4
                refine lv_iload_n hx hb xd_Mo_told_82 rfl (lv_at hl 1 rfl) ?_
                refine lv_iconst (v := nI 4) hx hb xd_Mo_told_83 (by decide) ?_
                refine lv_icmp_ne (tgt := 94) hx hb xd_Mo_told_84 (by decide) (fun c_84_5 => ?_) (fun c_84_5 => ?_)
                · have q_4 : ¬ wh = nI 4 := c_84_5
                  refine lv_iconst (v := (-1)) hx hb xd_Mo_told_94 (by decide) ?_
                  have hP9 : va_P G xk_cl [(mo, .inr (8, [.int (nI 0), .ref ms, .ref mk, .ref mv, .int (nI mm), .int (nI ml), .int (nI cnt), .ref mt, .int mp, .int mn, .int (nI mu), .ref ma, .int (nI at_), .int bd, .int le, .int ob, .ref m1, .ref m2, .ref m3, .ref m4, .int (nI rn), .int (nI pw), .ref mc])), (ms, .inl (cA 0, 720, .inl sa))] _ := hP.sub [0, 1] rfl
                  have hD9 : va_D A [(mo, .inr (8, [.int (nI 0), .ref ms, .ref mk, .ref mv, .int (nI mm), .int (nI ml), .int (nI cnt), .ref mt, .int mp, .int mn, .int (nI mu), .ref ma, .int (nI at_), .int bd, .int le, .int ob, .ref m1, .ref m2, .ref m3, .ref m4, .int (nI rn), .int (nI pw), .ref mc])), (ms, .inl (cA 0, 720, .inl sa))] := hD.sub [0, 1] (by decide) rfl
                  exact W.iret (v := (-1)) hx hb hr (fun T9 ht hW => ⟨⟨_, (), rfl, by rw [td_R, if_neg q_0, if_neg q_1, if_neg q_2, if_neg q_3, if_neg q_4], by rw [ht]; exact hP9, hD9⟩, hS.F ht⟩) hS.2.2 xd_Mo_told_95
                · have q_4 : wh = nI 4 := c_84_5
                  refine lv_aload_n hx hb xd_Mo_told_87 rfl (lv_at hl 0 rfl) ?_
                  refine va_get (D := G) (ci := 8) (v := .int mn) (C := xc_Mo) (T := xf_Mo) (N := 23) hx hb hts xw_Mo hown hK.1 hP 0 rfl rfl 9 (by decide) (hts _ xm_628) (fun _ h9 => h9) rfl xd_Mo_told_88 ?_
                  refine lv_goto (tgt := 95) hx hb xd_Mo_told_91 (by decide) ?_
                  have hP9 : va_P G xk_cl [(mo, .inr (8, [.int (nI 0), .ref ms, .ref mk, .ref mv, .int (nI mm), .int (nI ml), .int (nI cnt), .ref mt, .int mp, .int mn, .int (nI mu), .ref ma, .int (nI at_), .int bd, .int le, .int ob, .ref m1, .ref m2, .ref m3, .ref m4, .int (nI rn), .int (nI pw), .ref mc])), (ms, .inl (cA 0, 720, .inl sa))] _ := hP.sub [0, 1] rfl
                  have hD9 : va_D A [(mo, .inr (8, [.int (nI 0), .ref ms, .ref mk, .ref mv, .int (nI mm), .int (nI ml), .int (nI cnt), .ref mt, .int mp, .int mn, .int (nI mu), .ref ma, .int (nI at_), .int bd, .int le, .int ob, .ref m1, .ref m2, .ref m3, .ref m4, .int (nI rn), .int (nI pw), .ref mc])), (ms, .inl (cA 0, 720, .inl sa))] := hD.sub [0, 1] (by decide) rfl
                  exact W.iret (v := mn) hx hb hr (fun T9 ht hW => ⟨⟨_, (), rfl, by rw [td_R, if_neg q_0, if_neg q_1, if_neg q_2, if_neg q_3, if_pos q_4], by rw [ht]; exact hP9, hD9⟩, hS.F ht⟩) hS.2.2 xd_Mo_told_95
              · have q_3 : wh = nI 3 := c_72_4
                refine lv_aload_n hx hb xd_Mo_told_75 rfl (lv_at hl 0 rfl) ?_
                refine va_get (D := G) (ci := 8) (v := .int mp) (C := xc_Mo) (T := xf_Mo) (N := 23) hx hb hts xw_Mo hown hK.1 hP 0 rfl rfl 8 (by decide) (hts _ xm_627) (fun _ h9 => h9) rfl xd_Mo_told_76 ?_
                refine lv_goto (tgt := 95) hx hb xd_Mo_told_79 (by decide) ?_
                have hP9 : va_P G xk_cl [(mo, .inr (8, [.int (nI 0), .ref ms, .ref mk, .ref mv, .int (nI mm), .int (nI ml), .int (nI cnt), .ref mt, .int mp, .int mn, .int (nI mu), .ref ma, .int (nI at_), .int bd, .int le, .int ob, .ref m1, .ref m2, .ref m3, .ref m4, .int (nI rn), .int (nI pw), .ref mc])), (ms, .inl (cA 0, 720, .inl sa))] _ := hP.sub [0, 1] rfl
                have hD9 : va_D A [(mo, .inr (8, [.int (nI 0), .ref ms, .ref mk, .ref mv, .int (nI mm), .int (nI ml), .int (nI cnt), .ref mt, .int mp, .int mn, .int (nI mu), .ref ma, .int (nI at_), .int bd, .int le, .int ob, .ref m1, .ref m2, .ref m3, .ref m4, .int (nI rn), .int (nI pw), .ref mc])), (ms, .inl (cA 0, 720, .inl sa))] := hD.sub [0, 1] (by decide) rfl
                exact W.iret (v := mp) hx hb hr (fun T9 ht hW => ⟨⟨_, (), rfl, by rw [td_R, if_neg q_0, if_neg q_1, if_neg q_2, if_pos q_3], by rw [ht]; exact hP9, hD9⟩, hS.F ht⟩) hS.2.2 xd_Mo_told_95
            · have q_2 : wh = nI 2 := c_60_3
              refine lv_aload_n hx hb xd_Mo_told_63 rfl (lv_at hl 0 rfl) ?_
              refine va_get (D := G) (ci := 8) (v := .int (nI mm)) (C := xc_Mo) (T := xf_Mo) (N := 23) hx hb hts xw_Mo hown hK.1 hP 0 rfl rfl 4 (by decide) (hts _ xm_623) (fun _ h9 => h9) rfl xd_Mo_told_64 ?_
              refine lv_goto (tgt := 95) hx hb xd_Mo_told_67 (by decide) ?_
              have hP9 : va_P G xk_cl [(mo, .inr (8, [.int (nI 0), .ref ms, .ref mk, .ref mv, .int (nI mm), .int (nI ml), .int (nI cnt), .ref mt, .int mp, .int mn, .int (nI mu), .ref ma, .int (nI at_), .int bd, .int le, .int ob, .ref m1, .ref m2, .ref m3, .ref m4, .int (nI rn), .int (nI pw), .ref mc])), (ms, .inl (cA 0, 720, .inl sa))] _ := hP.sub [0, 1] rfl
              have hD9 : va_D A [(mo, .inr (8, [.int (nI 0), .ref ms, .ref mk, .ref mv, .int (nI mm), .int (nI ml), .int (nI cnt), .ref mt, .int mp, .int mn, .int (nI mu), .ref ma, .int (nI at_), .int bd, .int le, .int ob, .ref m1, .ref m2, .ref m3, .ref m4, .int (nI rn), .int (nI pw), .ref mc])), (ms, .inl (cA 0, 720, .inl sa))] := hD.sub [0, 1] (by decide) rfl
              exact W.iret (v := nI mm) hx hb hr (fun T9 ht hW => ⟨⟨_, (), rfl, by rw [td_R, if_neg q_0, if_neg q_1, if_pos q_2], by rw [ht]; exact hP9, hD9⟩, hS.F ht⟩) hS.2.2 xd_Mo_told_95
          · have q_1 : wh = nI 1 := c_51_2
            refine lv_iload_n hx hb xd_Mo_told_54 rfl (lv_at hl 2 rfl) ?_
            refine lv_goto (tgt := 95) hx hb xd_Mo_told_55 (by decide) ?_
            have hP9 : va_P G xk_cl [(mo, .inr (8, [.int (nI 0), .ref ms, .ref mk, .ref mv, .int (nI mm), .int (nI ml), .int (nI cnt), .ref mt, .int mp, .int mn, .int (nI mu), .ref ma, .int (nI at_), .int bd, .int le, .int ob, .ref m1, .ref m2, .ref m3, .ref m4, .int (nI rn), .int (nI pw), .ref mc])), (ms, .inl (cA 0, 720, .inl sa))] _ := hP.sub [0, 1] rfl
            have hD9 : va_D A [(mo, .inr (8, [.int (nI 0), .ref ms, .ref mk, .ref mv, .int (nI mm), .int (nI ml), .int (nI cnt), .ref mt, .int mp, .int mn, .int (nI mu), .ref ma, .int (nI at_), .int bd, .int le, .int ob, .ref m1, .ref m2, .ref m3, .ref m4, .int (nI rn), .int (nI pw), .ref mc])), (ms, .inl (cA 0, 720, .inl sa))] := hD.sub [0, 1] (by decide) rfl
            exact W.iret (v := nI (ct_N (fun j => !(st j == 0)) 40)) hx hb hr (fun T9 ht hW => ⟨⟨_, (), rfl, by rw [td_R, if_neg q_0, if_pos q_1], by rw [ht]; exact hP9, hD9⟩, hS.F ht⟩) hS.2.2 xd_Mo_told_95
        · have q_0 : wh = 0 := c_39_1
          refine lv_aload_n hx hb xd_Mo_told_42 rfl (lv_at hl 0 rfl) ?_
          refine va_get (D := G) (ci := 8) (v := .int (nI cnt)) (C := xc_Mo) (T := xf_Mo) (N := 23) hx hb hts xw_Mo hown hK.1 hP 0 rfl rfl 6 (by decide) (hts _ xm_625) (fun _ h9 => h9) rfl xd_Mo_told_43 ?_
          refine lv_goto (tgt := 95) hx hb xd_Mo_told_46 (by decide) ?_
          have hP9 : va_P G xk_cl [(mo, .inr (8, [.int (nI 0), .ref ms, .ref mk, .ref mv, .int (nI mm), .int (nI ml), .int (nI cnt), .ref mt, .int mp, .int mn, .int (nI mu), .ref ma, .int (nI at_), .int bd, .int le, .int ob, .ref m1, .ref m2, .ref m3, .ref m4, .int (nI rn), .int (nI pw), .ref mc])), (ms, .inl (cA 0, 720, .inl sa))] _ := hP.sub [0, 1] rfl
          have hD9 : va_D A [(mo, .inr (8, [.int (nI 0), .ref ms, .ref mk, .ref mv, .int (nI mm), .int (nI ml), .int (nI cnt), .ref mt, .int mp, .int mn, .int (nI mu), .ref ma, .int (nI at_), .int bd, .int le, .int ob, .ref m1, .ref m2, .ref m3, .ref m4, .int (nI rn), .int (nI pw), .ref mc])), (ms, .inl (cA 0, 720, .inl sa))] := hD.sub [0, 1] (by decide) rfl
          exact W.iret (v := nI cnt) hx hb hr (fun T9 ht hW => ⟨⟨_, (), rfl, by rw [td_R, if_pos q_0], by rw [ht]; exact hP9, hD9⟩, hS.F ht⟩) hS.2.2 xd_Mo_told_95
      · have e_i := nI_gnl (by decide) (by omega) c_12_0
        refine lv_aload_n hx hb xd_Mo_told_15 rfl (lv_at hl 0 rfl) ?_
        refine va_get (D := G) (ci := 8) (v := .ref ms) (C := xc_Mo) (T := xf_Mo) (N := 23) hx hb hts xw_Mo hown hK.1 hP 0 rfl rfl 1 (by decide) (hts _ xm_620) (fun _ h9 => h9) rfl xd_Mo_told_16 ?_
        refine lv_iload_n hx hb xd_Mo_told_19 rfl (lv_at hl 3 rfl) ?_
        refine wx_iald hx hb hK.1 hP 1 0 rfl rfl (k := i) (by omega) (by decide) xd_Mo_told_20 ?_
        refine lx_top (z := st i) (hR.1 _ (by omega)) ?_
        refine lv_if_le (tgt := 30) hx hb xd_Mo_told_21 (by decide) (fun c_21_6 => ?_) (fun c_21_6 => ?_)
        · have q_z : st i = 0 := (so_le (hso i (by omega))).mp c_21_6
          refine lv_iload_n hx hb xd_Mo_told_30 rfl (lv_at hl 2 rfl) ?_
          refine lv_istore_n (lv' := [(2, .int (nI (ct_N (fun j => !(st j == 0)) i))), (0, .ref mo), (1, .int wh), (3, .int (nI i))]) hx hb xd_Mo_told_31 rfl hl (by decide) rfl (fun ls hl => ?_)
          refine lv_iinc (v := nI (i + 1)) (lv' := [(3, .int (nI (i + 1))), (2, .int (nI (ct_N (fun j => !(st j == 0)) i))), (0, .ref mo), (1, .int wh)]) hx hb xd_Mo_told_32 hl (k := 3) rfl (nI_inc _) (by decide) rfl (fun ls hl => ?_)
          refine lv_goto (tgt := 9) hx hb xd_Mo_told_35 (by decide) ?_
          have hl : lv_has ls 4 [(3, .int (nI (i + 1))), (2, .int (nI (ct_N (fun j => !(st j == 0)) (i + 1)))), (0, .ref mo), (1, .int wh)] := by rw [ct_N_f (nz_f q_z)]; exact hl
          exact ih_lp (i + 1) (by omega) (by omega) _ _ (hP.sub [0, 1] rfl) (hD.sub [0, 1] (by decide) rfl) hS ls (lv_sub hl [2, 3, 1, 0] rfl)
        · have q_z : ¬ st i = 0 := fun z => c_21_6 ((so_le (hso i (by omega))).mpr z)
          refine lv_iload_n hx hb xd_Mo_told_24 rfl (lv_at hl 2 rfl) ?_
          refine lv_iconst (v := nI 1) hx hb xd_Mo_told_25 (by decide) ?_
          refine lx_iadd (z := nI (ct_N (fun j => !(st j == 0)) i + 1)) hx hb xd_Mo_told_26 (nI_add _ _) ?_
          refine lv_goto (tgt := 31) hx hb xd_Mo_told_27 (by decide) ?_
          refine lv_istore_n (lv' := [(2, .int (nI (ct_N (fun j => !(st j == 0)) i + 1))), (0, .ref mo), (1, .int wh), (3, .int (nI i))]) hx hb xd_Mo_told_31 rfl hl (by decide) rfl (fun ls hl => ?_)
          refine lv_iinc (v := nI (i + 1)) (lv' := [(3, .int (nI (i + 1))), (2, .int (nI (ct_N (fun j => !(st j == 0)) i + 1))), (0, .ref mo), (1, .int wh)]) hx hb xd_Mo_told_32 hl (k := 3) rfl (nI_inc _) (by decide) rfl (fun ls hl => ?_)
          refine lv_goto (tgt := 9) hx hb xd_Mo_told_35 (by decide) ?_
          have hl : lv_has ls 4 [(3, .int (nI (i + 1))), (2, .int (nI (ct_N (fun j => !(st j == 0)) (i + 1)))), (0, .ref mo), (1, .int wh)] := by rw [ct_N_t (nz_t q_z)]; exact hl
          exact ih_lp (i + 1) (by omega) (by omega) _ _ (hP.sub [0, 1] rfl) (hD.sub [0, 1] (by decide) rfl) hS ls (lv_sub hl [2, 3, 1, 0] rfl)
  exact lp ((40 - 0) + 1) 0 (by omega) (Nat.lt_succ_self _) _ _ (hP.sub [0, 1] rfl) (hD.sub [0, 1] (by decide) rfl) hS ls (lv_sub hl [2, 3, 1, 0] rfl)
set_option maxHeartbeats 4000000 in
set_option maxRecDepth 100000 in
theorem ct_Mo_object (l : Launch) (G : va_G) (cA : Nat → ClassId) (sz : Nat) (mo : Nat) (th : Int32) (ms : Nat) (mk : Nat) (mv : Nat) (mm : Nat) (ml : Nat) (cnt : Nat) (mt : Nat) (mp : Int32) (mn : Int32) (mu : Nat) (ma : Nat) (at_ : Nat) (bd : Int32) (le : Int32) (ob : Int32) (m1 : Nat) (m2 : Nat) (m3 : Nat) (m4 : Nat) (rn : Nat) (pw : Nat) (mc : Nat) (sa : Nat → Int32) (kd : Nat → Int32) (vl : Nat → Int32) (st : Nat → Int32) (ce : Nat → Int32) (hR : sn_R sa kd vl st ce) (hso : st_O st) (hZ : wz_O ce) (x0 : Int32) (wh : Int32) : Met l xy_Mo_object (.code xy_Mo_object xb_Mo_object 6 (some .int) :: tw_W) ({ frames := 1, cells := 0, slots := 0, locals := 22 }) (pc_w G cA [(mo, .inr (8, [.int th, .ref ms, .ref mk, .ref mv, .int (nI mm), .int (nI ml), .int (nI cnt), .ref mt, .int mp, .int mn, .int (nI mu), .ref ma, .int (nI at_), .int bd, .int le, .int ob, .ref m1, .ref m2, .ref m3, .ref m4, .int (nI rn), .int (nI pw), .ref mc])), (ms, .inl (cA 0, 720, .inl sa)), (mk, .inl (cA 0, 18720, .inl kd)), (mv, .inl (cA 0, 18720, .inl vl))] sz [.ref mo, .int x0, .int wh]) (va_Qi (fun (r : Int32) (u9 : Int32) => match u9 with | (th2) => ob_Q st ce x0 wh r th2) (fun u9 T9 => match u9 with | (th2) => at_w G (va_A [(mo, .inr (8, [.int th, .ref ms, .ref mk, .ref mv, .int (nI mm), .int (nI ml), .int (nI cnt), .ref mt, .int mp, .int mn, .int (nI mu), .ref ma, .int (nI at_), .int bd, .int le, .int ob, .ref m1, .ref m2, .ref m3, .ref m4, .int (nI rn), .int (nI pw), .ref mc])), (ms, .inl (cA 0, 720, .inl sa)), (mk, .inl (cA 0, 18720, .inl kd)), (mv, .inl (cA 0, 18720, .inl vl))] sz) [(mo, .inr (8, [.int th2, .ref ms, .ref mk, .ref mv, .int (nI mm), .int (nI ml), .int (nI cnt), .ref mt, .int mp, .int mn, .int (nI mu), .ref ma, .int (nI at_), .int bd, .int le, .int ob, .ref m1, .ref m2, .ref m3, .ref m4, .int (nI rn), .int (nI pw), .ref mc])), (ms, .inl (cA 0, 720, .inl sa)), (mk, .inl (cA 0, 18720, .inl kd)), (mv, .inl (cA 0, 18720, .inl vl))] T9) (va_A [(mo, .inr (8, [.int th, .ref ms, .ref mk, .ref mv, .int (nI mm), .int (nI ml), .int (nI cnt), .ref mt, .int mp, .int mn, .int (nI mu), .ref ma, .int (nI at_), .int bd, .int le, .int ob, .ref m1, .ref m2, .ref m3, .ref m4, .int (nI rn), .int (nI pw), .ref mc])), (ms, .inl (cA 0, 720, .inl sa)), (mk, .inl (cA 0, 18720, .inl kd)), (mv, .inl (cA 0, 18720, .inl vl))] sz)) 0 0 (va_A [(mo, .inr (8, [.int th, .ref ms, .ref mk, .ref mv, .int (nI mm), .int (nI ml), .int (nI cnt), .ref mt, .int mp, .int mn, .int (nI mu), .ref ma, .int (nI at_), .int bd, .int le, .int ob, .ref m1, .ref m2, .ref m3, .ref m4, .int (nI rn), .int (nI pw), .ref mc])), (ms, .inl (cA 0, 720, .inl sa)), (mk, .inl (cA 0, 18720, .inl kd)), (mv, .inl (cA 0, 18720, .inl vl))] sz) := by
  refine Met.ofW (cc := xb_Mo_object) (maxL := 6) (ret := (some .int)) (by decide) rfl ?_
  intro p e s m args below meth c s₁ B hml hv
  obtain ⟨rfl, hsz, hK, hP, hD0⟩ := hv
  have hx := B.exec
  have hb := B.bytes
  have hr := B.returns
  have hts0 := atoms_spec (ws := .code xy_Mo_object xb_Mo_object 6 (some .int) :: tw_W) B.pre
  have hts : ∀ w9 ∈ tw_W, w9.before [.ref mo, .int x0, .int wh].toArray s = true := fun w9 h9 => hts0 w9 (List.mem_cons_of_mem _ h9)
  have hown : s.vm.findClass xc_Mo = some m.cls := findClass_of_methodNamed B.named
  have hlocks := B.notSynchronized
  subst hsz
  have hD := hD0.self (sz := s.heap.size)
  generalize hAe : va_A [(mo, .inr (8, [.int th, .ref ms, .ref mk, .ref mv, .int (nI mm), .int (nI ml), .int (nI cnt), .ref mt, .int mp, .int mn, .int (nI mu), .ref ma, .int (nI at_), .int bd, .int le, .int ob, .ref m1, .ref m2, .ref m3, .ref m4, .int (nI rn), .int (nI pw), .ref mc])), (ms, .inl (cA 0, 720, .inl sa)), (mk, .inl (cA 0, 18720, .inl kd)), (mv, .inl (cA 0, 18720, .inl vl))] s.heap.size = A at hD ⊢
  have hA : ∀ q : Nat, s.heap.size ≤ q → A q := fun q h => by rw [← hAe]; exact Or.inr h
  have hS : va_S A s.heap s.heap [] := va_S.rf
  have hP : va_P G xk_cl [(mo, .inr (8, [.int th, .ref ms, .ref mk, .ref mv, .int (nI mm), .int (nI ml), .int (nI cnt), .ref mt, .int mp, .int mn, .int (nI mu), .ref ma, .int (nI at_), .int bd, .int le, .int ob, .ref m1, .ref m2, .ref m3, .ref m4, .int (nI rn), .int (nI pw), .ref mc])), (ms, .inl (cA 0, 720, .inl sa)), (mk, .inl (cA 0, 18720, .inl kd)), (mv, .inl (cA 0, 18720, .inl vl))] s.heap := hP
  have hl := lv_entry ([.ref mo, .int x0, .int wh]) (n := 6) (Nat.le_of_ble_eq_true rfl)
  rw [lg_entry_eq]
  generalize (lg_sl ([.ref mo, .int x0, .int wh]) ++ List.replicate (6 - (lg_sl ([.ref mo, .int x0, .int wh])).length) Slot.unset).toArray = ls at hl ⊢
  have hl : lv_has ls 6 [(0, .ref mo), (1, .int x0), (2, .int wh)] := hl
  refine lv_aload_n hx hb xd_Mo_object_0 rfl (lv_at hl 0 rfl) ?_
  refine lv_iload_n hx hb xd_Mo_object_1 rfl (lv_at hl 1 rfl) ?_
  refine lv_iconst (v := nI 0) hx hb xd_Mo_object_2 (by decide) ?_
  refine lv_bipush (v := nI 39) hx hb xd_Mo_object_3 (by decide) ?_
  have hPc := hP.sub (ws' := []) [] rfl
  refine vp_callSi (va_Run.run (va_runS (As := [.int x0, .int (nI 0), .int (nI 39)]) (rest := [.ref mo]) ⟨hx, hb, hml, hown, hts⟩ (ct_Mo_in l G cA x0 (nI 0) (nI 39)) (cwS 3 hts (gi_s xm_693 xm_694 xm_9 xm_695) rfl rfl rfl ⟨rfl, xh_Mo_in⟩ ⟨Nat.le_of_ble_eq_true rfl, Nat.le_of_ble_eq_true rfl⟩) (ps_r hK hPc) rfl rfl hl.1 rfl (lv_room (Nat.le_of_ble_eq_true rfl)) xd_Mo_object_5 ⟨Nat.le_of_ble_eq_true rfl, Nat.le_of_ble_eq_true rfl⟩)) (fun r_1 q_2 => ?_)
  refine lx_top (z := in_R x0 (nI 0) (nI 39)) (q_2) ?_
  refine lx_top (z := sp_ob x0) (in_ob _) ?_
  refine lv_if_eq (tgt := 24) hx hb xd_Mo_object_8 (by decide) (fun c_8_2 => ?_) (fun c_8_2 => ?_)
  · have q_n : sp_ob x0 = 0 ∨ ¬ w4_P wh := Or.inl c_8_2
    refine lv_iconst (v := nI 0) hx hb xd_Mo_object_24 (by decide) ?_
    have hPc := hP.sub (ws' := [(mo, .inr (8, [.int th, .ref ms, .ref mk, .ref mv, .int (nI mm), .int (nI ml), .int (nI cnt), .ref mt, .int mp, .int mn, .int (nI mu), .ref ma, .int (nI at_), .int bd, .int le, .int ob, .ref m1, .ref m2, .ref m3, .ref m4, .int (nI rn), .int (nI pw), .ref mc]))]) [0] rfl
    have hDc := hD.sub (ws' := [(mo, .inr (8, [.int th, .ref ms, .ref mk, .ref mv, .int (nI mm), .int (nI ml), .int (nI cnt), .ref mt, .int mp, .int mn, .int (nI mu), .ref ma, .int (nI at_), .int bd, .int le, .int ob, .ref m1, .ref m2, .ref m3, .ref m4, .int (nI rn), .int (nI pw), .ref mc]))]) [0] (by decide) rfl
    have hFc := va_free (wc := [(mo, .inr (8, [.int th, .ref ms, .ref mk, .ref mv, .int (nI mm), .int (nI ml), .int (nI cnt), .ref mt, .int mp, .int mn, .int (nI mu), .ref ma, .int (nI at_), .int bd, .int le, .int ob, .ref m1, .ref m2, .ref m3, .ref m4, .int (nI rn), .int (nI pw), .ref mc]))]) hD hS hA [0] rfl
    refine va_calli (va_runV (As := [.int (nI 0)]) (rest := []) ⟨hx, hb, hml, hown, hts⟩ (ct_Mo_goes l G cA s.heap.size mo th ms mk mv mm ml cnt mt mp mn mu ma at_ bd le ob m1 m2 m3 m4 rn pw mc (nI 0) (Or.inl rfl)) (cwV 1 hts (gi_v xm_787 xm_789 xs_Mo_goes xm_9 xm_790) rfl rfl rfl ⟨rfl, xh_Mo_goes⟩ ⟨Nat.le_of_ble_eq_true rfl, Nat.le_of_ble_eq_true rfl⟩) (pv_w hK hPc hDc (ci := 8) (q0 := 0) rfl rfl) rfl rfl hl.1 rfl (lv_room (Nat.le_of_ble_eq_true rfl)) xd_Mo_object_25 ⟨Nat.le_of_ble_eq_true rfl, Nat.le_of_ble_eq_true rfl⟩) hS (fun q _ h => hFc q h) hFc (fun r_4 u9 t9 H1 locs ht hvm q_5 hB hz1 hk1 hS => ?_)
    obtain ⟨hP1, hD1⟩ := hB
    rw [ht] at hP1
    obtain ⟨hP, hD⟩ := va_join (wr := [(ms, .inl (cA 0, 720, .inl sa)), (mk, .inl (cA 0, 18720, .inl kd)), (mv, .inl (cA 0, 18720, .inl vl))]) (w1 := [(mo, .inr (8, [.int (gs_T (nI 0)), .ref ms, .ref mk, .ref mv, .int (nI mm), .int (nI ml), .int (nI cnt), .ref mt, .int mp, .int mn, .int (nI mu), .ref ma, .int (nI at_), .int bd, .int le, .int ob, .ref m1, .ref m2, .ref m3, .ref m4, .int (nI rn), .int (nI pw), .ref mc]))]) hP hD [0] [1, 2, 3] rfl rfl (by decide) (by decide) hk1 hFc hP1 hD1
    generalize H1 = H at hP hS ⊢
    have hP : va_P G xk_cl [(ms, .inl (cA 0, 720, .inl sa)), (mk, .inl (cA 0, 18720, .inl kd)), (mv, .inl (cA 0, 18720, .inl vl)), (mo, .inr (8, [.int (gs_T (nI 0)), .ref ms, .ref mk, .ref mv, .int (nI mm), .int (nI ml), .int (nI cnt), .ref mt, .int mp, .int mn, .int (nI mu), .ref ma, .int (nI at_), .int bd, .int le, .int ob, .ref m1, .ref m2, .ref m3, .ref m4, .int (nI rn), .int (nI pw), .ref mc]))] H := hP
    have hD : va_D A [(ms, .inl (cA 0, 720, .inl sa)), (mk, .inl (cA 0, 18720, .inl kd)), (mv, .inl (cA 0, 18720, .inl vl)), (mo, .inr (8, [.int (gs_T (nI 0)), .ref ms, .ref mk, .ref mv, .int (nI mm), .int (nI ml), .int (nI cnt), .ref mt, .int mp, .int mn, .int (nI mu), .ref ma, .int (nI at_), .int bd, .int le, .int ob, .ref m1, .ref m2, .ref m3, .ref m4, .int (nI rn), .int (nI pw), .ref mc]))] := hD
    refine lx_top (z := nI 0) (q_5) ?_
    have hP : va_P G xk_cl [(ms, .inl (cA 0, 720, .inl sa)), (mk, .inl (cA 0, 18720, .inl kd)), (mv, .inl (cA 0, 18720, .inl vl)), (mo, .inr (8, [.int (nI 1), .ref ms, .ref mk, .ref mv, .int (nI mm), .int (nI ml), .int (nI cnt), .ref mt, .int mp, .int mn, .int (nI mu), .ref ma, .int (nI at_), .int bd, .int le, .int ob, .ref m1, .ref m2, .ref m3, .ref m4, .int (nI rn), .int (nI pw), .ref mc]))] H := by skip; exact hP
    have hD : va_D A [(ms, .inl (cA 0, 720, .inl sa)), (mk, .inl (cA 0, 18720, .inl kd)), (mv, .inl (cA 0, 18720, .inl vl)), (mo, .inr (8, [.int (nI 1), .ref ms, .ref mk, .ref mv, .int (nI mm), .int (nI ml), .int (nI cnt), .ref mt, .int mp, .int mn, .int (nI mu), .ref ma, .int (nI at_), .int bd, .int le, .int ob, .ref m1, .ref m2, .ref m3, .ref m4, .int (nI rn), .int (nI pw), .ref mc]))] := by skip; exact hD
    refine lv_if_ne (tgt := 33) hx hb xd_Mo_object_28 (by decide) (fun c_28_5 => absurd (by decide) c_28_5) (fun c_28_5 => ?_)
    refine lv_iconst (v := nI 0) hx hb xd_Mo_object_31 (by decide) ?_
    have hP9 : va_P G xk_cl [(mo, .inr (8, [.int (nI 1), .ref ms, .ref mk, .ref mv, .int (nI mm), .int (nI ml), .int (nI cnt), .ref mt, .int mp, .int mn, .int (nI mu), .ref ma, .int (nI at_), .int bd, .int le, .int ob, .ref m1, .ref m2, .ref m3, .ref m4, .int (nI rn), .int (nI pw), .ref mc])), (ms, .inl (cA 0, 720, .inl sa)), (mk, .inl (cA 0, 18720, .inl kd)), (mv, .inl (cA 0, 18720, .inl vl))] _ := hP.sub [3, 0, 1, 2] rfl
    have hD9 : va_D A [(mo, .inr (8, [.int (nI 1), .ref ms, .ref mk, .ref mv, .int (nI mm), .int (nI ml), .int (nI cnt), .ref mt, .int mp, .int mn, .int (nI mu), .ref ma, .int (nI at_), .int bd, .int le, .int ob, .ref m1, .ref m2, .ref m3, .ref m4, .int (nI rn), .int (nI pw), .ref mc])), (ms, .inl (cA 0, 720, .inl sa)), (mk, .inl (cA 0, 18720, .inl kd)), (mv, .inl (cA 0, 18720, .inl vl))] := hD.sub [3, 0, 1, 2] (by decide) rfl
    exact W.iret (v := nI 0) hx hb hr (fun T9 ht hW => ⟨⟨_, (nI 1), rfl, ob_n q_n, by rw [ht]; exact hP9, hD9⟩, hS.F ht⟩) hS.2.2 xd_Mo_object_32
  · obtain ⟨n, hn, e_n⟩ := so_T c_8_2
    refine lv_iload_n hx hb xd_Mo_object_11 rfl (lv_at hl 2 rfl) ?_
    refine lv_iconst (v := nI 0) hx hb xd_Mo_object_12 (by decide) ?_
    refine lv_iconst (v := nI 3) hx hb xd_Mo_object_13 (by decide) ?_
    have hPc := hP.sub (ws' := []) [] rfl
    refine vp_callSi (va_Run.run (va_runS (As := [.int wh, .int (nI 0), .int (nI 3)]) (rest := [.ref mo]) ⟨hx, hb, hml, hown, hts⟩ (ct_Mo_in l G cA wh (nI 0) (nI 3)) (cwS 3 hts (gi_s xm_693 xm_694 xm_9 xm_695) rfl rfl rfl ⟨rfl, xh_Mo_in⟩ ⟨Nat.le_of_ble_eq_true rfl, Nat.le_of_ble_eq_true rfl⟩) (ps_r hK hPc) rfl rfl hl.1 rfl (lv_room (Nat.le_of_ble_eq_true rfl)) xd_Mo_object_14 ⟨Nat.le_of_ble_eq_true rfl, Nat.le_of_ble_eq_true rfl⟩)) (fun r_7 q_8 => ?_)
    refine lx_top (z := in_R wh (nI 0) (nI 3)) (q_8) ?_
    refine lv_if_eq (tgt := 24) hx hb xd_Mo_object_17 (by decide) (fun c_17_8 => ?_) (fun c_17_8 => ?_)
    · have q_n : sp_ob x0 = 0 ∨ ¬ w4_P wh := Or.inr ((in_w4 wh).mp c_17_8)
      refine lv_iconst (v := nI 0) hx hb xd_Mo_object_24 (by decide) ?_
      have hPc := hP.sub (ws' := [(mo, .inr (8, [.int th, .ref ms, .ref mk, .ref mv, .int (nI mm), .int (nI ml), .int (nI cnt), .ref mt, .int mp, .int mn, .int (nI mu), .ref ma, .int (nI at_), .int bd, .int le, .int ob, .ref m1, .ref m2, .ref m3, .ref m4, .int (nI rn), .int (nI pw), .ref mc]))]) [0] rfl
      have hDc := hD.sub (ws' := [(mo, .inr (8, [.int th, .ref ms, .ref mk, .ref mv, .int (nI mm), .int (nI ml), .int (nI cnt), .ref mt, .int mp, .int mn, .int (nI mu), .ref ma, .int (nI at_), .int bd, .int le, .int ob, .ref m1, .ref m2, .ref m3, .ref m4, .int (nI rn), .int (nI pw), .ref mc]))]) [0] (by decide) rfl
      have hFc := va_free (wc := [(mo, .inr (8, [.int th, .ref ms, .ref mk, .ref mv, .int (nI mm), .int (nI ml), .int (nI cnt), .ref mt, .int mp, .int mn, .int (nI mu), .ref ma, .int (nI at_), .int bd, .int le, .int ob, .ref m1, .ref m2, .ref m3, .ref m4, .int (nI rn), .int (nI pw), .ref mc]))]) hD hS hA [0] rfl
      refine va_calli (va_runV (As := [.int (nI 0)]) (rest := []) ⟨hx, hb, hml, hown, hts⟩ (ct_Mo_goes l G cA s.heap.size mo th ms mk mv mm ml cnt mt mp mn mu ma at_ bd le ob m1 m2 m3 m4 rn pw mc (nI 0) (Or.inl rfl)) (cwV 1 hts (gi_v xm_787 xm_789 xs_Mo_goes xm_9 xm_790) rfl rfl rfl ⟨rfl, xh_Mo_goes⟩ ⟨Nat.le_of_ble_eq_true rfl, Nat.le_of_ble_eq_true rfl⟩) (pv_w hK hPc hDc (ci := 8) (q0 := 0) rfl rfl) rfl rfl hl.1 rfl (lv_room (Nat.le_of_ble_eq_true rfl)) xd_Mo_object_25 ⟨Nat.le_of_ble_eq_true rfl, Nat.le_of_ble_eq_true rfl⟩) hS (fun q _ h => hFc q h) hFc (fun r_10 u9 t9 H1 locs ht hvm q_11 hB hz1 hk1 hS => ?_)
      obtain ⟨hP1, hD1⟩ := hB
      rw [ht] at hP1
      obtain ⟨hP, hD⟩ := va_join (wr := [(ms, .inl (cA 0, 720, .inl sa)), (mk, .inl (cA 0, 18720, .inl kd)), (mv, .inl (cA 0, 18720, .inl vl))]) (w1 := [(mo, .inr (8, [.int (gs_T (nI 0)), .ref ms, .ref mk, .ref mv, .int (nI mm), .int (nI ml), .int (nI cnt), .ref mt, .int mp, .int mn, .int (nI mu), .ref ma, .int (nI at_), .int bd, .int le, .int ob, .ref m1, .ref m2, .ref m3, .ref m4, .int (nI rn), .int (nI pw), .ref mc]))]) hP hD [0] [1, 2, 3] rfl rfl (by decide) (by decide) hk1 hFc hP1 hD1
      generalize H1 = H at hP hS ⊢
      have hP : va_P G xk_cl [(ms, .inl (cA 0, 720, .inl sa)), (mk, .inl (cA 0, 18720, .inl kd)), (mv, .inl (cA 0, 18720, .inl vl)), (mo, .inr (8, [.int (gs_T (nI 0)), .ref ms, .ref mk, .ref mv, .int (nI mm), .int (nI ml), .int (nI cnt), .ref mt, .int mp, .int mn, .int (nI mu), .ref ma, .int (nI at_), .int bd, .int le, .int ob, .ref m1, .ref m2, .ref m3, .ref m4, .int (nI rn), .int (nI pw), .ref mc]))] H := hP
      have hD : va_D A [(ms, .inl (cA 0, 720, .inl sa)), (mk, .inl (cA 0, 18720, .inl kd)), (mv, .inl (cA 0, 18720, .inl vl)), (mo, .inr (8, [.int (gs_T (nI 0)), .ref ms, .ref mk, .ref mv, .int (nI mm), .int (nI ml), .int (nI cnt), .ref mt, .int mp, .int mn, .int (nI mu), .ref ma, .int (nI at_), .int bd, .int le, .int ob, .ref m1, .ref m2, .ref m3, .ref m4, .int (nI rn), .int (nI pw), .ref mc]))] := hD
      refine lx_top (z := nI 0) (q_11) ?_
      have hP : va_P G xk_cl [(ms, .inl (cA 0, 720, .inl sa)), (mk, .inl (cA 0, 18720, .inl kd)), (mv, .inl (cA 0, 18720, .inl vl)), (mo, .inr (8, [.int (nI 1), .ref ms, .ref mk, .ref mv, .int (nI mm), .int (nI ml), .int (nI cnt), .ref mt, .int mp, .int mn, .int (nI mu), .ref ma, .int (nI at_), .int bd, .int le, .int ob, .ref m1, .ref m2, .ref m3, .ref m4, .int (nI rn), .int (nI pw), .ref mc]))] H := by skip; exact hP
      have hD : va_D A [(ms, .inl (cA 0, 720, .inl sa)), (mk, .inl (cA 0, 18720, .inl kd)), (mv, .inl (cA 0, 18720, .inl vl)), (mo, .inr (8, [.int (nI 1), .ref ms, .ref mk, .ref mv, .int (nI mm), .int (nI ml), .int (nI cnt), .ref mt, .int mp, .int mn, .int (nI mu), .ref ma, .int (nI at_), .int bd, .int le, .int ob, .ref m1, .ref m2, .ref m3, .ref m4, .int (nI rn), .int (nI pw), .ref mc]))] := by skip; exact hD
      refine lv_if_ne (tgt := 33) hx hb xd_Mo_object_28 (by decide) (fun c_28_11 => absurd (by decide) c_28_11) (fun c_28_11 => ?_)
      refine lv_iconst (v := nI 0) hx hb xd_Mo_object_31 (by decide) ?_
      have hP9 : va_P G xk_cl [(mo, .inr (8, [.int (nI 1), .ref ms, .ref mk, .ref mv, .int (nI mm), .int (nI ml), .int (nI cnt), .ref mt, .int mp, .int mn, .int (nI mu), .ref ma, .int (nI at_), .int bd, .int le, .int ob, .ref m1, .ref m2, .ref m3, .ref m4, .int (nI rn), .int (nI pw), .ref mc])), (ms, .inl (cA 0, 720, .inl sa)), (mk, .inl (cA 0, 18720, .inl kd)), (mv, .inl (cA 0, 18720, .inl vl))] _ := hP.sub [3, 0, 1, 2] rfl
      have hD9 : va_D A [(mo, .inr (8, [.int (nI 1), .ref ms, .ref mk, .ref mv, .int (nI mm), .int (nI ml), .int (nI cnt), .ref mt, .int mp, .int mn, .int (nI mu), .ref ma, .int (nI at_), .int bd, .int le, .int ob, .ref m1, .ref m2, .ref m3, .ref m4, .int (nI rn), .int (nI pw), .ref mc])), (ms, .inl (cA 0, 720, .inl sa)), (mk, .inl (cA 0, 18720, .inl kd)), (mv, .inl (cA 0, 18720, .inl vl))] := hD.sub [3, 0, 1, 2] (by decide) rfl
      exact W.iret (v := nI 0) hx hb hr (fun T9 ht hW => ⟨⟨_, (nI 1), rfl, ob_n q_n, by rw [ht]; exact hP9, hD9⟩, hS.F ht⟩) hS.2.2 xd_Mo_object_32
    · have q_w : w4_P wh := Classical.byContradiction fun z => c_17_8 ((in_w4 wh).mpr z)
      refine lv_iconst (v := nI 1) hx hb xd_Mo_object_20 (by decide) ?_
      refine lv_goto (tgt := 25) hx hb xd_Mo_object_21 (by decide) ?_
      have hPc := hP.sub (ws' := [(mo, .inr (8, [.int th, .ref ms, .ref mk, .ref mv, .int (nI mm), .int (nI ml), .int (nI cnt), .ref mt, .int mp, .int mn, .int (nI mu), .ref ma, .int (nI at_), .int bd, .int le, .int ob, .ref m1, .ref m2, .ref m3, .ref m4, .int (nI rn), .int (nI pw), .ref mc]))]) [0] rfl
      have hDc := hD.sub (ws' := [(mo, .inr (8, [.int th, .ref ms, .ref mk, .ref mv, .int (nI mm), .int (nI ml), .int (nI cnt), .ref mt, .int mp, .int mn, .int (nI mu), .ref ma, .int (nI at_), .int bd, .int le, .int ob, .ref m1, .ref m2, .ref m3, .ref m4, .int (nI rn), .int (nI pw), .ref mc]))]) [0] (by decide) rfl
      have hFc := va_free (wc := [(mo, .inr (8, [.int th, .ref ms, .ref mk, .ref mv, .int (nI mm), .int (nI ml), .int (nI cnt), .ref mt, .int mp, .int mn, .int (nI mu), .ref ma, .int (nI at_), .int bd, .int le, .int ob, .ref m1, .ref m2, .ref m3, .ref m4, .int (nI rn), .int (nI pw), .ref mc]))]) hD hS hA [0] rfl
      refine va_calli (va_runV (As := [.int (nI 1)]) (rest := []) ⟨hx, hb, hml, hown, hts⟩ (ct_Mo_goes l G cA s.heap.size mo th ms mk mv mm ml cnt mt mp mn mu ma at_ bd le ob m1 m2 m3 m4 rn pw mc (nI 1) (Or.inr rfl)) (cwV 1 hts (gi_v xm_787 xm_789 xs_Mo_goes xm_9 xm_790) rfl rfl rfl ⟨rfl, xh_Mo_goes⟩ ⟨Nat.le_of_ble_eq_true rfl, Nat.le_of_ble_eq_true rfl⟩) (pv_w hK hPc hDc (ci := 8) (q0 := 0) rfl rfl) rfl rfl hl.1 rfl (lv_room (Nat.le_of_ble_eq_true rfl)) xd_Mo_object_25 ⟨Nat.le_of_ble_eq_true rfl, Nat.le_of_ble_eq_true rfl⟩) hS (fun q _ h => hFc q h) hFc (fun r_13 u9 t9 H1 locs ht hvm q_14 hB hz1 hk1 hS => ?_)
      obtain ⟨hP1, hD1⟩ := hB
      rw [ht] at hP1
      obtain ⟨hP, hD⟩ := va_join (wr := [(ms, .inl (cA 0, 720, .inl sa)), (mk, .inl (cA 0, 18720, .inl kd)), (mv, .inl (cA 0, 18720, .inl vl))]) (w1 := [(mo, .inr (8, [.int (gs_T (nI 1)), .ref ms, .ref mk, .ref mv, .int (nI mm), .int (nI ml), .int (nI cnt), .ref mt, .int mp, .int mn, .int (nI mu), .ref ma, .int (nI at_), .int bd, .int le, .int ob, .ref m1, .ref m2, .ref m3, .ref m4, .int (nI rn), .int (nI pw), .ref mc]))]) hP hD [0] [1, 2, 3] rfl rfl (by decide) (by decide) hk1 hFc hP1 hD1
      generalize H1 = H at hP hS ⊢
      have hP : va_P G xk_cl [(ms, .inl (cA 0, 720, .inl sa)), (mk, .inl (cA 0, 18720, .inl kd)), (mv, .inl (cA 0, 18720, .inl vl)), (mo, .inr (8, [.int (gs_T (nI 1)), .ref ms, .ref mk, .ref mv, .int (nI mm), .int (nI ml), .int (nI cnt), .ref mt, .int mp, .int mn, .int (nI mu), .ref ma, .int (nI at_), .int bd, .int le, .int ob, .ref m1, .ref m2, .ref m3, .ref m4, .int (nI rn), .int (nI pw), .ref mc]))] H := hP
      have hD : va_D A [(ms, .inl (cA 0, 720, .inl sa)), (mk, .inl (cA 0, 18720, .inl kd)), (mv, .inl (cA 0, 18720, .inl vl)), (mo, .inr (8, [.int (gs_T (nI 1)), .ref ms, .ref mk, .ref mv, .int (nI mm), .int (nI ml), .int (nI cnt), .ref mt, .int mp, .int mn, .int (nI mu), .ref ma, .int (nI at_), .int bd, .int le, .int ob, .ref m1, .ref m2, .ref m3, .ref m4, .int (nI rn), .int (nI pw), .ref mc]))] := hD
      refine lx_top (z := nI 1) (q_14) ?_
      have hP : va_P G xk_cl [(ms, .inl (cA 0, 720, .inl sa)), (mk, .inl (cA 0, 18720, .inl kd)), (mv, .inl (cA 0, 18720, .inl vl)), (mo, .inr (8, [.int (nI 0), .ref ms, .ref mk, .ref mv, .int (nI mm), .int (nI ml), .int (nI cnt), .ref mt, .int mp, .int mn, .int (nI mu), .ref ma, .int (nI at_), .int bd, .int le, .int ob, .ref m1, .ref m2, .ref m3, .ref m4, .int (nI rn), .int (nI pw), .ref mc]))] H := by skip; exact hP
      have hD : va_D A [(ms, .inl (cA 0, 720, .inl sa)), (mk, .inl (cA 0, 18720, .inl kd)), (mv, .inl (cA 0, 18720, .inl vl)), (mo, .inr (8, [.int (nI 0), .ref ms, .ref mk, .ref mv, .int (nI mm), .int (nI ml), .int (nI cnt), .ref mt, .int mp, .int mn, .int (nI mu), .ref ma, .int (nI at_), .int bd, .int le, .int ob, .ref m1, .ref m2, .ref m3, .ref m4, .int (nI rn), .int (nI pw), .ref mc]))] := by skip; exact hD
      refine lv_if_ne (tgt := 33) hx hb xd_Mo_object_28 (by decide) (fun c_28_14 => ?_) (fun c_28_14 => absurd c_28_14 (by decide))
      have hl : lv_has ls 6 [(0, .ref mo), (1, .int (nI n)), (2, .int wh)] := by rw [← e_n]; exact hl
      refine lv_iconst (v := nI 0) hx hb xd_Mo_object_33 (by decide) ?_
      refine lv_istore_n (lv' := [(3, .int (nI 0)), (0, .ref mo), (1, .int (nI n)), (2, .int wh)]) hx hb xd_Mo_object_34 rfl hl (by decide) rfl (fun ls hl => ?_)
      refine lv_iconst (v := nI 0) hx hb xd_Mo_object_35 (by decide) ?_
      refine lv_istore (lv' := [(4, .int (nI 0)), (3, .int (nI 0)), (0, .ref mo), (1, .int (nI n)), (2, .int wh)]) hx hb xd_Mo_object_36 hl (by decide) rfl (fun ls hl => ?_)
      refine lv_iconst (v := nI 0) hx hb xd_Mo_object_38 (by decide) ?_
      refine lv_istore (lv' := [(5, .int (nI 0)), (4, .int (nI 0)), (3, .int (nI 0)), (0, .ref mo), (1, .int (nI n)), (2, .int wh)]) hx hb xd_Mo_object_39 hl (by decide) rfl (fun ls hl => ?_)
      have hl : lv_has ls 6 [(5, .int (nI 0)), (4, .int (nI 0)), (3, .int (nI (ct_N (kc_B ce n) 0))), (0, .ref mo), (1, .int (nI n)), (2, .int wh)] := by rw [ct_N]; exact hl
      have hl : lv_has ls 6 [(5, .int (nI 0)), (4, .int (nI (ct_N (ot_B ce n) 0))), (3, .int (nI (ct_N (kc_B ce n) 0))), (0, .ref mo), (1, .int (nI n)), (2, .int wh)] := by rw [ct_N]; exact hl
      have lp : ∀ (k_lp : Nat) (i : Nat), (i ≤ 1040) → 1040 - i < k_lp → ∀ (H : Heap) (locs : List Loc), va_P G xk_cl [(ms, .inl (cA 0, 720, .inl sa)), (mk, .inl (cA 0, 18720, .inl kd)), (mv, .inl (cA 0, 18720, .inl vl)), (mo, .inr (8, [.int (nI 0), .ref ms, .ref mk, .ref mv, .int (nI mm), .int (nI ml), .int (nI cnt), .ref mt, .int mp, .int mn, .int (nI mu), .ref ma, .int (nI at_), .int bd, .int le, .int ob, .ref m1, .ref m2, .ref m3, .ref m4, .int (nI rn), .int (nI pw), .ref mc]))] H → va_D A [(ms, .inl (cA 0, 720, .inl sa)), (mk, .inl (cA 0, 18720, .inl kd)), (mv, .inl (cA 0, 18720, .inl vl)), (mo, .inr (8, [.int (nI 0), .ref ms, .ref mk, .ref mv, .int (nI mm), .int (nI ml), .int (nI cnt), .ref mt, .int mp, .int mn, .int (nI mu), .ref ma, .int (nI at_), .int bd, .int le, .int ob, .ref m1, .ref m2, .ref m3, .ref m4, .int (nI rn), .int (nI pw), .ref mc]))] → va_S A s.heap H locs → ∀ (ls : Array Slot), lv_has ls 6 [(0, .ref mo), (1, .int (nI n)), (2, .int wh), (3, .int (nI (ct_N (kc_B ce n) i))), (4, .int (nI (ct_N (ot_B ce n) i))), (5, .int (nI i))] → W p l e (headSpec (.code xy_Mo_object xb_Mo_object 6 (some .int) :: tw_W) ({ frames := 1, cells := 0, slots := 0, locals := 22 })).room s m ([.ref mo, .int x0, .int wh] : List Value).toArray below meth c H locs 0 0 (MQ below (va_Qi (fun (r : Int32) (u9 : Int32) => match u9 with | (th2) => ob_Q st ce x0 wh r th2) (fun u9 T9 => match u9 with | (th2) => at_w G A [(mo, .inr (8, [.int th2, .ref ms, .ref mk, .ref mv, .int (nI mm), .int (nI ml), .int (nI cnt), .ref mt, .int mp, .int mn, .int (nI mu), .ref ma, .int (nI at_), .int bd, .int le, .int ob, .ref m1, .ref m2, .ref m3, .ref m4, .int (nI rn), .int (nI pw), .ref mc])), (ms, .inl (cA 0, 720, .inl sa)), (mk, .inl (cA 0, 18720, .inl kd)), (mv, .inl (cA 0, 18720, .inl vl))] T9) A) ([.ref mo, .int x0, .int wh] : List Value).toArray s 0 0 A) (F0 m 41 ls []) := by
        intro k_lp
        induction k_lp with
        | zero =>
          intro i hi_ hk_lp
          exact absurd hk_lp (Nat.not_lt_zero _)
        | succ k_lp ih_lp =>
          intro i hi_ hk_lp H locs hP hD hS ls hl
          refine lv_iload hx hb xd_Mo_object_41 (lv_at hl 5 rfl) ?_
          refine lv_sipush (v := nI 1040) hx hb xd_Mo_object_43 (by decide) ?_
          refine lv_icmp_ge (tgt := 115) hx hb xd_Mo_object_46 (by decide) (fun c_46_15 => ?_) (fun c_46_15 => ?_)
          · have e_i : i = 1040 := Nat.le_antisymm hi_ (nI_gle (by decide) (by omega) c_46_15)
            subst e_i
            refine lv_iload_n hx hb xd_Mo_object_115 rfl (lv_at hl 2 rfl) ?_
            refine lv_if_ne (tgt := 136) hx hb xd_Mo_object_116 (by decide) (fun c_116_16 => ?_) (fun c_116_16 => ?_)
            · have q_0 : ¬ wh = nI 0 := c_116_16
              refine lv_iload_n hx hb xd_Mo_object_136 rfl (lv_at hl 2 rfl) ?_
              refine lv_iconst (v := nI 1) hx hb xd_Mo_object_137 (by decide) ?_
              refine lv_icmp_ne (tgt := 159) hx hb xd_Mo_object_138 (by decide) (fun c_138_17 => ?_) (fun c_138_17 => ?_)
              · have q_1 : ¬ wh = nI 1 := c_138_17
                refine lv_iload_n hx hb xd_Mo_object_159 rfl (lv_at hl 2 rfl) ?_
                refine lv_iconst (v := nI 2) hx hb xd_Mo_object_160 (by decide) ?_
                refine lv_icmp_ne (tgt := 168) hx hb xd_Mo_object_161 (by decide) (fun c_161_18 => ?_) (fun c_161_18 => ?_)
                · have q_2 : ¬ wh = nI 2 := c_161_18
                  refine lv_iload hx hb xd_Mo_object_168 (lv_at hl 4 rfl) ?_
                  have hP9 : va_P G xk_cl [(mo, .inr (8, [.int (nI 0), .ref ms, .ref mk, .ref mv, .int (nI mm), .int (nI ml), .int (nI cnt), .ref mt, .int mp, .int mn, .int (nI mu), .ref ma, .int (nI at_), .int bd, .int le, .int ob, .ref m1, .ref m2, .ref m3, .ref m4, .int (nI rn), .int (nI pw), .ref mc])), (ms, .inl (cA 0, 720, .inl sa)), (mk, .inl (cA 0, 18720, .inl kd)), (mv, .inl (cA 0, 18720, .inl vl))] _ := hP.sub [3, 0, 1, 2] rfl
                  have hD9 : va_D A [(mo, .inr (8, [.int (nI 0), .ref ms, .ref mk, .ref mv, .int (nI mm), .int (nI ml), .int (nI cnt), .ref mt, .int mp, .int mn, .int (nI mu), .ref ma, .int (nI at_), .int bd, .int le, .int ob, .ref m1, .ref m2, .ref m3, .ref m4, .int (nI rn), .int (nI pw), .ref mc])), (ms, .inl (cA 0, 720, .inl sa)), (mk, .inl (cA 0, 18720, .inl kd)), (mv, .inl (cA 0, 18720, .inl vl))] := hD.sub [3, 0, 1, 2] (by decide) rfl
                  exact W.iret (v := nI (ct_N (ot_B ce n) 1040)) hx hb hr (fun T9 ht hW => ⟨⟨_, (nI 0), rfl, ob_y (st := st) (ce := ce) e_n hn q_w (by rw [ob_R, if_neg q_0, if_neg q_1, if_neg q_2]; rfl), by rw [ht]; exact hP9, hD9⟩, hS.F ht⟩) hS.2.2 xd_Mo_object_170
                · have q_2 : wh = nI 2 := c_161_18
                  refine lv_iload_n hx hb xd_Mo_object_164 rfl (lv_at hl 3 rfl) ?_
                  refine lv_goto (tgt := 170) hx hb xd_Mo_object_165 (by decide) ?_
                  have hP9 : va_P G xk_cl [(mo, .inr (8, [.int (nI 0), .ref ms, .ref mk, .ref mv, .int (nI mm), .int (nI ml), .int (nI cnt), .ref mt, .int mp, .int mn, .int (nI mu), .ref ma, .int (nI at_), .int bd, .int le, .int ob, .ref m1, .ref m2, .ref m3, .ref m4, .int (nI rn), .int (nI pw), .ref mc])), (ms, .inl (cA 0, 720, .inl sa)), (mk, .inl (cA 0, 18720, .inl kd)), (mv, .inl (cA 0, 18720, .inl vl))] _ := hP.sub [3, 0, 1, 2] rfl
                  have hD9 : va_D A [(mo, .inr (8, [.int (nI 0), .ref ms, .ref mk, .ref mv, .int (nI mm), .int (nI ml), .int (nI cnt), .ref mt, .int mp, .int mn, .int (nI mu), .ref ma, .int (nI at_), .int bd, .int le, .int ob, .ref m1, .ref m2, .ref m3, .ref m4, .int (nI rn), .int (nI pw), .ref mc])), (ms, .inl (cA 0, 720, .inl sa)), (mk, .inl (cA 0, 18720, .inl kd)), (mv, .inl (cA 0, 18720, .inl vl))] := hD.sub [3, 0, 1, 2] (by decide) rfl
                  exact W.iret (v := nI (ct_N (kc_B ce n) 1040)) hx hb hr (fun T9 ht hW => ⟨⟨_, (nI 0), rfl, ob_y (st := st) (ce := ce) e_n hn q_w (by rw [ob_R, if_neg q_0, if_neg q_1, if_pos q_2]; exact kc_e ce hn), by rw [ht]; exact hP9, hD9⟩, hS.F ht⟩) hS.2.2 xd_Mo_object_170
              · have q_1 : wh = nI 1 := c_138_17
                refine lv_aload_n hx hb xd_Mo_object_141 rfl (lv_at hl 0 rfl) ?_
                refine va_get (D := G) (ci := 8) (v := .ref ms) (C := xc_Mo) (T := xf_Mo) (N := 23) hx hb hts xw_Mo hown hK.1 hP 3 rfl rfl 1 (by decide) (hts _ xm_620) (fun _ h9 => h9) rfl xd_Mo_object_142 ?_
                refine lv_iload_n hx hb xd_Mo_object_145 rfl (lv_at hl 1 rfl) ?_
                refine wx_iald hx hb hK.1 hP 0 0 rfl rfl (k := n) (by omega) (by decide) xd_Mo_object_146 ?_
                refine lx_top (z := st n) (hR.1 _ hn) ?_
                refine lv_iconst (v := nI 2) hx hb xd_Mo_object_147 (by decide) ?_
                refine lv_icmp_ne (tgt := 155) hx hb xd_Mo_object_148 (by decide) (fun c_148_19 => ?_) (fun c_148_19 => ?_)
                · refine lv_iconst (v := nI 0) hx hb xd_Mo_object_155 (by decide) ?_
                  refine lv_goto (tgt := 170) hx hb xd_Mo_object_156 (by decide) ?_
                  have hP9 : va_P G xk_cl [(mo, .inr (8, [.int (nI 0), .ref ms, .ref mk, .ref mv, .int (nI mm), .int (nI ml), .int (nI cnt), .ref mt, .int mp, .int mn, .int (nI mu), .ref ma, .int (nI at_), .int bd, .int le, .int ob, .ref m1, .ref m2, .ref m3, .ref m4, .int (nI rn), .int (nI pw), .ref mc])), (ms, .inl (cA 0, 720, .inl sa)), (mk, .inl (cA 0, 18720, .inl kd)), (mv, .inl (cA 0, 18720, .inl vl))] _ := hP.sub [3, 0, 1, 2] rfl
                  have hD9 : va_D A [(mo, .inr (8, [.int (nI 0), .ref ms, .ref mk, .ref mv, .int (nI mm), .int (nI ml), .int (nI cnt), .ref mt, .int mp, .int mn, .int (nI mu), .ref ma, .int (nI at_), .int bd, .int le, .int ob, .ref m1, .ref m2, .ref m3, .ref m4, .int (nI rn), .int (nI pw), .ref mc])), (ms, .inl (cA 0, 720, .inl sa)), (mk, .inl (cA 0, 18720, .inl kd)), (mv, .inl (cA 0, 18720, .inl vl))] := hD.sub [3, 0, 1, 2] (by decide) rfl
                  exact W.iret (v := nI 0) hx hb hr (fun T9 ht hW => ⟨⟨_, (nI 0), rfl, ob_y (st := st) (ce := ce) e_n hn q_w (by rw [ob_R, if_neg q_0, if_pos q_1, sp_sg, if_neg c_148_19]), by rw [ht]; exact hP9, hD9⟩, hS.F ht⟩) hS.2.2 xd_Mo_object_170
                · refine lv_iconst (v := nI 1) hx hb xd_Mo_object_151 (by decide) ?_
                  refine lv_goto (tgt := 170) hx hb xd_Mo_object_152 (by decide) ?_
                  have hP9 : va_P G xk_cl [(mo, .inr (8, [.int (nI 0), .ref ms, .ref mk, .ref mv, .int (nI mm), .int (nI ml), .int (nI cnt), .ref mt, .int mp, .int mn, .int (nI mu), .ref ma, .int (nI at_), .int bd, .int le, .int ob, .ref m1, .ref m2, .ref m3, .ref m4, .int (nI rn), .int (nI pw), .ref mc])), (ms, .inl (cA 0, 720, .inl sa)), (mk, .inl (cA 0, 18720, .inl kd)), (mv, .inl (cA 0, 18720, .inl vl))] _ := hP.sub [3, 0, 1, 2] rfl
                  have hD9 : va_D A [(mo, .inr (8, [.int (nI 0), .ref ms, .ref mk, .ref mv, .int (nI mm), .int (nI ml), .int (nI cnt), .ref mt, .int mp, .int mn, .int (nI mu), .ref ma, .int (nI at_), .int bd, .int le, .int ob, .ref m1, .ref m2, .ref m3, .ref m4, .int (nI rn), .int (nI pw), .ref mc])), (ms, .inl (cA 0, 720, .inl sa)), (mk, .inl (cA 0, 18720, .inl kd)), (mv, .inl (cA 0, 18720, .inl vl))] := hD.sub [3, 0, 1, 2] (by decide) rfl
                  exact W.iret (v := nI 1) hx hb hr (fun T9 ht hW => ⟨⟨_, (nI 0), rfl, ob_y (st := st) (ce := ce) e_n hn q_w (by rw [ob_R, if_neg q_0, if_pos q_1, sp_sg, if_pos c_148_19]), by rw [ht]; exact hP9, hD9⟩, hS.F ht⟩) hS.2.2 xd_Mo_object_170
            · have q_0 : wh = nI 0 := c_116_16
              refine lv_aload_n hx hb xd_Mo_object_119 rfl (lv_at hl 0 rfl) ?_
              refine va_get (D := G) (ci := 8) (v := .ref ms) (C := xc_Mo) (T := xf_Mo) (N := 23) hx hb hts xw_Mo hown hK.1 hP 3 rfl rfl 1 (by decide) (hts _ xm_620) (fun _ h9 => h9) rfl xd_Mo_object_120 ?_
              refine lv_iload_n hx hb xd_Mo_object_123 rfl (lv_at hl 1 rfl) ?_
              refine wx_iald hx hb hK.1 hP 0 0 rfl rfl (k := n) (by omega) (by decide) xd_Mo_object_124 ?_
              refine lx_top (z := st n) (hR.1 _ hn) ?_
              refine lv_if_le (tgt := 132) hx hb xd_Mo_object_125 (by decide) (fun c_125_20 => ?_) (fun c_125_20 => ?_)
              · refine lv_iconst (v := nI 0) hx hb xd_Mo_object_132 (by decide) ?_
                refine lv_goto (tgt := 170) hx hb xd_Mo_object_133 (by decide) ?_
                have hP9 : va_P G xk_cl [(mo, .inr (8, [.int (nI 0), .ref ms, .ref mk, .ref mv, .int (nI mm), .int (nI ml), .int (nI cnt), .ref mt, .int mp, .int mn, .int (nI mu), .ref ma, .int (nI at_), .int bd, .int le, .int ob, .ref m1, .ref m2, .ref m3, .ref m4, .int (nI rn), .int (nI pw), .ref mc])), (ms, .inl (cA 0, 720, .inl sa)), (mk, .inl (cA 0, 18720, .inl kd)), (mv, .inl (cA 0, 18720, .inl vl))] _ := hP.sub [3, 0, 1, 2] rfl
                have hD9 : va_D A [(mo, .inr (8, [.int (nI 0), .ref ms, .ref mk, .ref mv, .int (nI mm), .int (nI ml), .int (nI cnt), .ref mt, .int mp, .int mn, .int (nI mu), .ref ma, .int (nI at_), .int bd, .int le, .int ob, .ref m1, .ref m2, .ref m3, .ref m4, .int (nI rn), .int (nI pw), .ref mc])), (ms, .inl (cA 0, 720, .inl sa)), (mk, .inl (cA 0, 18720, .inl kd)), (mv, .inl (cA 0, 18720, .inl vl))] := hD.sub [3, 0, 1, 2] (by decide) rfl
                exact W.iret (v := nI 0) hx hb hr (fun T9 ht hW => ⟨⟨_, (nI 0), rfl, ob_y (st := st) (ce := ce) e_n hn q_w (by rw [ob_R, if_pos q_0]; exact (by rw [(so_le (hso n hn)).mp c_125_20]; rfl)), by rw [ht]; exact hP9, hD9⟩, hS.F ht⟩) hS.2.2 xd_Mo_object_170
              · refine lv_iconst (v := nI 1) hx hb xd_Mo_object_128 (by decide) ?_
                refine lv_goto (tgt := 170) hx hb xd_Mo_object_129 (by decide) ?_
                have hP9 : va_P G xk_cl [(mo, .inr (8, [.int (nI 0), .ref ms, .ref mk, .ref mv, .int (nI mm), .int (nI ml), .int (nI cnt), .ref mt, .int mp, .int mn, .int (nI mu), .ref ma, .int (nI at_), .int bd, .int le, .int ob, .ref m1, .ref m2, .ref m3, .ref m4, .int (nI rn), .int (nI pw), .ref mc])), (ms, .inl (cA 0, 720, .inl sa)), (mk, .inl (cA 0, 18720, .inl kd)), (mv, .inl (cA 0, 18720, .inl vl))] _ := hP.sub [3, 0, 1, 2] rfl
                have hD9 : va_D A [(mo, .inr (8, [.int (nI 0), .ref ms, .ref mk, .ref mv, .int (nI mm), .int (nI ml), .int (nI cnt), .ref mt, .int mp, .int mn, .int (nI mu), .ref ma, .int (nI at_), .int bd, .int le, .int ob, .ref m1, .ref m2, .ref m3, .ref m4, .int (nI rn), .int (nI pw), .ref mc])), (ms, .inl (cA 0, 720, .inl sa)), (mk, .inl (cA 0, 18720, .inl kd)), (mv, .inl (cA 0, 18720, .inl vl))] := hD.sub [3, 0, 1, 2] (by decide) rfl
                exact W.iret (v := nI 1) hx hb hr (fun T9 ht hW => ⟨⟨_, (nI 0), rfl, ob_y (st := st) (ce := ce) e_n hn q_w (by rw [ob_R, if_pos q_0]; exact sg_e (hso n hn) c_125_20), by rw [ht]; exact hP9, hD9⟩, hS.F ht⟩) hS.2.2 xd_Mo_object_170
          · have e_i := nI_gnl (by decide) (by omega) c_46_15
            refine lv_iload hx hb xd_Mo_object_49 (lv_at hl 5 rfl) ?_
            refine lv_bipush (v := nI 26) hx hb xd_Mo_object_51 (by decide) ?_
            refine lx_idiv (z := nI (i / 26)) hx hb xd_Mo_object_53 (by decide) (pk_div (by omega) (by omega) (by omega)) ?_
            refine lv_iload_n hx hb xd_Mo_object_54 rfl (lv_at hl 1 rfl) ?_
            refine lv_icmp_ne (tgt := 74) hx hb xd_Mo_object_55 (by decide) (fun c_55_21 => ?_) (fun c_55_21 => ?_)
            · have q_k : ¬ i / 26 = n ∨ ce i = 0 := Or.inl (fun z => c_55_21 (by rw [z]))
              refine lv_iload_n hx hb xd_Mo_object_74 rfl (lv_at hl 3 rfl) ?_
              refine lv_istore_n (lv' := [(3, .int (nI (ct_N (kc_B ce n) i))), (0, .ref mo), (1, .int (nI n)), (2, .int wh), (4, .int (nI (ct_N (ot_B ce n) i))), (5, .int (nI i))]) hx hb xd_Mo_object_75 rfl hl (by decide) rfl (fun ls hl => ?_)
              refine lv_aload_n hx hb xd_Mo_object_76 rfl (lv_at hl 1 rfl) ?_
              refine va_get (D := G) (ci := 8) (v := .ref mk) (C := xc_Mo) (T := xf_Mo) (N := 23) hx hb hts xw_Mo hown hK.1 hP 3 rfl rfl 2 (by decide) (hts _ xm_621) (fun _ h9 => h9) rfl xd_Mo_object_77 ?_
              refine lv_iload hx hb xd_Mo_object_80 (lv_at hl 5 rfl) ?_
              refine wx_iald hx hb hK.1 hP 1 0 rfl rfl (k := i) (by omega) (by decide) xd_Mo_object_82 ?_
              refine lx_top (z := en_K (ce i)) ((hR.2 _ (by omega)).1) ?_
              refine lv_iconst (v := nI 2) hx hb xd_Mo_object_83 (by decide) ?_
              refine lv_icmp_ne (tgt := 105) hx hb xd_Mo_object_84 (by decide) (fun c_84_22 => ?_) (fun c_84_22 => ?_)
              · have q_o : ¬ ce i = en_C (nI 2) (nI n) := fun z => c_84_22 ((ot_i hn).mp z).1
                refine lv_iload hx hb xd_Mo_object_105 (lv_at hl 4 rfl) ?_
                refine lv_istore (lv' := [(4, .int (nI (ct_N (ot_B ce n) i))), (3, .int (nI (ct_N (kc_B ce n) i))), (0, .ref mo), (1, .int (nI n)), (2, .int wh), (5, .int (nI i))]) hx hb xd_Mo_object_107 hl (by decide) rfl (fun ls hl => ?_)
                refine lv_iinc (v := nI (i + 1)) (lv' := [(5, .int (nI (i + 1))), (4, .int (nI (ct_N (ot_B ce n) i))), (3, .int (nI (ct_N (kc_B ce n) i))), (0, .ref mo), (1, .int (nI n)), (2, .int wh)]) hx hb xd_Mo_object_109 hl (k := 5) rfl (nI_inc _) (by decide) rfl (fun ls hl => ?_)
                refine lv_goto (tgt := 41) hx hb xd_Mo_object_112 (by decide) ?_
                have hl : lv_has ls 6 [(5, .int (nI (i + 1))), (4, .int (nI (ct_N (ot_B ce n) i))), (3, .int (nI (ct_N (kc_B ce n) (i + 1)))), (0, .ref mo), (1, .int (nI n)), (2, .int wh)] := by rw [ct_N_f (kc_f q_k)]; exact hl
                have hl : lv_has ls 6 [(5, .int (nI (i + 1))), (4, .int (nI (ct_N (ot_B ce n) (i + 1)))), (3, .int (nI (ct_N (kc_B ce n) (i + 1)))), (0, .ref mo), (1, .int (nI n)), (2, .int wh)] := by rw [ct_N_f (ot_f q_o)]; exact hl
                exact ih_lp (i + 1) (by omega) (by omega) _ _ (hP.sub [0, 1, 2, 3] rfl) (hD.sub [0, 1, 2, 3] (by decide) rfl) hS ls (lv_sub hl [3, 4, 5, 2, 1, 0] rfl)
              · have q_o2 := c_84_22
                refine lv_aload_n hx hb xd_Mo_object_87 rfl (lv_at hl 1 rfl) ?_
                refine va_get (D := G) (ci := 8) (v := .ref mv) (C := xc_Mo) (T := xf_Mo) (N := 23) hx hb hts xw_Mo hown hK.1 hP 3 rfl rfl 3 (by decide) (hts _ xm_622) (fun _ h9 => h9) rfl xd_Mo_object_88 ?_
                refine lv_iload hx hb xd_Mo_object_91 (lv_at hl 5 rfl) ?_
                refine wx_iald hx hb hK.1 hP 2 0 rfl rfl (k := i) (by omega) (by decide) xd_Mo_object_93 ?_
                refine lx_top (z := en_V (ce i)) ((hR.2 _ (by omega)).2) ?_
                refine lv_iload_n hx hb xd_Mo_object_94 rfl (lv_at hl 2 rfl) ?_
                refine lv_icmp_ne (tgt := 105) hx hb xd_Mo_object_95 (by decide) (fun c_95_23 => ?_) (fun c_95_23 => ?_)
                · have q_o : ¬ ce i = en_C (nI 2) (nI n) := fun z => c_95_23 ((ot_i hn).mp z).2
                  refine lv_iload hx hb xd_Mo_object_105 (lv_at hl 4 rfl) ?_
                  refine lv_istore (lv' := [(4, .int (nI (ct_N (ot_B ce n) i))), (3, .int (nI (ct_N (kc_B ce n) i))), (0, .ref mo), (1, .int (nI n)), (2, .int wh), (5, .int (nI i))]) hx hb xd_Mo_object_107 hl (by decide) rfl (fun ls hl => ?_)
                  refine lv_iinc (v := nI (i + 1)) (lv' := [(5, .int (nI (i + 1))), (4, .int (nI (ct_N (ot_B ce n) i))), (3, .int (nI (ct_N (kc_B ce n) i))), (0, .ref mo), (1, .int (nI n)), (2, .int wh)]) hx hb xd_Mo_object_109 hl (k := 5) rfl (nI_inc _) (by decide) rfl (fun ls hl => ?_)
                  refine lv_goto (tgt := 41) hx hb xd_Mo_object_112 (by decide) ?_
                  have hl : lv_has ls 6 [(5, .int (nI (i + 1))), (4, .int (nI (ct_N (ot_B ce n) i))), (3, .int (nI (ct_N (kc_B ce n) (i + 1)))), (0, .ref mo), (1, .int (nI n)), (2, .int wh)] := by rw [ct_N_f (kc_f q_k)]; exact hl
                  have hl : lv_has ls 6 [(5, .int (nI (i + 1))), (4, .int (nI (ct_N (ot_B ce n) (i + 1)))), (3, .int (nI (ct_N (kc_B ce n) (i + 1)))), (0, .ref mo), (1, .int (nI n)), (2, .int wh)] := by rw [ct_N_f (ot_f q_o)]; exact hl
                  exact ih_lp (i + 1) (by omega) (by omega) _ _ (hP.sub [0, 1, 2, 3] rfl) (hD.sub [0, 1, 2, 3] (by decide) rfl) hS ls (lv_sub hl [3, 4, 5, 2, 1, 0] rfl)
                · have q_o : ce i = en_C (nI 2) (nI n) := (ot_i hn).mpr ⟨q_o2, c_95_23⟩
                  refine lv_iload hx hb xd_Mo_object_98 (lv_at hl 4 rfl) ?_
                  refine lv_iconst (v := nI 1) hx hb xd_Mo_object_100 (by decide) ?_
                  refine lx_iadd (z := nI (ct_N (ot_B ce n) i + 1)) hx hb xd_Mo_object_101 (nI_add _ _) ?_
                  refine lv_goto (tgt := 107) hx hb xd_Mo_object_102 (by decide) ?_
                  refine lv_istore (lv' := [(4, .int (nI (ct_N (ot_B ce n) i + 1))), (3, .int (nI (ct_N (kc_B ce n) i))), (0, .ref mo), (1, .int (nI n)), (2, .int wh), (5, .int (nI i))]) hx hb xd_Mo_object_107 hl (by decide) rfl (fun ls hl => ?_)
                  refine lv_iinc (v := nI (i + 1)) (lv' := [(5, .int (nI (i + 1))), (4, .int (nI (ct_N (ot_B ce n) i + 1))), (3, .int (nI (ct_N (kc_B ce n) i))), (0, .ref mo), (1, .int (nI n)), (2, .int wh)]) hx hb xd_Mo_object_109 hl (k := 5) rfl (nI_inc _) (by decide) rfl (fun ls hl => ?_)
                  refine lv_goto (tgt := 41) hx hb xd_Mo_object_112 (by decide) ?_
                  have hl : lv_has ls 6 [(5, .int (nI (i + 1))), (4, .int (nI (ct_N (ot_B ce n) i + 1))), (3, .int (nI (ct_N (kc_B ce n) (i + 1)))), (0, .ref mo), (1, .int (nI n)), (2, .int wh)] := by rw [ct_N_f (kc_f q_k)]; exact hl
                  have hl : lv_has ls 6 [(5, .int (nI (i + 1))), (4, .int (nI (ct_N (ot_B ce n) (i + 1)))), (3, .int (nI (ct_N (kc_B ce n) (i + 1)))), (0, .ref mo), (1, .int (nI n)), (2, .int wh)] := by rw [ct_N_t (ot_t q_o)]; exact hl
                  exact ih_lp (i + 1) (by omega) (by omega) _ _ (hP.sub [0, 1, 2, 3] rfl) (hD.sub [0, 1, 2, 3] (by decide) rfl) hS ls (lv_sub hl [3, 4, 5, 2, 1, 0] rfl)
            · have q_k1 : i / 26 = n := nI_ge' (by omega) (by omega) c_55_21
              refine lv_aload_n hx hb xd_Mo_object_58 rfl (lv_at hl 0 rfl) ?_
              refine va_get (D := G) (ci := 8) (v := .ref mk) (C := xc_Mo) (T := xf_Mo) (N := 23) hx hb hts xw_Mo hown hK.1 hP 3 rfl rfl 2 (by decide) (hts _ xm_621) (fun _ h9 => h9) rfl xd_Mo_object_59 ?_
              refine lv_iload hx hb xd_Mo_object_62 (lv_at hl 5 rfl) ?_
              refine wx_iald hx hb hK.1 hP 1 0 rfl rfl (k := i) (by omega) (by decide) xd_Mo_object_64 ?_
              refine lx_top (z := en_K (ce i)) ((hR.2 _ (by omega)).1) ?_
              refine lv_if_eq (tgt := 74) hx hb xd_Mo_object_65 (by decide) (fun c_65_24 => ?_) (fun c_65_24 => ?_)
              · have q_k : ¬ i / 26 = n ∨ ce i = 0 := Or.inr (hZ _ (by omega) c_65_24)
                refine lv_iload_n hx hb xd_Mo_object_74 rfl (lv_at hl 3 rfl) ?_
                refine lv_istore_n (lv' := [(3, .int (nI (ct_N (kc_B ce n) i))), (0, .ref mo), (1, .int (nI n)), (2, .int wh), (4, .int (nI (ct_N (ot_B ce n) i))), (5, .int (nI i))]) hx hb xd_Mo_object_75 rfl hl (by decide) rfl (fun ls hl => ?_)
                refine lv_aload_n hx hb xd_Mo_object_76 rfl (lv_at hl 1 rfl) ?_
                refine va_get (D := G) (ci := 8) (v := .ref mk) (C := xc_Mo) (T := xf_Mo) (N := 23) hx hb hts xw_Mo hown hK.1 hP 3 rfl rfl 2 (by decide) (hts _ xm_621) (fun _ h9 => h9) rfl xd_Mo_object_77 ?_
                refine lv_iload hx hb xd_Mo_object_80 (lv_at hl 5 rfl) ?_
                refine wx_iald hx hb hK.1 hP 1 0 rfl rfl (k := i) (by omega) (by decide) xd_Mo_object_82 ?_
                refine lx_top (z := en_K (ce i)) ((hR.2 _ (by omega)).1) ?_
                refine lv_iconst (v := nI 2) hx hb xd_Mo_object_83 (by decide) ?_
                refine lv_icmp_ne (tgt := 105) hx hb xd_Mo_object_84 (by decide) (fun c_84_25 => ?_) (fun c_84_25 => ?_)
                · have q_o : ¬ ce i = en_C (nI 2) (nI n) := fun z => c_84_25 ((ot_i hn).mp z).1
                  refine lv_iload hx hb xd_Mo_object_105 (lv_at hl 4 rfl) ?_
                  refine lv_istore (lv' := [(4, .int (nI (ct_N (ot_B ce n) i))), (3, .int (nI (ct_N (kc_B ce n) i))), (0, .ref mo), (1, .int (nI n)), (2, .int wh), (5, .int (nI i))]) hx hb xd_Mo_object_107 hl (by decide) rfl (fun ls hl => ?_)
                  refine lv_iinc (v := nI (i + 1)) (lv' := [(5, .int (nI (i + 1))), (4, .int (nI (ct_N (ot_B ce n) i))), (3, .int (nI (ct_N (kc_B ce n) i))), (0, .ref mo), (1, .int (nI n)), (2, .int wh)]) hx hb xd_Mo_object_109 hl (k := 5) rfl (nI_inc _) (by decide) rfl (fun ls hl => ?_)
                  refine lv_goto (tgt := 41) hx hb xd_Mo_object_112 (by decide) ?_
                  have hl : lv_has ls 6 [(5, .int (nI (i + 1))), (4, .int (nI (ct_N (ot_B ce n) i))), (3, .int (nI (ct_N (kc_B ce n) (i + 1)))), (0, .ref mo), (1, .int (nI n)), (2, .int wh)] := by rw [ct_N_f (kc_f q_k)]; exact hl
                  have hl : lv_has ls 6 [(5, .int (nI (i + 1))), (4, .int (nI (ct_N (ot_B ce n) (i + 1)))), (3, .int (nI (ct_N (kc_B ce n) (i + 1)))), (0, .ref mo), (1, .int (nI n)), (2, .int wh)] := by rw [ct_N_f (ot_f q_o)]; exact hl
                  exact ih_lp (i + 1) (by omega) (by omega) _ _ (hP.sub [0, 1, 2, 3] rfl) (hD.sub [0, 1, 2, 3] (by decide) rfl) hS ls (lv_sub hl [3, 4, 5, 2, 1, 0] rfl)
                · have q_o2 := c_84_25
                  refine lv_aload_n hx hb xd_Mo_object_87 rfl (lv_at hl 1 rfl) ?_
                  refine va_get (D := G) (ci := 8) (v := .ref mv) (C := xc_Mo) (T := xf_Mo) (N := 23) hx hb hts xw_Mo hown hK.1 hP 3 rfl rfl 3 (by decide) (hts _ xm_622) (fun _ h9 => h9) rfl xd_Mo_object_88 ?_
                  refine lv_iload hx hb xd_Mo_object_91 (lv_at hl 5 rfl) ?_
                  refine wx_iald hx hb hK.1 hP 2 0 rfl rfl (k := i) (by omega) (by decide) xd_Mo_object_93 ?_
                  refine lx_top (z := en_V (ce i)) ((hR.2 _ (by omega)).2) ?_
                  refine lv_iload_n hx hb xd_Mo_object_94 rfl (lv_at hl 2 rfl) ?_
                  refine lv_icmp_ne (tgt := 105) hx hb xd_Mo_object_95 (by decide) (fun c_95_26 => ?_) (fun c_95_26 => ?_)
                  · have q_o : ¬ ce i = en_C (nI 2) (nI n) := fun z => c_95_26 ((ot_i hn).mp z).2
                    refine lv_iload hx hb xd_Mo_object_105 (lv_at hl 4 rfl) ?_
                    refine lv_istore (lv' := [(4, .int (nI (ct_N (ot_B ce n) i))), (3, .int (nI (ct_N (kc_B ce n) i))), (0, .ref mo), (1, .int (nI n)), (2, .int wh), (5, .int (nI i))]) hx hb xd_Mo_object_107 hl (by decide) rfl (fun ls hl => ?_)
                    refine lv_iinc (v := nI (i + 1)) (lv' := [(5, .int (nI (i + 1))), (4, .int (nI (ct_N (ot_B ce n) i))), (3, .int (nI (ct_N (kc_B ce n) i))), (0, .ref mo), (1, .int (nI n)), (2, .int wh)]) hx hb xd_Mo_object_109 hl (k := 5) rfl (nI_inc _) (by decide) rfl (fun ls hl => ?_)
                    refine lv_goto (tgt := 41) hx hb xd_Mo_object_112 (by decide) ?_
                    have hl : lv_has ls 6 [(5, .int (nI (i + 1))), (4, .int (nI (ct_N (ot_B ce n) i))), (3, .int (nI (ct_N (kc_B ce n) (i + 1)))), (0, .ref mo), (1, .int (nI n)), (2, .int wh)] := by rw [ct_N_f (kc_f q_k)]; exact hl
                    have hl : lv_has ls 6 [(5, .int (nI (i + 1))), (4, .int (nI (ct_N (ot_B ce n) (i + 1)))), (3, .int (nI (ct_N (kc_B ce n) (i + 1)))), (0, .ref mo), (1, .int (nI n)), (2, .int wh)] := by rw [ct_N_f (ot_f q_o)]; exact hl
                    exact ih_lp (i + 1) (by omega) (by omega) _ _ (hP.sub [0, 1, 2, 3] rfl) (hD.sub [0, 1, 2, 3] (by decide) rfl) hS ls (lv_sub hl [3, 4, 5, 2, 1, 0] rfl)
                  · have q_o : ce i = en_C (nI 2) (nI n) := (ot_i hn).mpr ⟨q_o2, c_95_26⟩
                    refine lv_iload hx hb xd_Mo_object_98 (lv_at hl 4 rfl) ?_
                    refine lv_iconst (v := nI 1) hx hb xd_Mo_object_100 (by decide) ?_
                    refine lx_iadd (z := nI (ct_N (ot_B ce n) i + 1)) hx hb xd_Mo_object_101 (nI_add _ _) ?_
                    refine lv_goto (tgt := 107) hx hb xd_Mo_object_102 (by decide) ?_
                    refine lv_istore (lv' := [(4, .int (nI (ct_N (ot_B ce n) i + 1))), (3, .int (nI (ct_N (kc_B ce n) i))), (0, .ref mo), (1, .int (nI n)), (2, .int wh), (5, .int (nI i))]) hx hb xd_Mo_object_107 hl (by decide) rfl (fun ls hl => ?_)
                    refine lv_iinc (v := nI (i + 1)) (lv' := [(5, .int (nI (i + 1))), (4, .int (nI (ct_N (ot_B ce n) i + 1))), (3, .int (nI (ct_N (kc_B ce n) i))), (0, .ref mo), (1, .int (nI n)), (2, .int wh)]) hx hb xd_Mo_object_109 hl (k := 5) rfl (nI_inc _) (by decide) rfl (fun ls hl => ?_)
                    refine lv_goto (tgt := 41) hx hb xd_Mo_object_112 (by decide) ?_
                    have hl : lv_has ls 6 [(5, .int (nI (i + 1))), (4, .int (nI (ct_N (ot_B ce n) i + 1))), (3, .int (nI (ct_N (kc_B ce n) (i + 1)))), (0, .ref mo), (1, .int (nI n)), (2, .int wh)] := by rw [ct_N_f (kc_f q_k)]; exact hl
                    have hl : lv_has ls 6 [(5, .int (nI (i + 1))), (4, .int (nI (ct_N (ot_B ce n) (i + 1)))), (3, .int (nI (ct_N (kc_B ce n) (i + 1)))), (0, .ref mo), (1, .int (nI n)), (2, .int wh)] := by rw [ct_N_t (ot_t q_o)]; exact hl
                    exact ih_lp (i + 1) (by omega) (by omega) _ _ (hP.sub [0, 1, 2, 3] rfl) (hD.sub [0, 1, 2, 3] (by decide) rfl) hS ls (lv_sub hl [3, 4, 5, 2, 1, 0] rfl)
              · have q_k2 : ¬ ce i = 0 := fun z => c_65_24 (by rw [z]; decide)
                refine lv_iload_n hx hb xd_Mo_object_68 rfl (lv_at hl 3 rfl) ?_
                refine lv_iconst (v := nI 1) hx hb xd_Mo_object_69 (by decide) ?_
                refine lx_iadd (z := nI (ct_N (kc_B ce n) i + 1)) hx hb xd_Mo_object_70 (nI_add _ _) ?_
                refine lv_goto (tgt := 75) hx hb xd_Mo_object_71 (by decide) ?_
                refine lv_istore_n (lv' := [(3, .int (nI (ct_N (kc_B ce n) i + 1))), (0, .ref mo), (1, .int (nI n)), (2, .int wh), (4, .int (nI (ct_N (ot_B ce n) i))), (5, .int (nI i))]) hx hb xd_Mo_object_75 rfl hl (by decide) rfl (fun ls hl => ?_)
                refine lv_aload_n hx hb xd_Mo_object_76 rfl (lv_at hl 1 rfl) ?_
                refine va_get (D := G) (ci := 8) (v := .ref mk) (C := xc_Mo) (T := xf_Mo) (N := 23) hx hb hts xw_Mo hown hK.1 hP 3 rfl rfl 2 (by decide) (hts _ xm_621) (fun _ h9 => h9) rfl xd_Mo_object_77 ?_
                refine lv_iload hx hb xd_Mo_object_80 (lv_at hl 5 rfl) ?_
                refine wx_iald hx hb hK.1 hP 1 0 rfl rfl (k := i) (by omega) (by decide) xd_Mo_object_82 ?_
                refine lx_top (z := en_K (ce i)) ((hR.2 _ (by omega)).1) ?_
                refine lv_iconst (v := nI 2) hx hb xd_Mo_object_83 (by decide) ?_
                refine lv_icmp_ne (tgt := 105) hx hb xd_Mo_object_84 (by decide) (fun c_84_27 => ?_) (fun c_84_27 => ?_)
                · have q_o : ¬ ce i = en_C (nI 2) (nI n) := fun z => c_84_27 ((ot_i hn).mp z).1
                  refine lv_iload hx hb xd_Mo_object_105 (lv_at hl 4 rfl) ?_
                  refine lv_istore (lv' := [(4, .int (nI (ct_N (ot_B ce n) i))), (3, .int (nI (ct_N (kc_B ce n) i + 1))), (0, .ref mo), (1, .int (nI n)), (2, .int wh), (5, .int (nI i))]) hx hb xd_Mo_object_107 hl (by decide) rfl (fun ls hl => ?_)
                  refine lv_iinc (v := nI (i + 1)) (lv' := [(5, .int (nI (i + 1))), (4, .int (nI (ct_N (ot_B ce n) i))), (3, .int (nI (ct_N (kc_B ce n) i + 1))), (0, .ref mo), (1, .int (nI n)), (2, .int wh)]) hx hb xd_Mo_object_109 hl (k := 5) rfl (nI_inc _) (by decide) rfl (fun ls hl => ?_)
                  refine lv_goto (tgt := 41) hx hb xd_Mo_object_112 (by decide) ?_
                  have hl : lv_has ls 6 [(5, .int (nI (i + 1))), (4, .int (nI (ct_N (ot_B ce n) i))), (3, .int (nI (ct_N (kc_B ce n) (i + 1)))), (0, .ref mo), (1, .int (nI n)), (2, .int wh)] := by rw [ct_N_t (kc_t q_k1 q_k2)]; exact hl
                  have hl : lv_has ls 6 [(5, .int (nI (i + 1))), (4, .int (nI (ct_N (ot_B ce n) (i + 1)))), (3, .int (nI (ct_N (kc_B ce n) (i + 1)))), (0, .ref mo), (1, .int (nI n)), (2, .int wh)] := by rw [ct_N_f (ot_f q_o)]; exact hl
                  exact ih_lp (i + 1) (by omega) (by omega) _ _ (hP.sub [0, 1, 2, 3] rfl) (hD.sub [0, 1, 2, 3] (by decide) rfl) hS ls (lv_sub hl [3, 4, 5, 2, 1, 0] rfl)
                · have q_o2 := c_84_27
                  refine lv_aload_n hx hb xd_Mo_object_87 rfl (lv_at hl 1 rfl) ?_
                  refine va_get (D := G) (ci := 8) (v := .ref mv) (C := xc_Mo) (T := xf_Mo) (N := 23) hx hb hts xw_Mo hown hK.1 hP 3 rfl rfl 3 (by decide) (hts _ xm_622) (fun _ h9 => h9) rfl xd_Mo_object_88 ?_
                  refine lv_iload hx hb xd_Mo_object_91 (lv_at hl 5 rfl) ?_
                  refine wx_iald hx hb hK.1 hP 2 0 rfl rfl (k := i) (by omega) (by decide) xd_Mo_object_93 ?_
                  refine lx_top (z := en_V (ce i)) ((hR.2 _ (by omega)).2) ?_
                  refine lv_iload_n hx hb xd_Mo_object_94 rfl (lv_at hl 2 rfl) ?_
                  refine lv_icmp_ne (tgt := 105) hx hb xd_Mo_object_95 (by decide) (fun c_95_28 => ?_) (fun c_95_28 => ?_)
                  · have q_o : ¬ ce i = en_C (nI 2) (nI n) := fun z => c_95_28 ((ot_i hn).mp z).2
                    refine lv_iload hx hb xd_Mo_object_105 (lv_at hl 4 rfl) ?_
                    refine lv_istore (lv' := [(4, .int (nI (ct_N (ot_B ce n) i))), (3, .int (nI (ct_N (kc_B ce n) i + 1))), (0, .ref mo), (1, .int (nI n)), (2, .int wh), (5, .int (nI i))]) hx hb xd_Mo_object_107 hl (by decide) rfl (fun ls hl => ?_)
                    refine lv_iinc (v := nI (i + 1)) (lv' := [(5, .int (nI (i + 1))), (4, .int (nI (ct_N (ot_B ce n) i))), (3, .int (nI (ct_N (kc_B ce n) i + 1))), (0, .ref mo), (1, .int (nI n)), (2, .int wh)]) hx hb xd_Mo_object_109 hl (k := 5) rfl (nI_inc _) (by decide) rfl (fun ls hl => ?_)
                    refine lv_goto (tgt := 41) hx hb xd_Mo_object_112 (by decide) ?_
                    have hl : lv_has ls 6 [(5, .int (nI (i + 1))), (4, .int (nI (ct_N (ot_B ce n) i))), (3, .int (nI (ct_N (kc_B ce n) (i + 1)))), (0, .ref mo), (1, .int (nI n)), (2, .int wh)] := by rw [ct_N_t (kc_t q_k1 q_k2)]; exact hl
                    have hl : lv_has ls 6 [(5, .int (nI (i + 1))), (4, .int (nI (ct_N (ot_B ce n) (i + 1)))), (3, .int (nI (ct_N (kc_B ce n) (i + 1)))), (0, .ref mo), (1, .int (nI n)), (2, .int wh)] := by rw [ct_N_f (ot_f q_o)]; exact hl
                    exact ih_lp (i + 1) (by omega) (by omega) _ _ (hP.sub [0, 1, 2, 3] rfl) (hD.sub [0, 1, 2, 3] (by decide) rfl) hS ls (lv_sub hl [3, 4, 5, 2, 1, 0] rfl)
                  · have q_o : ce i = en_C (nI 2) (nI n) := (ot_i hn).mpr ⟨q_o2, c_95_28⟩
                    refine lv_iload hx hb xd_Mo_object_98 (lv_at hl 4 rfl) ?_
                    refine lv_iconst (v := nI 1) hx hb xd_Mo_object_100 (by decide) ?_
                    refine lx_iadd (z := nI (ct_N (ot_B ce n) i + 1)) hx hb xd_Mo_object_101 (nI_add _ _) ?_
                    refine lv_goto (tgt := 107) hx hb xd_Mo_object_102 (by decide) ?_
                    refine lv_istore (lv' := [(4, .int (nI (ct_N (ot_B ce n) i + 1))), (3, .int (nI (ct_N (kc_B ce n) i + 1))), (0, .ref mo), (1, .int (nI n)), (2, .int wh), (5, .int (nI i))]) hx hb xd_Mo_object_107 hl (by decide) rfl (fun ls hl => ?_)
                    refine lv_iinc (v := nI (i + 1)) (lv' := [(5, .int (nI (i + 1))), (4, .int (nI (ct_N (ot_B ce n) i + 1))), (3, .int (nI (ct_N (kc_B ce n) i + 1))), (0, .ref mo), (1, .int (nI n)), (2, .int wh)]) hx hb xd_Mo_object_109 hl (k := 5) rfl (nI_inc _) (by decide) rfl (fun ls hl => ?_)
                    refine lv_goto (tgt := 41) hx hb xd_Mo_object_112 (by decide) ?_
                    have hl : lv_has ls 6 [(5, .int (nI (i + 1))), (4, .int (nI (ct_N (ot_B ce n) i + 1))), (3, .int (nI (ct_N (kc_B ce n) (i + 1)))), (0, .ref mo), (1, .int (nI n)), (2, .int wh)] := by rw [ct_N_t (kc_t q_k1 q_k2)]; exact hl
                    have hl : lv_has ls 6 [(5, .int (nI (i + 1))), (4, .int (nI (ct_N (ot_B ce n) (i + 1)))), (3, .int (nI (ct_N (kc_B ce n) (i + 1)))), (0, .ref mo), (1, .int (nI n)), (2, .int wh)] := by rw [ct_N_t (ot_t q_o)]; exact hl
                    exact ih_lp (i + 1) (by omega) (by omega) _ _ (hP.sub [0, 1, 2, 3] rfl) (hD.sub [0, 1, 2, 3] (by decide) rfl) hS ls (lv_sub hl [3, 4, 5, 2, 1, 0] rfl)
      exact lp ((1040 - 0) + 1) 0 (by omega) (Nat.lt_succ_self _) _ _ (hP.sub [0, 1, 2, 3] rfl) (hD.sub [0, 1, 2, 3] (by decide) rfl) hS ls (lv_sub hl [3, 4, 5, 2, 1, 0] rfl)
