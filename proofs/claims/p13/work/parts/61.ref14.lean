def ci_B (cb : Nat → Bool) (i : Nat) : Nat → Bool := fun j => if j < i then decide (j = 0) else cb j
theorem ci_0 (cb : Nat → Bool) : ci_B cb 0 = cb := by
  funext j
  unfold ci_B
  rw [if_neg (by omega)]
theorem ci_s (cb : Nat → Bool) (i : Nat) (x : Int32) (hx : x = if i = 0 then nI 1 else nI 0) : mk_A (ci_B cb (i + 1)) = upd (mk_A (ci_B cb i)) i x := by
  have e1 : ci_B cb (i + 1) i = decide (i = 0) := if_pos (Nat.lt_succ_self _)
  funext j
  by_cases e : j = i
  · rw [e, pk_us, hx]
    unfold mk_A
    rw [e1]
    by_cases z : i = 0
    · rw [decide_eq_true z, if_pos rfl, if_pos z]
    · rw [decide_eq_false z, if_neg (by decide), if_neg z]
  · have e2 : ci_B cb (i + 1) j = ci_B cb i j := by
      unfold ci_B
      by_cases q : j < i
      · rw [if_pos q, if_pos (show j < i + 1 by omega)]
      · rw [if_neg q, if_neg (show ¬ j < i + 1 by omega)]
    rw [pk_un e]
    unfold mk_A
    rw [e2]
theorem ub_s (cb : Nat → Bool) (n : Nat) : mk_A (ub_B cb n) = upd (mk_A cb) n (nI 1) := by
  funext j
  by_cases e : j = n
  · rw [e, pk_us]; unfold mk_A ub_B; rw [if_pos rfl]; rfl
  · rw [pk_un e]; unfold mk_A ub_B; rw [if_neg e]
theorem ct_ub {cb : Nat → Bool} {n : Nat} (hn : n < 40) (h : cb n = false) : ct_N (ub_B cb n) 40 = ct_N cb 40 + 1 := by
  have := ct_N_up cb (ub_B cb n) n 40 hn (fun j hj => if_neg hj)
  rw [show ub_B cb n n = true from if_pos rfl, h] at this
  simp at this
  omega
def cz_1 (st ce : Nat → Int32) (cb : Nat → Bool) (j : Nat) : Prop := cb (j / 26) = true → fo_C st ce j → cb (cv_N (ce j)) = true
def cz_P (st ce : Nat → Int32) (cb : Nat → Bool) (k : Nat) : Prop := ∀ j, j < k → cz_1 st ce cb j
theorem cz_s {st ce : Nat → Int32} {cb : Nat → Bool} {k : Nat} (h : cz_P st ce cb k) (g : cz_1 st ce cb k) : cz_P st ce cb (k + 1) := fun j hj => by
  by_cases e : j = k
  · rw [e]; exact g
  · exact h j (by omega)
theorem rc_fin {st ce : Nat → Int32} (hv : wv_O ce) {cb : Nat → Bool} (h0 : cb 0 = true) (hr : ∀ n, n < 40 → cb n = true → rc_P st ce n) (hc : cz_P st ce cb 1040) : ∀ n, n < 40 → cb n = rc_B st ce n := by
  intro n hn
  unfold rc_B
  cases q : cb n with
  | true => exact (@decide_eq_true _ (Classical.propDecidable _) (hr n hn q)).symm
  | false =>
    refine (@decide_eq_false _ (Classical.propDecidable _) (fun z => ?_)).symm
    have := rc_min hv h0 (fun m hm hb k hk hf => by
      have e1 : (m * 26 + k) / 26 = m := by omega
      exact hc (m * 26 + k) (by omega) (by rw [e1]; exact hb) hf) n z
    rw [q] at this
    cases this
theorem rc_ub {st ce : Nat → Int32} {cb : Nat → Bool} {k : Nat} (hk : k < 1040) (hr : ∀ n, n < 40 → cb n = true → rc_P st ce n) (hb : cb (k / 26) = true) (hf : fo_C st ce k) : ∀ n, n < 40 → ub_B cb (cv_N (ce k)) n = true → rc_P st ce n := fun n hn hu => by
  unfold ub_B at hu
  by_cases e : n = cv_N (ce k)
  · have := rc_s (st := st) (ce := ce) (m := k / 26) (i := k % 26) (by omega) (hr _ (by omega) hb) (by omega) (by rw [show k / 26 * 26 + k % 26 = k by omega]; exact hf)
    rw [show k / 26 * 26 + k % 26 = k by omega] at this
    rw [e]; exact this
  · rw [if_neg e] at hu; exact hr n hn hu
theorem ub_9 {cb : Nat → Bool} {n j : Nat} (h : cb j = true) : ub_B cb n j = true := by unfold ub_B; split; rfl; exact h
theorem mk_f {cb : Nat → Bool} {n : Nat} (h : mk_A cb n = 0) : cb n = false := mk_z.mp h
theorem mk_t {cb : Nat → Bool} {n : Nat} (h : ¬ mk_A cb n = 0) : cb n = true := by
  cases q : cb n with
  | true => rfl
  | false => exact absurd (mk_z.mpr q) h
theorem ci_rc {st ce : Nat → Int32} {cb : Nat → Bool} : ∀ n, n < 40 → ci_B cb 40 n = true → rc_P st ce n := fun n hn h => by
  unfold ci_B at h
  rw [if_pos hn] at h
  rw [of_decide_eq_true h]; exact rc_0 st ce
def re_Q (st ce : Nat → Int32) (x0 : Int32) (r th2 : Int32) : Prop := (∀ n, n < 40 → x0 = nI n → r = mk_A (rc_B st ce) n ∧ th2 = nI 0) ∧ (sp_ob x0 = 0 → th2 = nI 1)
theorem re_y {st ce : Nat → Int32} {n : Nat} {x0 r : Int32} (e : x0 = nI n) (hn : n < 40) (hr : r = mk_A (rc_B st ce) n) : re_Q st ce x0 r (nI 0) := by
  subst e
  exact ⟨fun n2 h1 h3 => by rw [nI_ge' (by omega) (by omega) h3] at hr; exact ⟨hr, rfl⟩, fun z => absurd z (so_F hn)⟩
theorem re_n {st ce : Nat → Int32} {x0 r : Int32} (h : sp_ob x0 = 0) : re_Q st ce x0 r (nI 1) := ⟨fun n hn h1 => by subst h1; exact absurd h (so_F hn), fun _ => rfl⟩
set_option maxHeartbeats 4000000 in
set_option maxRecDepth 100000 in
theorem ct_Mo_reach (l : Launch) (G : va_G) (cA : Nat → ClassId) (sz : Nat) (mo : Nat) (th : Int32) (ms : Nat) (mk : Nat) (mv : Nat) (mm : Nat) (ml : Nat) (cnt : Nat) (mt : Nat) (mp : Int32) (mn : Int32) (mu : Nat) (ma : Nat) (at_ : Nat) (bd : Int32) (le : Int32) (ob : Int32) (m1 : Nat) (m2 : Nat) (m3 : Nat) (m4 : Nat) (rn : Nat) (pw : Nat) (mc : Nat) (sa : Nat → Int32) (kd : Nat → Int32) (vl : Nat → Int32) (st : Nat → Int32) (ce : Nat → Int32) (cb : Nat → Bool) (hR : sn_R sa kd vl st ce) (hO : wv_O ce) : Met l xy_Mo_reach (.code xy_Mo_reach xb_Mo_reach 3 none :: tw_W) ({ frames := 0, cells := 0, slots := 0, locals := 0 }) (pc_w G cA [(mo, .inr (8, [.int th, .ref ms, .ref mk, .ref mv, .int (nI mm), .int (nI ml), .int (nI cnt), .ref mt, .int mp, .int mn, .int (nI mu), .ref ma, .int (nI at_), .int bd, .int le, .int ob, .ref m1, .ref m2, .ref m3, .ref m4, .int (nI rn), .int (nI pw), .ref mc])), (ms, .inl (cA 0, 720, .inl sa)), (mk, .inl (cA 0, 18720, .inl kd)), (mv, .inl (cA 0, 18720, .inl vl)), (mc, .inl (cA 2, 40, .inl (mk_A cb)))] sz [.ref mo]) (va_Qv (fun u9 : (Nat → Bool) => match u9 with | (cb2) => ∀ n, n < 40 → cb2 n = rc_B st ce n) (fun u9 T9 => match u9 with | (cb2) => at_w G (va_A [(mo, .inr (8, [.int th, .ref ms, .ref mk, .ref mv, .int (nI mm), .int (nI ml), .int (nI cnt), .ref mt, .int mp, .int mn, .int (nI mu), .ref ma, .int (nI at_), .int bd, .int le, .int ob, .ref m1, .ref m2, .ref m3, .ref m4, .int (nI rn), .int (nI pw), .ref mc])), (ms, .inl (cA 0, 720, .inl sa)), (mk, .inl (cA 0, 18720, .inl kd)), (mv, .inl (cA 0, 18720, .inl vl)), (mc, .inl (cA 2, 40, .inl (mk_A cb)))] sz) [(mo, .inr (8, [.int th, .ref ms, .ref mk, .ref mv, .int (nI mm), .int (nI ml), .int (nI cnt), .ref mt, .int mp, .int mn, .int (nI mu), .ref ma, .int (nI at_), .int bd, .int le, .int ob, .ref m1, .ref m2, .ref m3, .ref m4, .int (nI rn), .int (nI pw), .ref mc])), (ms, .inl (cA 0, 720, .inl sa)), (mk, .inl (cA 0, 18720, .inl kd)), (mv, .inl (cA 0, 18720, .inl vl)), (mc, .inl (cA 2, 40, .inl (mk_A cb2)))] T9) (va_A [(mo, .inr (8, [.int th, .ref ms, .ref mk, .ref mv, .int (nI mm), .int (nI ml), .int (nI cnt), .ref mt, .int mp, .int mn, .int (nI mu), .ref ma, .int (nI at_), .int bd, .int le, .int ob, .ref m1, .ref m2, .ref m3, .ref m4, .int (nI rn), .int (nI pw), .ref mc])), (ms, .inl (cA 0, 720, .inl sa)), (mk, .inl (cA 0, 18720, .inl kd)), (mv, .inl (cA 0, 18720, .inl vl)), (mc, .inl (cA 2, 40, .inl (mk_A cb)))] sz)) 0 0 (va_A [(mo, .inr (8, [.int th, .ref ms, .ref mk, .ref mv, .int (nI mm), .int (nI ml), .int (nI cnt), .ref mt, .int mp, .int mn, .int (nI mu), .ref ma, .int (nI at_), .int bd, .int le, .int ob, .ref m1, .ref m2, .ref m3, .ref m4, .int (nI rn), .int (nI pw), .ref mc])), (ms, .inl (cA 0, 720, .inl sa)), (mk, .inl (cA 0, 18720, .inl kd)), (mv, .inl (cA 0, 18720, .inl vl)), (mc, .inl (cA 2, 40, .inl (mk_A cb)))] sz) := by
  refine Met.ofW (cc := xb_Mo_reach) (maxL := 3) (ret := none) (by decide) rfl ?_
  intro p e s m args below meth c s₁ B hml hv
  obtain ⟨rfl, hsz, hK, hP, hD0⟩ := hv
  have hx := B.exec
  have hb := B.bytes
  have hr := B.returns
  have hts0 := atoms_spec (ws := .code xy_Mo_reach xb_Mo_reach 3 none :: tw_W) B.pre
  have hts : ∀ w9 ∈ tw_W, w9.before [.ref mo].toArray s = true := fun w9 h9 => hts0 w9 (List.mem_cons_of_mem _ h9)
  have hown : s.vm.findClass xc_Mo = some m.cls := findClass_of_methodNamed B.named
  have hlocks := B.notSynchronized
  subst hsz
  have hD := hD0.self (sz := s.heap.size)
  generalize hAe : va_A [(mo, .inr (8, [.int th, .ref ms, .ref mk, .ref mv, .int (nI mm), .int (nI ml), .int (nI cnt), .ref mt, .int mp, .int mn, .int (nI mu), .ref ma, .int (nI at_), .int bd, .int le, .int ob, .ref m1, .ref m2, .ref m3, .ref m4, .int (nI rn), .int (nI pw), .ref mc])), (ms, .inl (cA 0, 720, .inl sa)), (mk, .inl (cA 0, 18720, .inl kd)), (mv, .inl (cA 0, 18720, .inl vl)), (mc, .inl (cA 2, 40, .inl (mk_A cb)))] s.heap.size = A at hD ⊢
  have hA : ∀ q : Nat, s.heap.size ≤ q → A q := fun q h => by rw [← hAe]; exact Or.inr h
  have hS : va_S A s.heap s.heap [] := va_S.rf
  have hP : va_P G xk_cl [(mo, .inr (8, [.int th, .ref ms, .ref mk, .ref mv, .int (nI mm), .int (nI ml), .int (nI cnt), .ref mt, .int mp, .int mn, .int (nI mu), .ref ma, .int (nI at_), .int bd, .int le, .int ob, .ref m1, .ref m2, .ref m3, .ref m4, .int (nI rn), .int (nI pw), .ref mc])), (ms, .inl (cA 0, 720, .inl sa)), (mk, .inl (cA 0, 18720, .inl kd)), (mv, .inl (cA 0, 18720, .inl vl)), (mc, .inl (cA 2, 40, .inl (mk_A cb)))] s.heap := hP
  have hl := lv_entry ([.ref mo]) (n := 3) (Nat.le_of_ble_eq_true rfl)
  rw [lg_entry_eq]
  generalize (lg_sl ([.ref mo]) ++ List.replicate (3 - (lg_sl ([.ref mo])).length) Slot.unset).toArray = ls at hl ⊢
  have hl : lv_has ls 3 [(0, .ref mo)] := hl
  refine lv_iconst (v := nI 0) hx hb xd_Mo_reach_0 (by decide) ?_
  refine lv_istore_n (lv' := [(1, .int (nI 0)), (0, .ref mo)]) hx hb xd_Mo_reach_1 rfl hl (by decide) rfl (fun ls hl => ?_)
  have hP : va_P G xk_cl [(mo, .inr (8, [.int th, .ref ms, .ref mk, .ref mv, .int (nI mm), .int (nI ml), .int (nI cnt), .ref mt, .int mp, .int mn, .int (nI mu), .ref ma, .int (nI at_), .int bd, .int le, .int ob, .ref m1, .ref m2, .ref m3, .ref m4, .int (nI rn), .int (nI pw), .ref mc])), (ms, .inl (cA 0, 720, .inl sa)), (mk, .inl (cA 0, 18720, .inl kd)), (mv, .inl (cA 0, 18720, .inl vl)), (mc, .inl (cA 2, 40, .inl (mk_A (ci_B cb 0))))] s.heap := by rw [ci_0]; exact hP
  have hD : va_D A [(mo, .inr (8, [.int th, .ref ms, .ref mk, .ref mv, .int (nI mm), .int (nI ml), .int (nI cnt), .ref mt, .int mp, .int mn, .int (nI mu), .ref ma, .int (nI at_), .int bd, .int le, .int ob, .ref m1, .ref m2, .ref m3, .ref m4, .int (nI rn), .int (nI pw), .ref mc])), (ms, .inl (cA 0, 720, .inl sa)), (mk, .inl (cA 0, 18720, .inl kd)), (mv, .inl (cA 0, 18720, .inl vl)), (mc, .inl (cA 2, 40, .inl (mk_A (ci_B cb 0))))] := by rw [ci_0]; exact hD
  have lp : ∀ (k_lp : Nat) (i : Nat), (i ≤ 40) → 40 - i < k_lp → ∀ (H : Heap) (locs : List Loc), va_P G xk_cl [(mo, .inr (8, [.int th, .ref ms, .ref mk, .ref mv, .int (nI mm), .int (nI ml), .int (nI cnt), .ref mt, .int mp, .int mn, .int (nI mu), .ref ma, .int (nI at_), .int bd, .int le, .int ob, .ref m1, .ref m2, .ref m3, .ref m4, .int (nI rn), .int (nI pw), .ref mc])), (ms, .inl (cA 0, 720, .inl sa)), (mk, .inl (cA 0, 18720, .inl kd)), (mv, .inl (cA 0, 18720, .inl vl)), (mc, .inl (cA 2, 40, .inl (mk_A (ci_B cb i))))] H → va_D A [(mo, .inr (8, [.int th, .ref ms, .ref mk, .ref mv, .int (nI mm), .int (nI ml), .int (nI cnt), .ref mt, .int mp, .int mn, .int (nI mu), .ref ma, .int (nI at_), .int bd, .int le, .int ob, .ref m1, .ref m2, .ref m3, .ref m4, .int (nI rn), .int (nI pw), .ref mc])), (ms, .inl (cA 0, 720, .inl sa)), (mk, .inl (cA 0, 18720, .inl kd)), (mv, .inl (cA 0, 18720, .inl vl)), (mc, .inl (cA 2, 40, .inl (mk_A (ci_B cb i))))] → va_S A s.heap H locs → ∀ (ls : Array Slot), lv_has ls 3 [(0, .ref mo), (1, .int (nI i))] → W p l e (headSpec (.code xy_Mo_reach xb_Mo_reach 3 none :: tw_W) ({ frames := 0, cells := 0, slots := 0, locals := 0 })).room s m ([.ref mo] : List Value).toArray below meth c H locs 0 0 (MQ below (va_Qv (fun u9 : (Nat → Bool) => match u9 with | (cb2) => ∀ n, n < 40 → cb2 n = rc_B st ce n) (fun u9 T9 => match u9 with | (cb2) => at_w G A [(mo, .inr (8, [.int th, .ref ms, .ref mk, .ref mv, .int (nI mm), .int (nI ml), .int (nI cnt), .ref mt, .int mp, .int mn, .int (nI mu), .ref ma, .int (nI at_), .int bd, .int le, .int ob, .ref m1, .ref m2, .ref m3, .ref m4, .int (nI rn), .int (nI pw), .ref mc])), (ms, .inl (cA 0, 720, .inl sa)), (mk, .inl (cA 0, 18720, .inl kd)), (mv, .inl (cA 0, 18720, .inl vl)), (mc, .inl (cA 2, 40, .inl (mk_A cb2)))] T9) A) ([.ref mo] : List Value).toArray s 0 0 A) (F0 m 2 ls []) := by
    intro k_lp
    induction k_lp with
    | zero =>
      intro i hi_ hk_lp
      exact absurd hk_lp (Nat.not_lt_zero _)
    | succ k_lp ih_lp =>
      intro i hi_ hk_lp H locs hP hD hS ls hl
      refine lv_iload_n hx hb xd_Mo_reach_2 rfl (lv_at hl 1 rfl) ?_
      refine lv_bipush (v := nI 40) hx hb xd_Mo_reach_3 (by decide) ?_
      refine lv_icmp_ge (tgt := 29) hx hb xd_Mo_reach_5 (by decide) (fun c_5_0 => ?_) (fun c_5_0 => ?_)
      · have e_i : i = 40 := Nat.le_antisymm hi_ (nI_gle (by decide) (by omega) c_5_0)
        subst e_i
        refine lv_iconst (v := nI 1) hx hb xd_Mo_reach_29 (by decide) ?_
        refine lv_istore_n (lv' := [(1, .int (nI 1)), (0, .ref mo)]) hx hb xd_Mo_reach_30 rfl hl (by decide) rfl (fun ls hl => ?_)
        have lq : ∀ (k_lq : Nat) (cb1 : Nat → Bool) (m_ : Nat), (cb1 0 = true) → (∀ n, n < 40 → cb1 n = true → rc_P st ce n) → (m_ ≤ 1) → (m_ = 0 → cz_P st ce cb1 1040) → 2 * (40 - ct_N cb1 40) + m_ < k_lq → ∀ (H : Heap) (locs : List Loc), va_P G xk_cl [(mo, .inr (8, [.int th, .ref ms, .ref mk, .ref mv, .int (nI mm), .int (nI ml), .int (nI cnt), .ref mt, .int mp, .int mn, .int (nI mu), .ref ma, .int (nI at_), .int bd, .int le, .int ob, .ref m1, .ref m2, .ref m3, .ref m4, .int (nI rn), .int (nI pw), .ref mc])), (ms, .inl (cA 0, 720, .inl sa)), (mk, .inl (cA 0, 18720, .inl kd)), (mv, .inl (cA 0, 18720, .inl vl)), (mc, .inl (cA 2, 40, .inl (mk_A cb1)))] H → va_D A [(mo, .inr (8, [.int th, .ref ms, .ref mk, .ref mv, .int (nI mm), .int (nI ml), .int (nI cnt), .ref mt, .int mp, .int mn, .int (nI mu), .ref ma, .int (nI at_), .int bd, .int le, .int ob, .ref m1, .ref m2, .ref m3, .ref m4, .int (nI rn), .int (nI pw), .ref mc])), (ms, .inl (cA 0, 720, .inl sa)), (mk, .inl (cA 0, 18720, .inl kd)), (mv, .inl (cA 0, 18720, .inl vl)), (mc, .inl (cA 2, 40, .inl (mk_A cb1)))] → va_S A s.heap H locs → ∀ (ls : Array Slot), lv_has ls 3 [(0, .ref mo), (1, .int (nI m_))] → W p l e (headSpec (.code xy_Mo_reach xb_Mo_reach 3 none :: tw_W) ({ frames := 0, cells := 0, slots := 0, locals := 0 })).room s m ([.ref mo] : List Value).toArray below meth c H locs 0 0 (MQ below (va_Qv (fun u9 : (Nat → Bool) => match u9 with | (cb2) => ∀ n, n < 40 → cb2 n = rc_B st ce n) (fun u9 T9 => match u9 with | (cb2) => at_w G A [(mo, .inr (8, [.int th, .ref ms, .ref mk, .ref mv, .int (nI mm), .int (nI ml), .int (nI cnt), .ref mt, .int mp, .int mn, .int (nI mu), .ref ma, .int (nI at_), .int bd, .int le, .int ob, .ref m1, .ref m2, .ref m3, .ref m4, .int (nI rn), .int (nI pw), .ref mc])), (ms, .inl (cA 0, 720, .inl sa)), (mk, .inl (cA 0, 18720, .inl kd)), (mv, .inl (cA 0, 18720, .inl vl)), (mc, .inl (cA 2, 40, .inl (mk_A cb2)))] T9) A) ([.ref mo] : List Value).toArray s 0 0 A) (F0 m 31 ls []) := by
          intro k_lq
          induction k_lq with
          | zero =>
            intro cb1 m_ h0 hr_ hm_ hc_ hk_lq
            exact absurd hk_lq (Nat.not_lt_zero _)
          | succ k_lq ih_lq =>
            intro cb1 m_ h0 hr_ hm_ hc_ hk_lq H locs hP hD hS ls hl
            refine lv_iload_n hx hb xd_Mo_reach_31 rfl (lv_at hl 1 rfl) ?_
            refine lv_if_eq (tgt := 119) hx hb xd_Mo_reach_32 (by decide) (fun c_32_1 => ?_) (fun c_32_1 => ?_)
            · have q_m : m_ = 0 := nI_z (by omega) c_32_1
              have hP9 : va_P G xk_cl [(mo, .inr (8, [.int th, .ref ms, .ref mk, .ref mv, .int (nI mm), .int (nI ml), .int (nI cnt), .ref mt, .int mp, .int mn, .int (nI mu), .ref ma, .int (nI at_), .int bd, .int le, .int ob, .ref m1, .ref m2, .ref m3, .ref m4, .int (nI rn), .int (nI pw), .ref mc])), (ms, .inl (cA 0, 720, .inl sa)), (mk, .inl (cA 0, 18720, .inl kd)), (mv, .inl (cA 0, 18720, .inl vl)), (mc, .inl (cA 2, 40, .inl (mk_A cb1)))] _ := hP.sub [0, 1, 2, 3, 4] rfl
              have hD9 : va_D A [(mo, .inr (8, [.int th, .ref ms, .ref mk, .ref mv, .int (nI mm), .int (nI ml), .int (nI cnt), .ref mt, .int mp, .int mn, .int (nI mu), .ref ma, .int (nI at_), .int bd, .int le, .int ob, .ref m1, .ref m2, .ref m3, .ref m4, .int (nI rn), .int (nI pw), .ref mc])), (ms, .inl (cA 0, 720, .inl sa)), (mk, .inl (cA 0, 18720, .inl kd)), (mv, .inl (cA 0, 18720, .inl vl)), (mc, .inl (cA 2, 40, .inl (mk_A cb1)))] := hD.sub [0, 1, 2, 3, 4] (by decide) rfl
              exact W.vret hx hb hr (fun T9 ht hW => ⟨⟨(cb1), rfl, rc_fin hO h0 hr_ (hc_ q_m), by rw [ht]; exact hP9, hD9⟩, hS.F ht⟩) hS.2.2 xd_Mo_reach_119
            · have q_m : ¬ m_ = 0 := fun z => c_32_1 (by rw [z]; rfl)
              refine lv_iconst (v := nI 0) hx hb xd_Mo_reach_35 (by decide) ?_
              refine lv_istore_n (lv' := [(1, .int (nI 0)), (0, .ref mo)]) hx hb xd_Mo_reach_36 rfl hl (by decide) rfl (fun ls hl => ?_)
              refine lv_iconst (v := nI 0) hx hb xd_Mo_reach_37 (by decide) ?_
              refine lv_istore_n (lv' := [(2, .int (nI 0)), (1, .int (nI 0)), (0, .ref mo)]) hx hb xd_Mo_reach_38 rfl hl (by decide) rfl (fun ls hl => ?_)
              have lr : ∀ (k_lr : Nat) (k : Nat) (cb3 : Nat → Bool) (m3_ : Nat), (k ≤ 1040) → (cb3 0 = true) → (∀ n, n < 40 → cb3 n = true → rc_P st ce n) → (m3_ ≤ 1) → (m3_ = 0 → cz_P st ce cb3 k) → (ct_N cb1 40 + m3_ ≤ ct_N cb3 40) → 1040 - k < k_lr → ∀ (H : Heap) (locs : List Loc), va_P G xk_cl [(mo, .inr (8, [.int th, .ref ms, .ref mk, .ref mv, .int (nI mm), .int (nI ml), .int (nI cnt), .ref mt, .int mp, .int mn, .int (nI mu), .ref ma, .int (nI at_), .int bd, .int le, .int ob, .ref m1, .ref m2, .ref m3, .ref m4, .int (nI rn), .int (nI pw), .ref mc])), (ms, .inl (cA 0, 720, .inl sa)), (mk, .inl (cA 0, 18720, .inl kd)), (mv, .inl (cA 0, 18720, .inl vl)), (mc, .inl (cA 2, 40, .inl (mk_A cb3)))] H → va_D A [(mo, .inr (8, [.int th, .ref ms, .ref mk, .ref mv, .int (nI mm), .int (nI ml), .int (nI cnt), .ref mt, .int mp, .int mn, .int (nI mu), .ref ma, .int (nI at_), .int bd, .int le, .int ob, .ref m1, .ref m2, .ref m3, .ref m4, .int (nI rn), .int (nI pw), .ref mc])), (ms, .inl (cA 0, 720, .inl sa)), (mk, .inl (cA 0, 18720, .inl kd)), (mv, .inl (cA 0, 18720, .inl vl)), (mc, .inl (cA 2, 40, .inl (mk_A cb3)))] → va_S A s.heap H locs → ∀ (ls : Array Slot), lv_has ls 3 [(0, .ref mo), (1, .int (nI m3_)), (2, .int (nI k))] → W p l e (headSpec (.code xy_Mo_reach xb_Mo_reach 3 none :: tw_W) ({ frames := 0, cells := 0, slots := 0, locals := 0 })).room s m ([.ref mo] : List Value).toArray below meth c H locs 0 0 (MQ below (va_Qv (fun u9 : (Nat → Bool) => match u9 with | (cb2) => ∀ n, n < 40 → cb2 n = rc_B st ce n) (fun u9 T9 => match u9 with | (cb2) => at_w G A [(mo, .inr (8, [.int th, .ref ms, .ref mk, .ref mv, .int (nI mm), .int (nI ml), .int (nI cnt), .ref mt, .int mp, .int mn, .int (nI mu), .ref ma, .int (nI at_), .int bd, .int le, .int ob, .ref m1, .ref m2, .ref m3, .ref m4, .int (nI rn), .int (nI pw), .ref mc])), (ms, .inl (cA 0, 720, .inl sa)), (mk, .inl (cA 0, 18720, .inl kd)), (mv, .inl (cA 0, 18720, .inl vl)), (mc, .inl (cA 2, 40, .inl (mk_A cb2)))] T9) A) ([.ref mo] : List Value).toArray s 0 0 A) (F0 m 39 ls []) := by
                intro k_lr
                induction k_lr with
                | zero =>
                  intro k cb3 m3_ hk_ g0 gr gm g1 g2 hk_lr
                  exact absurd hk_lr (Nat.not_lt_zero _)
                | succ k_lr ih_lr =>
                  intro k cb3 m3_ hk_ g0 gr gm g1 g2 hk_lr H locs hP hD hS ls hl
                  refine lv_iload_n hx hb xd_Mo_reach_39 rfl (lv_at hl 2 rfl) ?_
                  refine lv_sipush (v := nI 1040) hx hb xd_Mo_reach_40 (by decide) ?_
                  refine lv_icmp_ge (tgt := 116) hx hb xd_Mo_reach_43 (by decide) (fun c_43_2 => ?_) (fun c_43_2 => ?_)
                  · have e_k : k = 1040 := Nat.le_antisymm hk_ (nI_gle (by decide) (by omega) c_43_2)
                    subst e_k
                    have q_ct := ct_N_le cb3 40
                    have q_cu := ct_N_le cb1 40
                    refine lv_goto (tgt := 31) hx hb xd_Mo_reach_116 (by decide) ?_
                    exact ih_lq cb3 m3_ g0 gr gm (fun z => (g1 z)) (by omega) _ _ (hP.sub [0, 1, 2, 3, 4] rfl) (hD.sub [0, 1, 2, 3, 4] (by decide) rfl) hS ls (lv_sub hl [0, 1] rfl)
                  · have e_k := nI_gnl (by decide) (by omega) c_43_2
                    refine lv_aload_n hx hb xd_Mo_reach_46 rfl (lv_at hl 0 rfl) ?_
                    refine va_get (D := G) (ci := 8) (v := .ref mc) (C := xc_Mo) (T := xf_Mo) (N := 23) hx hb hts xw_Mo hown hK.1 hP 0 rfl rfl 22 (by decide) (hts _ xm_641) (fun _ h9 => h9) rfl xd_Mo_reach_47 ?_
                    refine lv_iload_n hx hb xd_Mo_reach_50 rfl (lv_at hl 2 rfl) ?_
                    refine lv_bipush (v := nI 26) hx hb xd_Mo_reach_51 (by decide) ?_
                    refine lx_idiv (z := nI (k / 26)) hx hb xd_Mo_reach_53 (by decide) (pk_div (by omega) (by omega) (by omega)) ?_
                    refine wx_zald hx hb hK.1 hP 4 2 rfl rfl (k := k / 26) (by omega) (by decide) xd_Mo_reach_54 ?_
                    refine lv_if_eq (tgt := 110) hx hb xd_Mo_reach_55 (by decide) (fun c_55_3 => ?_) (fun c_55_3 => ?_)
                    · have q_x : cz_1 st ce cb3 k := fun z => absurd (z.symm.trans (mk_f c_55_3)) (by decide)
                      refine lv_iinc (v := nI (k + 1)) (lv' := [(2, .int (nI (k + 1))), (0, .ref mo), (1, .int (nI m3_))]) hx hb xd_Mo_reach_110 hl (k := 2) rfl (nI_inc _) (by decide) rfl (fun ls hl => ?_)
                      refine lv_goto (tgt := 39) hx hb xd_Mo_reach_113 (by decide) ?_
                      exact ih_lr (k + 1) cb3 m3_ (by omega) g0 gr gm (fun z => cz_s (g1 z) q_x) g2 (by omega) _ _ (hP.sub [0, 1, 2, 3, 4] rfl) (hD.sub [0, 1, 2, 3, 4] (by decide) rfl) hS ls (lv_sub hl [1, 2, 0] rfl)
                    · have q_b := mk_t c_55_3
                      refine lv_aload_n hx hb xd_Mo_reach_58 rfl (lv_at hl 0 rfl) ?_
                      refine va_get (D := G) (ci := 8) (v := .ref mk) (C := xc_Mo) (T := xf_Mo) (N := 23) hx hb hts xw_Mo hown hK.1 hP 0 rfl rfl 2 (by decide) (hts _ xm_621) (fun _ h9 => h9) rfl xd_Mo_reach_59 ?_
                      refine lv_iload_n hx hb xd_Mo_reach_62 rfl (lv_at hl 2 rfl) ?_
                      refine wx_iald hx hb hK.1 hP 2 0 rfl rfl (k := k) (by omega) (by decide) xd_Mo_reach_63 ?_
                      refine lx_top (z := en_K (ce k)) ((hR.2 _ (by omega)).1) ?_
                      refine lv_iconst (v := nI 2) hx hb xd_Mo_reach_64 (by decide) ?_
                      refine lv_icmp_ne (tgt := 110) hx hb xd_Mo_reach_65 (by decide) (fun c_65_4 => ?_) (fun c_65_4 => ?_)
                      · have q_x : cz_1 st ce cb3 k := fun _ z => absurd z.1 c_65_4
                        refine lv_iinc (v := nI (k + 1)) (lv' := [(2, .int (nI (k + 1))), (0, .ref mo), (1, .int (nI m3_))]) hx hb xd_Mo_reach_110 hl (k := 2) rfl (nI_inc _) (by decide) rfl (fun ls hl => ?_)
                        refine lv_goto (tgt := 39) hx hb xd_Mo_reach_113 (by decide) ?_
                        exact ih_lr (k + 1) cb3 m3_ (by omega) g0 gr gm (fun z => cz_s (g1 z) q_x) g2 (by omega) _ _ (hP.sub [0, 1, 2, 3, 4] rfl) (hD.sub [0, 1, 2, 3, 4] (by decide) rfl) hS ls (lv_sub hl [1, 2, 0] rfl)
                      · have q_k := c_65_4
                        refine lv_aload_n hx hb xd_Mo_reach_68 rfl (lv_at hl 0 rfl) ?_
                        refine va_get (D := G) (ci := 8) (v := .ref ms) (C := xc_Mo) (T := xf_Mo) (N := 23) hx hb hts xw_Mo hown hK.1 hP 0 rfl rfl 1 (by decide) (hts _ xm_620) (fun _ h9 => h9) rfl xd_Mo_reach_69 ?_
                        refine lv_aload_n hx hb xd_Mo_reach_72 rfl (lv_at hl 0 rfl) ?_
                        refine va_get (D := G) (ci := 8) (v := .ref mv) (C := xc_Mo) (T := xf_Mo) (N := 23) hx hb hts xw_Mo hown hK.1 hP 0 rfl rfl 3 (by decide) (hts _ xm_622) (fun _ h9 => h9) rfl xd_Mo_reach_73 ?_
                        refine lv_iload_n hx hb xd_Mo_reach_76 rfl (lv_at hl 2 rfl) ?_
                        refine wx_iald hx hb hK.1 hP 3 0 rfl rfl (k := k) (by omega) (by decide) xd_Mo_reach_77 ?_
                        refine lx_top (z := nI (cv_N (ce k))) (((hR.2 _ (by omega)).2).trans (hO _ (by omega) q_k).1) ?_
                        refine wx_iald hx hb hK.1 hP 1 0 rfl rfl (k := cv_N (ce k)) (by have := (hO k (by omega) q_k).2; omega) (by decide) xd_Mo_reach_78 ?_
                        refine lx_top (z := st (cv_N (ce k))) (hR.1 _ (hO _ (by omega) q_k).2) ?_
                        refine lv_if_eq (tgt := 110) hx hb xd_Mo_reach_79 (by decide) (fun c_79_5 => ?_) (fun c_79_5 => ?_)
                        · have q_x : cz_1 st ce cb3 k := fun _ z => absurd c_79_5 z.2
                          refine lv_iinc (v := nI (k + 1)) (lv' := [(2, .int (nI (k + 1))), (0, .ref mo), (1, .int (nI m3_))]) hx hb xd_Mo_reach_110 hl (k := 2) rfl (nI_inc _) (by decide) rfl (fun ls hl => ?_)
                          refine lv_goto (tgt := 39) hx hb xd_Mo_reach_113 (by decide) ?_
                          exact ih_lr (k + 1) cb3 m3_ (by omega) g0 gr gm (fun z => cz_s (g1 z) q_x) g2 (by omega) _ _ (hP.sub [0, 1, 2, 3, 4] rfl) (hD.sub [0, 1, 2, 3, 4] (by decide) rfl) hS ls (lv_sub hl [1, 2, 0] rfl)
                        · have q_f : fo_C st ce k := ⟨q_k, c_79_5⟩
                          refine lv_aload_n hx hb xd_Mo_reach_82 rfl (lv_at hl 0 rfl) ?_
                          refine va_get (D := G) (ci := 8) (v := .ref mc) (C := xc_Mo) (T := xf_Mo) (N := 23) hx hb hts xw_Mo hown hK.1 hP 0 rfl rfl 22 (by decide) (hts _ xm_641) (fun _ h9 => h9) rfl xd_Mo_reach_83 ?_
                          refine lv_aload_n hx hb xd_Mo_reach_86 rfl (lv_at hl 0 rfl) ?_
                          refine va_get (D := G) (ci := 8) (v := .ref mv) (C := xc_Mo) (T := xf_Mo) (N := 23) hx hb hts xw_Mo hown hK.1 hP 0 rfl rfl 3 (by decide) (hts _ xm_622) (fun _ h9 => h9) rfl xd_Mo_reach_87 ?_
                          refine lv_iload_n hx hb xd_Mo_reach_90 rfl (lv_at hl 2 rfl) ?_
                          refine wx_iald hx hb hK.1 hP 3 0 rfl rfl (k := k) (by omega) (by decide) xd_Mo_reach_91 ?_
                          refine lx_top (z := nI (cv_N (ce k))) (((hR.2 _ (by omega)).2).trans (hO _ (by omega) q_k).1) ?_
                          refine wx_zald hx hb hK.1 hP 4 2 rfl rfl (k := cv_N (ce k)) ((hO k (by omega) q_k).2) (by decide) xd_Mo_reach_92 ?_
                          refine lv_if_ne (tgt := 110) hx hb xd_Mo_reach_93 (by decide) (fun c_93_6 => ?_) (fun c_93_6 => ?_)
                          · have q_x : cz_1 st ce cb3 k := fun _ _ => mk_t c_93_6
                            refine lv_iinc (v := nI (k + 1)) (lv' := [(2, .int (nI (k + 1))), (0, .ref mo), (1, .int (nI m3_))]) hx hb xd_Mo_reach_110 hl (k := 2) rfl (nI_inc _) (by decide) rfl (fun ls hl => ?_)
                            refine lv_goto (tgt := 39) hx hb xd_Mo_reach_113 (by decide) ?_
                            exact ih_lr (k + 1) cb3 m3_ (by omega) g0 gr gm (fun z => cz_s (g1 z) q_x) g2 (by omega) _ _ (hP.sub [0, 1, 2, 3, 4] rfl) (hD.sub [0, 1, 2, 3, 4] (by decide) rfl) hS ls (lv_sub hl [1, 2, 0] rfl)
                          · have q_u := mk_f c_93_6
                            refine lv_aload_n hx hb xd_Mo_reach_96 rfl (lv_at hl 0 rfl) ?_
                            refine va_get (D := G) (ci := 8) (v := .ref mc) (C := xc_Mo) (T := xf_Mo) (N := 23) hx hb hts xw_Mo hown hK.1 hP 0 rfl rfl 22 (by decide) (hts _ xm_641) (fun _ h9 => h9) rfl xd_Mo_reach_97 ?_
                            refine lv_aload_n hx hb xd_Mo_reach_100 rfl (lv_at hl 0 rfl) ?_
                            refine va_get (D := G) (ci := 8) (v := .ref mv) (C := xc_Mo) (T := xf_Mo) (N := 23) hx hb hts xw_Mo hown hK.1 hP 0 rfl rfl 3 (by decide) (hts _ xm_622) (fun _ h9 => h9) rfl xd_Mo_reach_101 ?_
                            refine lv_iload_n hx hb xd_Mo_reach_104 rfl (lv_at hl 2 rfl) ?_
                            refine wx_iald hx hb hK.1 hP 3 0 rfl rfl (k := k) (by omega) (by decide) xd_Mo_reach_105 ?_
                            refine lx_top (z := nI (cv_N (ce k))) (((hR.2 _ (by omega)).2).trans (hO _ (by omega) q_k).1) ?_
                            refine lv_iconst (v := nI 1) hx hb xd_Mo_reach_106 (by decide) ?_
                            refine wx_zast hx hb hK.1 hP hD hS 4 2 rfl rfl (k := cv_N (ce k)) (z := nI 1) (rfl) ((hO k (by omega) q_k).2) (by decide) xd_Mo_reach_107 (fun H locs hP hD hS => ?_)
                            have hP : va_P G xk_cl [(mo, .inr (8, [.int th, .ref ms, .ref mk, .ref mv, .int (nI mm), .int (nI ml), .int (nI cnt), .ref mt, .int mp, .int mn, .int (nI mu), .ref ma, .int (nI at_), .int bd, .int le, .int ob, .ref m1, .ref m2, .ref m3, .ref m4, .int (nI rn), .int (nI pw), .ref mc])), (ms, .inl (cA 0, 720, .inl sa)), (mk, .inl (cA 0, 18720, .inl kd)), (mv, .inl (cA 0, 18720, .inl vl)), (mc, .inl (cA 2, 40, .inl (upd (mk_A cb3) (cv_N (ce k)) (nI 1))))] H := hP
                            have hD : va_D A [(mo, .inr (8, [.int th, .ref ms, .ref mk, .ref mv, .int (nI mm), .int (nI ml), .int (nI cnt), .ref mt, .int mp, .int mn, .int (nI mu), .ref ma, .int (nI at_), .int bd, .int le, .int ob, .ref m1, .ref m2, .ref m3, .ref m4, .int (nI rn), .int (nI pw), .ref mc])), (ms, .inl (cA 0, 720, .inl sa)), (mk, .inl (cA 0, 18720, .inl kd)), (mv, .inl (cA 0, 18720, .inl vl)), (mc, .inl (cA 2, 40, .inl (upd (mk_A cb3) (cv_N (ce k)) (nI 1))))] := hD
                            have hP : va_P G xk_cl [(mo, .inr (8, [.int th, .ref ms, .ref mk, .ref mv, .int (nI mm), .int (nI ml), .int (nI cnt), .ref mt, .int mp, .int mn, .int (nI mu), .ref ma, .int (nI at_), .int bd, .int le, .int ob, .ref m1, .ref m2, .ref m3, .ref m4, .int (nI rn), .int (nI pw), .ref mc])), (ms, .inl (cA 0, 720, .inl sa)), (mk, .inl (cA 0, 18720, .inl kd)), (mv, .inl (cA 0, 18720, .inl vl)), (mc, .inl (cA 2, 40, .inl (mk_A (ub_B cb3 (cv_N (ce k))))))] H := by rw [ub_s]; exact hP
                            have hD : va_D A [(mo, .inr (8, [.int th, .ref ms, .ref mk, .ref mv, .int (nI mm), .int (nI ml), .int (nI cnt), .ref mt, .int mp, .int mn, .int (nI mu), .ref ma, .int (nI at_), .int bd, .int le, .int ob, .ref m1, .ref m2, .ref m3, .ref m4, .int (nI rn), .int (nI pw), .ref mc])), (ms, .inl (cA 0, 720, .inl sa)), (mk, .inl (cA 0, 18720, .inl kd)), (mv, .inl (cA 0, 18720, .inl vl)), (mc, .inl (cA 2, 40, .inl (mk_A (ub_B cb3 (cv_N (ce k))))))] := by rw [ub_s]; exact hD
                            refine lv_iconst (v := nI 1) hx hb xd_Mo_reach_108 (by decide) ?_
                            refine lv_istore_n (lv' := [(1, .int (nI 1)), (0, .ref mo), (2, .int (nI k))]) hx hb xd_Mo_reach_109 rfl hl (by decide) rfl (fun ls hl => ?_)
                            refine lv_iinc (v := nI (k + 1)) (lv' := [(2, .int (nI (k + 1))), (1, .int (nI 1)), (0, .ref mo)]) hx hb xd_Mo_reach_110 hl (k := 2) rfl (nI_inc _) (by decide) rfl (fun ls hl => ?_)
                            refine lv_goto (tgt := 39) hx hb xd_Mo_reach_113 (by decide) ?_
                            exact ih_lr (k + 1) (ub_B cb3 (cv_N (ce k))) 1 (by omega) (ub_9 g0) (rc_ub (by omega) gr q_b q_f) (by decide) (fun z => absurd z (by decide)) (by rw [ct_ub (hO _ (by omega) q_f.1).2 q_u]; omega) (by omega) _ _ (hP.sub [0, 1, 2, 3, 4] rfl) (hD.sub [0, 1, 2, 3, 4] (by decide) rfl) hS ls (lv_sub hl [2, 1, 0] rfl)
              exact lr ((1040 - 0) + 1) 0 cb1 0 (by omega) h0 hr_ (by decide) (fun _ j hj => absurd hj (Nat.not_lt_zero _)) (by omega) (Nat.lt_succ_self _) _ _ (hP.sub [0, 1, 2, 3, 4] rfl) (hD.sub [0, 1, 2, 3, 4] (by decide) rfl) hS ls (lv_sub hl [2, 1, 0] rfl)
        exact lq ((2 * (40 - ct_N (ci_B cb 40) 40) + 1) + 1) (ci_B cb 40) 1 rfl ci_rc (by decide) (fun z => absurd z (by decide)) (Nat.lt_succ_self _) _ _ (hP.sub [0, 1, 2, 3, 4] rfl) (hD.sub [0, 1, 2, 3, 4] (by decide) rfl) hS ls (lv_sub hl [1, 0] rfl)
      · have e_i := nI_gnl (by decide) (by omega) c_5_0
        refine lv_aload_n hx hb xd_Mo_reach_8 rfl (lv_at hl 0 rfl) ?_
        refine va_get (D := G) (ci := 8) (v := .ref mc) (C := xc_Mo) (T := xf_Mo) (N := 23) hx hb hts xw_Mo hown hK.1 hP 0 rfl rfl 22 (by decide) (hts _ xm_641) (fun _ h9 => h9) rfl xd_Mo_reach_9 ?_
        refine lv_iload_n hx hb xd_Mo_reach_12 rfl (lv_at hl 1 rfl) ?_
        refine lv_iload_n hx hb xd_Mo_reach_13 rfl (lv_at hl 1 rfl) ?_
        refine lv_if_ne (tgt := 21) hx hb xd_Mo_reach_14 (by decide) (fun c_14_7 => ?_) (fun c_14_7 => ?_)
        · have q_i : ¬ i = 0 := fun z => c_14_7 (by rw [z]; rfl)
          refine lv_iconst (v := nI 0) hx hb xd_Mo_reach_21 (by decide) ?_
          refine wx_zast hx hb hK.1 hP hD hS 4 2 rfl rfl (k := i) (z := nI 0) (rfl) (by omega) (by decide) xd_Mo_reach_22 (fun H locs hP hD hS => ?_)
          have hP : va_P G xk_cl [(mo, .inr (8, [.int th, .ref ms, .ref mk, .ref mv, .int (nI mm), .int (nI ml), .int (nI cnt), .ref mt, .int mp, .int mn, .int (nI mu), .ref ma, .int (nI at_), .int bd, .int le, .int ob, .ref m1, .ref m2, .ref m3, .ref m4, .int (nI rn), .int (nI pw), .ref mc])), (ms, .inl (cA 0, 720, .inl sa)), (mk, .inl (cA 0, 18720, .inl kd)), (mv, .inl (cA 0, 18720, .inl vl)), (mc, .inl (cA 2, 40, .inl (upd (mk_A (ci_B cb i)) i (nI 0))))] H := hP
          have hD : va_D A [(mo, .inr (8, [.int th, .ref ms, .ref mk, .ref mv, .int (nI mm), .int (nI ml), .int (nI cnt), .ref mt, .int mp, .int mn, .int (nI mu), .ref ma, .int (nI at_), .int bd, .int le, .int ob, .ref m1, .ref m2, .ref m3, .ref m4, .int (nI rn), .int (nI pw), .ref mc])), (ms, .inl (cA 0, 720, .inl sa)), (mk, .inl (cA 0, 18720, .inl kd)), (mv, .inl (cA 0, 18720, .inl vl)), (mc, .inl (cA 2, 40, .inl (upd (mk_A (ci_B cb i)) i (nI 0))))] := hD
          refine lv_iinc (v := nI (i + 1)) (lv' := [(1, .int (nI (i + 1))), (0, .ref mo)]) hx hb xd_Mo_reach_23 hl (k := 1) rfl (nI_inc _) (by decide) rfl (fun ls hl => ?_)
          refine lv_goto (tgt := 2) hx hb xd_Mo_reach_26 (by decide) ?_
          have hP : va_P G xk_cl [(mo, .inr (8, [.int th, .ref ms, .ref mk, .ref mv, .int (nI mm), .int (nI ml), .int (nI cnt), .ref mt, .int mp, .int mn, .int (nI mu), .ref ma, .int (nI at_), .int bd, .int le, .int ob, .ref m1, .ref m2, .ref m3, .ref m4, .int (nI rn), .int (nI pw), .ref mc])), (ms, .inl (cA 0, 720, .inl sa)), (mk, .inl (cA 0, 18720, .inl kd)), (mv, .inl (cA 0, 18720, .inl vl)), (mc, .inl (cA 2, 40, .inl (mk_A (ci_B cb (i + 1)))))] H := by rw [ci_s cb i _ (by rw [if_neg q_i])]; exact hP
          have hD : va_D A [(mo, .inr (8, [.int th, .ref ms, .ref mk, .ref mv, .int (nI mm), .int (nI ml), .int (nI cnt), .ref mt, .int mp, .int mn, .int (nI mu), .ref ma, .int (nI at_), .int bd, .int le, .int ob, .ref m1, .ref m2, .ref m3, .ref m4, .int (nI rn), .int (nI pw), .ref mc])), (ms, .inl (cA 0, 720, .inl sa)), (mk, .inl (cA 0, 18720, .inl kd)), (mv, .inl (cA 0, 18720, .inl vl)), (mc, .inl (cA 2, 40, .inl (mk_A (ci_B cb (i + 1)))))] := by rw [ci_s cb i _ (by rw [if_neg q_i])]; exact hD
          exact ih_lp (i + 1) (by omega) (by omega) _ _ (hP.sub [0, 1, 2, 3, 4] rfl) (hD.sub [0, 1, 2, 3, 4] (by decide) rfl) hS ls (lv_sub hl [1, 0] rfl)
        · have q_i : i = 0 := nI_z (by omega) c_14_7
          refine lv_iconst (v := nI 1) hx hb xd_Mo_reach_17 (by decide) ?_
          refine lv_goto (tgt := 22) hx hb xd_Mo_reach_18 (by decide) ?_
          refine wx_zast hx hb hK.1 hP hD hS 4 2 rfl rfl (k := i) (z := nI 1) (rfl) (by omega) (by decide) xd_Mo_reach_22 (fun H locs hP hD hS => ?_)
          have hP : va_P G xk_cl [(mo, .inr (8, [.int th, .ref ms, .ref mk, .ref mv, .int (nI mm), .int (nI ml), .int (nI cnt), .ref mt, .int mp, .int mn, .int (nI mu), .ref ma, .int (nI at_), .int bd, .int le, .int ob, .ref m1, .ref m2, .ref m3, .ref m4, .int (nI rn), .int (nI pw), .ref mc])), (ms, .inl (cA 0, 720, .inl sa)), (mk, .inl (cA 0, 18720, .inl kd)), (mv, .inl (cA 0, 18720, .inl vl)), (mc, .inl (cA 2, 40, .inl (upd (mk_A (ci_B cb i)) i (nI 1))))] H := hP
          have hD : va_D A [(mo, .inr (8, [.int th, .ref ms, .ref mk, .ref mv, .int (nI mm), .int (nI ml), .int (nI cnt), .ref mt, .int mp, .int mn, .int (nI mu), .ref ma, .int (nI at_), .int bd, .int le, .int ob, .ref m1, .ref m2, .ref m3, .ref m4, .int (nI rn), .int (nI pw), .ref mc])), (ms, .inl (cA 0, 720, .inl sa)), (mk, .inl (cA 0, 18720, .inl kd)), (mv, .inl (cA 0, 18720, .inl vl)), (mc, .inl (cA 2, 40, .inl (upd (mk_A (ci_B cb i)) i (nI 1))))] := hD
          refine lv_iinc (v := nI (i + 1)) (lv' := [(1, .int (nI (i + 1))), (0, .ref mo)]) hx hb xd_Mo_reach_23 hl (k := 1) rfl (nI_inc _) (by decide) rfl (fun ls hl => ?_)
          refine lv_goto (tgt := 2) hx hb xd_Mo_reach_26 (by decide) ?_
          have hP : va_P G xk_cl [(mo, .inr (8, [.int th, .ref ms, .ref mk, .ref mv, .int (nI mm), .int (nI ml), .int (nI cnt), .ref mt, .int mp, .int mn, .int (nI mu), .ref ma, .int (nI at_), .int bd, .int le, .int ob, .ref m1, .ref m2, .ref m3, .ref m4, .int (nI rn), .int (nI pw), .ref mc])), (ms, .inl (cA 0, 720, .inl sa)), (mk, .inl (cA 0, 18720, .inl kd)), (mv, .inl (cA 0, 18720, .inl vl)), (mc, .inl (cA 2, 40, .inl (mk_A (ci_B cb (i + 1)))))] H := by rw [ci_s cb i _ (by rw [if_pos q_i])]; exact hP
          have hD : va_D A [(mo, .inr (8, [.int th, .ref ms, .ref mk, .ref mv, .int (nI mm), .int (nI ml), .int (nI cnt), .ref mt, .int mp, .int mn, .int (nI mu), .ref ma, .int (nI at_), .int bd, .int le, .int ob, .ref m1, .ref m2, .ref m3, .ref m4, .int (nI rn), .int (nI pw), .ref mc])), (ms, .inl (cA 0, 720, .inl sa)), (mk, .inl (cA 0, 18720, .inl kd)), (mv, .inl (cA 0, 18720, .inl vl)), (mc, .inl (cA 2, 40, .inl (mk_A (ci_B cb (i + 1)))))] := by rw [ci_s cb i _ (by rw [if_pos q_i])]; exact hD
          exact ih_lp (i + 1) (by omega) (by omega) _ _ (hP.sub [0, 1, 2, 3, 4] rfl) (hD.sub [0, 1, 2, 3, 4] (by decide) rfl) hS ls (lv_sub hl [1, 0] rfl)
  exact lp ((40 - 0) + 1) 0 (by omega) (Nat.lt_succ_self _) _ _ (hP.sub [0, 1, 2, 3, 4] rfl) (hD.sub [0, 1, 2, 3, 4] (by decide) rfl) hS ls (lv_sub hl [1, 0] rfl)
set_option maxHeartbeats 4000000 in
set_option maxRecDepth 100000 in
theorem ct_Mo_reached (l : Launch) (G : va_G) (cA : Nat → ClassId) (sz : Nat) (mo : Nat) (th : Int32) (ms : Nat) (mk : Nat) (mv : Nat) (mm : Nat) (ml : Nat) (cnt : Nat) (mt : Nat) (mp : Int32) (mn : Int32) (mu : Nat) (ma : Nat) (at_ : Nat) (bd : Int32) (le : Int32) (ob : Int32) (m1 : Nat) (m2 : Nat) (m3 : Nat) (m4 : Nat) (rn : Nat) (pw : Nat) (mc : Nat) (sa : Nat → Int32) (kd : Nat → Int32) (vl : Nat → Int32) (st : Nat → Int32) (ce : Nat → Int32) (cb : Nat → Bool) (hR : sn_R sa kd vl st ce) (hO : wv_O ce) (x0 : Int32) : Met l xy_Mo_reached (.code xy_Mo_reached xb_Mo_reached 2 (some .boolean) :: tw_W) ({ frames := 1, cells := 0, slots := 0, locals := 22 }) (pc_w G cA [(mo, .inr (8, [.int th, .ref ms, .ref mk, .ref mv, .int (nI mm), .int (nI ml), .int (nI cnt), .ref mt, .int mp, .int mn, .int (nI mu), .ref ma, .int (nI at_), .int bd, .int le, .int ob, .ref m1, .ref m2, .ref m3, .ref m4, .int (nI rn), .int (nI pw), .ref mc])), (ms, .inl (cA 0, 720, .inl sa)), (mk, .inl (cA 0, 18720, .inl kd)), (mv, .inl (cA 0, 18720, .inl vl)), (mc, .inl (cA 2, 40, .inl (mk_A cb)))] sz [.ref mo, .int x0]) (va_Qi (fun (r : Int32) (u9 : Int32 × (Nat → Bool)) => match u9 with | (th2, cb2) => re_Q st ce x0 r th2) (fun u9 T9 => match u9 with | (th2, cb2) => at_w G (va_A [(mo, .inr (8, [.int th, .ref ms, .ref mk, .ref mv, .int (nI mm), .int (nI ml), .int (nI cnt), .ref mt, .int mp, .int mn, .int (nI mu), .ref ma, .int (nI at_), .int bd, .int le, .int ob, .ref m1, .ref m2, .ref m3, .ref m4, .int (nI rn), .int (nI pw), .ref mc])), (ms, .inl (cA 0, 720, .inl sa)), (mk, .inl (cA 0, 18720, .inl kd)), (mv, .inl (cA 0, 18720, .inl vl)), (mc, .inl (cA 2, 40, .inl (mk_A cb)))] sz) [(mo, .inr (8, [.int th2, .ref ms, .ref mk, .ref mv, .int (nI mm), .int (nI ml), .int (nI cnt), .ref mt, .int mp, .int mn, .int (nI mu), .ref ma, .int (nI at_), .int bd, .int le, .int ob, .ref m1, .ref m2, .ref m3, .ref m4, .int (nI rn), .int (nI pw), .ref mc])), (ms, .inl (cA 0, 720, .inl sa)), (mk, .inl (cA 0, 18720, .inl kd)), (mv, .inl (cA 0, 18720, .inl vl)), (mc, .inl (cA 2, 40, .inl (mk_A cb2)))] T9) (va_A [(mo, .inr (8, [.int th, .ref ms, .ref mk, .ref mv, .int (nI mm), .int (nI ml), .int (nI cnt), .ref mt, .int mp, .int mn, .int (nI mu), .ref ma, .int (nI at_), .int bd, .int le, .int ob, .ref m1, .ref m2, .ref m3, .ref m4, .int (nI rn), .int (nI pw), .ref mc])), (ms, .inl (cA 0, 720, .inl sa)), (mk, .inl (cA 0, 18720, .inl kd)), (mv, .inl (cA 0, 18720, .inl vl)), (mc, .inl (cA 2, 40, .inl (mk_A cb)))] sz)) 0 0 (va_A [(mo, .inr (8, [.int th, .ref ms, .ref mk, .ref mv, .int (nI mm), .int (nI ml), .int (nI cnt), .ref mt, .int mp, .int mn, .int (nI mu), .ref ma, .int (nI at_), .int bd, .int le, .int ob, .ref m1, .ref m2, .ref m3, .ref m4, .int (nI rn), .int (nI pw), .ref mc])), (ms, .inl (cA 0, 720, .inl sa)), (mk, .inl (cA 0, 18720, .inl kd)), (mv, .inl (cA 0, 18720, .inl vl)), (mc, .inl (cA 2, 40, .inl (mk_A cb)))] sz) := by
  refine Met.ofW (cc := xb_Mo_reached) (maxL := 2) (ret := (some .boolean)) (by decide) rfl ?_
  intro p e s m args below meth c s₁ B hml hv
  obtain ⟨rfl, hsz, hK, hP, hD0⟩ := hv
  have hx := B.exec
  have hb := B.bytes
  have hr := B.returns
  have hts0 := atoms_spec (ws := .code xy_Mo_reached xb_Mo_reached 2 (some .boolean) :: tw_W) B.pre
  have hts : ∀ w9 ∈ tw_W, w9.before [.ref mo, .int x0].toArray s = true := fun w9 h9 => hts0 w9 (List.mem_cons_of_mem _ h9)
  have hown : s.vm.findClass xc_Mo = some m.cls := findClass_of_methodNamed B.named
  have hlocks := B.notSynchronized
  subst hsz
  have hD := hD0.self (sz := s.heap.size)
  generalize hAe : va_A [(mo, .inr (8, [.int th, .ref ms, .ref mk, .ref mv, .int (nI mm), .int (nI ml), .int (nI cnt), .ref mt, .int mp, .int mn, .int (nI mu), .ref ma, .int (nI at_), .int bd, .int le, .int ob, .ref m1, .ref m2, .ref m3, .ref m4, .int (nI rn), .int (nI pw), .ref mc])), (ms, .inl (cA 0, 720, .inl sa)), (mk, .inl (cA 0, 18720, .inl kd)), (mv, .inl (cA 0, 18720, .inl vl)), (mc, .inl (cA 2, 40, .inl (mk_A cb)))] s.heap.size = A at hD ⊢
  have hA : ∀ q : Nat, s.heap.size ≤ q → A q := fun q h => by rw [← hAe]; exact Or.inr h
  have hS : va_S A s.heap s.heap [] := va_S.rf
  have hP : va_P G xk_cl [(mo, .inr (8, [.int th, .ref ms, .ref mk, .ref mv, .int (nI mm), .int (nI ml), .int (nI cnt), .ref mt, .int mp, .int mn, .int (nI mu), .ref ma, .int (nI at_), .int bd, .int le, .int ob, .ref m1, .ref m2, .ref m3, .ref m4, .int (nI rn), .int (nI pw), .ref mc])), (ms, .inl (cA 0, 720, .inl sa)), (mk, .inl (cA 0, 18720, .inl kd)), (mv, .inl (cA 0, 18720, .inl vl)), (mc, .inl (cA 2, 40, .inl (mk_A cb)))] s.heap := hP
  have hl := lv_entry ([.ref mo, .int x0]) (n := 2) (Nat.le_of_ble_eq_true rfl)
  rw [lg_entry_eq]
  generalize (lg_sl ([.ref mo, .int x0]) ++ List.replicate (2 - (lg_sl ([.ref mo, .int x0])).length) Slot.unset).toArray = ls at hl ⊢
  have hl : lv_has ls 2 [(0, .ref mo), (1, .int x0)] := hl
  refine lv_aload_n hx hb xd_Mo_reached_0 rfl (lv_at hl 0 rfl) ?_
  refine lv_iload_n hx hb xd_Mo_reached_1 rfl (lv_at hl 1 rfl) ?_
  refine lv_iconst (v := nI 0) hx hb xd_Mo_reached_2 (by decide) ?_
  refine lv_bipush (v := nI 39) hx hb xd_Mo_reached_3 (by decide) ?_
  have hPc := hP.sub (ws' := []) [] rfl
  refine vp_callSi (va_Run.run (va_runS (As := [.int x0, .int (nI 0), .int (nI 39)]) (rest := [.ref mo]) ⟨hx, hb, hml, hown, hts⟩ (ct_Mo_in l G cA x0 (nI 0) (nI 39)) (cwS 3 hts (gi_s xm_693 xm_694 xm_9 xm_695) rfl rfl rfl ⟨rfl, xh_Mo_in⟩ ⟨Nat.le_of_ble_eq_true rfl, Nat.le_of_ble_eq_true rfl⟩) (ps_r hK hPc) rfl rfl hl.1 rfl (lv_room (Nat.le_of_ble_eq_true rfl)) xd_Mo_reached_5 ⟨Nat.le_of_ble_eq_true rfl, Nat.le_of_ble_eq_true rfl⟩)) (fun r_1 q_2 => ?_)
  refine lx_top (z := in_R x0 (nI 0) (nI 39)) (q_2) ?_
  by_cases q_o : sp_ob x0 = 0
  · refine lx_top (z := nI 0) (by rw [in_ob]; exact q_o) ?_
    have hPc := hP.sub (ws' := [(mo, .inr (8, [.int th, .ref ms, .ref mk, .ref mv, .int (nI mm), .int (nI ml), .int (nI cnt), .ref mt, .int mp, .int mn, .int (nI mu), .ref ma, .int (nI at_), .int bd, .int le, .int ob, .ref m1, .ref m2, .ref m3, .ref m4, .int (nI rn), .int (nI pw), .ref mc]))]) [0] rfl
    have hDc := hD.sub (ws' := [(mo, .inr (8, [.int th, .ref ms, .ref mk, .ref mv, .int (nI mm), .int (nI ml), .int (nI cnt), .ref mt, .int mp, .int mn, .int (nI mu), .ref ma, .int (nI at_), .int bd, .int le, .int ob, .ref m1, .ref m2, .ref m3, .ref m4, .int (nI rn), .int (nI pw), .ref mc]))]) [0] (by decide) rfl
    have hFc := va_free (wc := [(mo, .inr (8, [.int th, .ref ms, .ref mk, .ref mv, .int (nI mm), .int (nI ml), .int (nI cnt), .ref mt, .int mp, .int mn, .int (nI mu), .ref ma, .int (nI at_), .int bd, .int le, .int ob, .ref m1, .ref m2, .ref m3, .ref m4, .int (nI rn), .int (nI pw), .ref mc]))]) hD hS hA [0] rfl
    refine va_calli (va_runV (As := [.int (nI 0)]) (rest := []) ⟨hx, hb, hml, hown, hts⟩ (ct_Mo_goes l G cA s.heap.size mo th ms mk mv mm ml cnt mt mp mn mu ma at_ bd le ob m1 m2 m3 m4 rn pw mc (nI 0) (Or.inl rfl)) (cwV 1 hts (gi_v xm_787 xm_789 xs_Mo_goes xm_9 xm_790) rfl rfl rfl ⟨rfl, xh_Mo_goes⟩ ⟨Nat.le_of_ble_eq_true rfl, Nat.le_of_ble_eq_true rfl⟩) (pv_w hK hPc hDc (ci := 8) (q0 := 0) rfl rfl) rfl rfl hl.1 rfl (lv_room (Nat.le_of_ble_eq_true rfl)) xd_Mo_reached_8 ⟨Nat.le_of_ble_eq_true rfl, Nat.le_of_ble_eq_true rfl⟩) hS (fun q _ h => hFc q h) hFc (fun r_3 u9 t9 H1 locs ht hvm q_4 hB hz1 hk1 hS => ?_)
    obtain ⟨hP1, hD1⟩ := hB
    rw [ht] at hP1
    obtain ⟨hP, hD⟩ := va_join (wr := [(ms, .inl (cA 0, 720, .inl sa)), (mk, .inl (cA 0, 18720, .inl kd)), (mv, .inl (cA 0, 18720, .inl vl)), (mc, .inl (cA 2, 40, .inl (mk_A cb)))]) (w1 := [(mo, .inr (8, [.int (gs_T (nI 0)), .ref ms, .ref mk, .ref mv, .int (nI mm), .int (nI ml), .int (nI cnt), .ref mt, .int mp, .int mn, .int (nI mu), .ref ma, .int (nI at_), .int bd, .int le, .int ob, .ref m1, .ref m2, .ref m3, .ref m4, .int (nI rn), .int (nI pw), .ref mc]))]) hP hD [0] [1, 2, 3, 4] rfl rfl (by decide) (by decide) hk1 hFc hP1 hD1
    generalize H1 = H at hP hS ⊢
    have hP : va_P G xk_cl [(ms, .inl (cA 0, 720, .inl sa)), (mk, .inl (cA 0, 18720, .inl kd)), (mv, .inl (cA 0, 18720, .inl vl)), (mc, .inl (cA 2, 40, .inl (mk_A cb))), (mo, .inr (8, [.int (gs_T (nI 0)), .ref ms, .ref mk, .ref mv, .int (nI mm), .int (nI ml), .int (nI cnt), .ref mt, .int mp, .int mn, .int (nI mu), .ref ma, .int (nI at_), .int bd, .int le, .int ob, .ref m1, .ref m2, .ref m3, .ref m4, .int (nI rn), .int (nI pw), .ref mc]))] H := hP
    have hD : va_D A [(ms, .inl (cA 0, 720, .inl sa)), (mk, .inl (cA 0, 18720, .inl kd)), (mv, .inl (cA 0, 18720, .inl vl)), (mc, .inl (cA 2, 40, .inl (mk_A cb))), (mo, .inr (8, [.int (gs_T (nI 0)), .ref ms, .ref mk, .ref mv, .int (nI mm), .int (nI ml), .int (nI cnt), .ref mt, .int mp, .int mn, .int (nI mu), .ref ma, .int (nI at_), .int bd, .int le, .int ob, .ref m1, .ref m2, .ref m3, .ref m4, .int (nI rn), .int (nI pw), .ref mc]))] := hD
    refine lx_top (z := nI 0) (q_4) ?_
    have hP : va_P G xk_cl [(ms, .inl (cA 0, 720, .inl sa)), (mk, .inl (cA 0, 18720, .inl kd)), (mv, .inl (cA 0, 18720, .inl vl)), (mc, .inl (cA 2, 40, .inl (mk_A cb))), (mo, .inr (8, [.int (nI 1), .ref ms, .ref mk, .ref mv, .int (nI mm), .int (nI ml), .int (nI cnt), .ref mt, .int mp, .int mn, .int (nI mu), .ref ma, .int (nI at_), .int bd, .int le, .int ob, .ref m1, .ref m2, .ref m3, .ref m4, .int (nI rn), .int (nI pw), .ref mc]))] H := by skip; exact hP
    have hD : va_D A [(ms, .inl (cA 0, 720, .inl sa)), (mk, .inl (cA 0, 18720, .inl kd)), (mv, .inl (cA 0, 18720, .inl vl)), (mc, .inl (cA 2, 40, .inl (mk_A cb))), (mo, .inr (8, [.int (nI 1), .ref ms, .ref mk, .ref mv, .int (nI mm), .int (nI ml), .int (nI cnt), .ref mt, .int mp, .int mn, .int (nI mu), .ref ma, .int (nI at_), .int bd, .int le, .int ob, .ref m1, .ref m2, .ref m3, .ref m4, .int (nI rn), .int (nI pw), .ref mc]))] := by skip; exact hD
    refine lv_if_ne (tgt := 16) hx hb xd_Mo_reached_11 (by decide) (fun c_11_4 => absurd (by decide) c_11_4) (fun c_11_4 => ?_)
    refine lv_iconst (v := nI 0) hx hb xd_Mo_reached_14 (by decide) ?_
    have hP9 : va_P G xk_cl [(mo, .inr (8, [.int (nI 1), .ref ms, .ref mk, .ref mv, .int (nI mm), .int (nI ml), .int (nI cnt), .ref mt, .int mp, .int mn, .int (nI mu), .ref ma, .int (nI at_), .int bd, .int le, .int ob, .ref m1, .ref m2, .ref m3, .ref m4, .int (nI rn), .int (nI pw), .ref mc])), (ms, .inl (cA 0, 720, .inl sa)), (mk, .inl (cA 0, 18720, .inl kd)), (mv, .inl (cA 0, 18720, .inl vl)), (mc, .inl (cA 2, 40, .inl (mk_A cb)))] _ := hP.sub [4, 0, 1, 2, 3] rfl
    have hD9 : va_D A [(mo, .inr (8, [.int (nI 1), .ref ms, .ref mk, .ref mv, .int (nI mm), .int (nI ml), .int (nI cnt), .ref mt, .int mp, .int mn, .int (nI mu), .ref ma, .int (nI at_), .int bd, .int le, .int ob, .ref m1, .ref m2, .ref m3, .ref m4, .int (nI rn), .int (nI pw), .ref mc])), (ms, .inl (cA 0, 720, .inl sa)), (mk, .inl (cA 0, 18720, .inl kd)), (mv, .inl (cA 0, 18720, .inl vl)), (mc, .inl (cA 2, 40, .inl (mk_A cb)))] := hD.sub [4, 0, 1, 2, 3] (by decide) rfl
    exact W.zret (v := nI 0) (ty := .boolean) hx hb hr (by decide) (fun T9 ht hW => ⟨⟨_, (nI 1, cb), rfl, re_n q_o, by rw [ht]; exact hP9, hD9⟩, hS.F ht⟩) hS.2.2 xd_Mo_reached_15
  · obtain ⟨n, hn, e_n⟩ := so_T q_o
    refine lx_top (z := nI 1) (by rw [in_ob]; exact ob_01 q_o) ?_
    have hPc := hP.sub (ws' := [(mo, .inr (8, [.int th, .ref ms, .ref mk, .ref mv, .int (nI mm), .int (nI ml), .int (nI cnt), .ref mt, .int mp, .int mn, .int (nI mu), .ref ma, .int (nI at_), .int bd, .int le, .int ob, .ref m1, .ref m2, .ref m3, .ref m4, .int (nI rn), .int (nI pw), .ref mc]))]) [0] rfl
    have hDc := hD.sub (ws' := [(mo, .inr (8, [.int th, .ref ms, .ref mk, .ref mv, .int (nI mm), .int (nI ml), .int (nI cnt), .ref mt, .int mp, .int mn, .int (nI mu), .ref ma, .int (nI at_), .int bd, .int le, .int ob, .ref m1, .ref m2, .ref m3, .ref m4, .int (nI rn), .int (nI pw), .ref mc]))]) [0] (by decide) rfl
    have hFc := va_free (wc := [(mo, .inr (8, [.int th, .ref ms, .ref mk, .ref mv, .int (nI mm), .int (nI ml), .int (nI cnt), .ref mt, .int mp, .int mn, .int (nI mu), .ref ma, .int (nI at_), .int bd, .int le, .int ob, .ref m1, .ref m2, .ref m3, .ref m4, .int (nI rn), .int (nI pw), .ref mc]))]) hD hS hA [0] rfl
    refine va_calli (va_runV (As := [.int (nI 1)]) (rest := []) ⟨hx, hb, hml, hown, hts⟩ (ct_Mo_goes l G cA s.heap.size mo th ms mk mv mm ml cnt mt mp mn mu ma at_ bd le ob m1 m2 m3 m4 rn pw mc (nI 1) (Or.inr rfl)) (cwV 1 hts (gi_v xm_787 xm_789 xs_Mo_goes xm_9 xm_790) rfl rfl rfl ⟨rfl, xh_Mo_goes⟩ ⟨Nat.le_of_ble_eq_true rfl, Nat.le_of_ble_eq_true rfl⟩) (pv_w hK hPc hDc (ci := 8) (q0 := 0) rfl rfl) rfl rfl hl.1 rfl (lv_room (Nat.le_of_ble_eq_true rfl)) xd_Mo_reached_8 ⟨Nat.le_of_ble_eq_true rfl, Nat.le_of_ble_eq_true rfl⟩) hS (fun q _ h => hFc q h) hFc (fun r_6 u9 t9 H1 locs ht hvm q_7 hB hz1 hk1 hS => ?_)
    obtain ⟨hP1, hD1⟩ := hB
    rw [ht] at hP1
    obtain ⟨hP, hD⟩ := va_join (wr := [(ms, .inl (cA 0, 720, .inl sa)), (mk, .inl (cA 0, 18720, .inl kd)), (mv, .inl (cA 0, 18720, .inl vl)), (mc, .inl (cA 2, 40, .inl (mk_A cb)))]) (w1 := [(mo, .inr (8, [.int (gs_T (nI 1)), .ref ms, .ref mk, .ref mv, .int (nI mm), .int (nI ml), .int (nI cnt), .ref mt, .int mp, .int mn, .int (nI mu), .ref ma, .int (nI at_), .int bd, .int le, .int ob, .ref m1, .ref m2, .ref m3, .ref m4, .int (nI rn), .int (nI pw), .ref mc]))]) hP hD [0] [1, 2, 3, 4] rfl rfl (by decide) (by decide) hk1 hFc hP1 hD1
    generalize H1 = H at hP hS ⊢
    have hP : va_P G xk_cl [(ms, .inl (cA 0, 720, .inl sa)), (mk, .inl (cA 0, 18720, .inl kd)), (mv, .inl (cA 0, 18720, .inl vl)), (mc, .inl (cA 2, 40, .inl (mk_A cb))), (mo, .inr (8, [.int (gs_T (nI 1)), .ref ms, .ref mk, .ref mv, .int (nI mm), .int (nI ml), .int (nI cnt), .ref mt, .int mp, .int mn, .int (nI mu), .ref ma, .int (nI at_), .int bd, .int le, .int ob, .ref m1, .ref m2, .ref m3, .ref m4, .int (nI rn), .int (nI pw), .ref mc]))] H := hP
    have hD : va_D A [(ms, .inl (cA 0, 720, .inl sa)), (mk, .inl (cA 0, 18720, .inl kd)), (mv, .inl (cA 0, 18720, .inl vl)), (mc, .inl (cA 2, 40, .inl (mk_A cb))), (mo, .inr (8, [.int (gs_T (nI 1)), .ref ms, .ref mk, .ref mv, .int (nI mm), .int (nI ml), .int (nI cnt), .ref mt, .int mp, .int mn, .int (nI mu), .ref ma, .int (nI at_), .int bd, .int le, .int ob, .ref m1, .ref m2, .ref m3, .ref m4, .int (nI rn), .int (nI pw), .ref mc]))] := hD
    refine lx_top (z := nI 1) (q_7) ?_
    have hP : va_P G xk_cl [(ms, .inl (cA 0, 720, .inl sa)), (mk, .inl (cA 0, 18720, .inl kd)), (mv, .inl (cA 0, 18720, .inl vl)), (mc, .inl (cA 2, 40, .inl (mk_A cb))), (mo, .inr (8, [.int (nI 0), .ref ms, .ref mk, .ref mv, .int (nI mm), .int (nI ml), .int (nI cnt), .ref mt, .int mp, .int mn, .int (nI mu), .ref ma, .int (nI at_), .int bd, .int le, .int ob, .ref m1, .ref m2, .ref m3, .ref m4, .int (nI rn), .int (nI pw), .ref mc]))] H := by skip; exact hP
    have hD : va_D A [(ms, .inl (cA 0, 720, .inl sa)), (mk, .inl (cA 0, 18720, .inl kd)), (mv, .inl (cA 0, 18720, .inl vl)), (mc, .inl (cA 2, 40, .inl (mk_A cb))), (mo, .inr (8, [.int (nI 0), .ref ms, .ref mk, .ref mv, .int (nI mm), .int (nI ml), .int (nI cnt), .ref mt, .int mp, .int mn, .int (nI mu), .ref ma, .int (nI at_), .int bd, .int le, .int ob, .ref m1, .ref m2, .ref m3, .ref m4, .int (nI rn), .int (nI pw), .ref mc]))] := by skip; exact hD
    refine lv_if_ne (tgt := 16) hx hb xd_Mo_reached_11 (by decide) (fun c_11_7 => ?_) (fun c_11_7 => absurd c_11_7 (by decide))
    refine lv_aload_n hx hb xd_Mo_reached_16 rfl (lv_at hl 0 rfl) ?_
    have hPc := hP.sub (ws' := [(mo, .inr (8, [.int (nI 0), .ref ms, .ref mk, .ref mv, .int (nI mm), .int (nI ml), .int (nI cnt), .ref mt, .int mp, .int mn, .int (nI mu), .ref ma, .int (nI at_), .int bd, .int le, .int ob, .ref m1, .ref m2, .ref m3, .ref m4, .int (nI rn), .int (nI pw), .ref mc])), (ms, .inl (cA 0, 720, .inl sa)), (mk, .inl (cA 0, 18720, .inl kd)), (mv, .inl (cA 0, 18720, .inl vl)), (mc, .inl (cA 2, 40, .inl (mk_A cb)))]) [4, 0, 1, 2, 3] rfl
    have hDc := hD.sub (ws' := [(mo, .inr (8, [.int (nI 0), .ref ms, .ref mk, .ref mv, .int (nI mm), .int (nI ml), .int (nI cnt), .ref mt, .int mp, .int mn, .int (nI mu), .ref ma, .int (nI at_), .int bd, .int le, .int ob, .ref m1, .ref m2, .ref m3, .ref m4, .int (nI rn), .int (nI pw), .ref mc])), (ms, .inl (cA 0, 720, .inl sa)), (mk, .inl (cA 0, 18720, .inl kd)), (mv, .inl (cA 0, 18720, .inl vl)), (mc, .inl (cA 2, 40, .inl (mk_A cb)))]) [4, 0, 1, 2, 3] (by decide) rfl
    have hFc := va_free (wc := [(mo, .inr (8, [.int (nI 0), .ref ms, .ref mk, .ref mv, .int (nI mm), .int (nI ml), .int (nI cnt), .ref mt, .int mp, .int mn, .int (nI mu), .ref ma, .int (nI at_), .int bd, .int le, .int ob, .ref m1, .ref m2, .ref m3, .ref m4, .int (nI rn), .int (nI pw), .ref mc])), (ms, .inl (cA 0, 720, .inl sa)), (mk, .inl (cA 0, 18720, .inl kd)), (mv, .inl (cA 0, 18720, .inl vl)), (mc, .inl (cA 2, 40, .inl (mk_A cb)))]) hD hS hA [4, 0, 1, 2, 3] rfl
    refine va_callv (va_runV (As := []) (rest := []) ⟨hx, hb, hml, hown, hts⟩ (ct_Mo_reach l G cA H.size mo (nI 0) ms mk mv mm ml cnt mt mp mn mu ma at_ bd le ob m1 m2 m3 m4 rn pw mc sa kd vl st ce cb hR hO) (cwV 0 hts (gi_v xm_799 xm_801 xs_Mo_reach xm_9 xm_802) rfl rfl rfl ⟨rfl, xh_Mo_reach⟩ ⟨Nat.le_of_ble_eq_true rfl, Nat.le_of_ble_eq_true rfl⟩) (pv_w hK hPc hDc (ci := 8) (q0 := 0) rfl rfl) rfl rfl hl.1 rfl (lv_room (Nat.le_of_ble_eq_true rfl)) xd_Mo_reached_17 ⟨Nat.le_of_ble_eq_true rfl, Nat.le_of_ble_eq_true rfl⟩) hS (fun q _ h => hFc q h) hFc (fun u9 t9 H1 locs ht hvm q_10 hB hz1 hk1 hS => ?_)
    obtain ⟨u_cb2_11, rfl⟩ : ∃ z, z = u9 := ⟨_, rfl⟩
    try dsimp only at q_10 hB
    obtain ⟨hP1, hD1⟩ := hB
    rw [ht] at hP1
    obtain ⟨hP, hD⟩ := va_join (wr := []) (w1 := [(mo, .inr (8, [.int (nI 0), .ref ms, .ref mk, .ref mv, .int (nI mm), .int (nI ml), .int (nI cnt), .ref mt, .int mp, .int mn, .int (nI mu), .ref ma, .int (nI at_), .int bd, .int le, .int ob, .ref m1, .ref m2, .ref m3, .ref m4, .int (nI rn), .int (nI pw), .ref mc])), (ms, .inl (cA 0, 720, .inl sa)), (mk, .inl (cA 0, 18720, .inl kd)), (mv, .inl (cA 0, 18720, .inl vl)), (mc, .inl (cA 2, 40, .inl (mk_A u_cb2_11)))]) hP hD [4, 0, 1, 2, 3] [] rfl rfl (by decide) (by decide) hk1 hFc hP1 hD1
    generalize H1 = H at hP hS ⊢
    have hP : va_P G xk_cl [(mo, .inr (8, [.int (nI 0), .ref ms, .ref mk, .ref mv, .int (nI mm), .int (nI ml), .int (nI cnt), .ref mt, .int mp, .int mn, .int (nI mu), .ref ma, .int (nI at_), .int bd, .int le, .int ob, .ref m1, .ref m2, .ref m3, .ref m4, .int (nI rn), .int (nI pw), .ref mc])), (ms, .inl (cA 0, 720, .inl sa)), (mk, .inl (cA 0, 18720, .inl kd)), (mv, .inl (cA 0, 18720, .inl vl)), (mc, .inl (cA 2, 40, .inl (mk_A u_cb2_11)))] H := hP
    have hD : va_D A [(mo, .inr (8, [.int (nI 0), .ref ms, .ref mk, .ref mv, .int (nI mm), .int (nI ml), .int (nI cnt), .ref mt, .int mp, .int mn, .int (nI mu), .ref ma, .int (nI at_), .int bd, .int le, .int ob, .ref m1, .ref m2, .ref m3, .ref m4, .int (nI rn), .int (nI pw), .ref mc])), (ms, .inl (cA 0, 720, .inl sa)), (mk, .inl (cA 0, 18720, .inl kd)), (mv, .inl (cA 0, 18720, .inl vl)), (mc, .inl (cA 2, 40, .inl (mk_A u_cb2_11)))] := hD
    refine lv_aload_n hx hb xd_Mo_reached_20 rfl (lv_at hl 0 rfl) ?_
    refine va_get (D := G) (ci := 8) (v := .ref mc) (C := xc_Mo) (T := xf_Mo) (N := 23) hx hb hts xw_Mo hown hK.1 hP 0 rfl rfl 22 (by decide) (hts _ xm_641) (fun _ h9 => h9) rfl xd_Mo_reached_21 ?_
    have hl : lv_has ls 2 [(0, .ref mo), (1, .int (nI n))] := by rw [← e_n]; exact hl
    refine lv_iload_n hx hb xd_Mo_reached_24 rfl (lv_at hl 1 rfl) ?_
    refine wx_zald hx hb hK.1 hP 4 2 rfl rfl (k := n) (by omega) (by decide) xd_Mo_reached_25 ?_
    have hP9 : va_P G xk_cl [(mo, .inr (8, [.int (nI 0), .ref ms, .ref mk, .ref mv, .int (nI mm), .int (nI ml), .int (nI cnt), .ref mt, .int mp, .int mn, .int (nI mu), .ref ma, .int (nI at_), .int bd, .int le, .int ob, .ref m1, .ref m2, .ref m3, .ref m4, .int (nI rn), .int (nI pw), .ref mc])), (ms, .inl (cA 0, 720, .inl sa)), (mk, .inl (cA 0, 18720, .inl kd)), (mv, .inl (cA 0, 18720, .inl vl)), (mc, .inl (cA 2, 40, .inl (mk_A u_cb2_11)))] _ := hP.sub [0, 1, 2, 3, 4] rfl
    have hD9 : va_D A [(mo, .inr (8, [.int (nI 0), .ref ms, .ref mk, .ref mv, .int (nI mm), .int (nI ml), .int (nI cnt), .ref mt, .int mp, .int mn, .int (nI mu), .ref ma, .int (nI at_), .int bd, .int le, .int ob, .ref m1, .ref m2, .ref m3, .ref m4, .int (nI rn), .int (nI pw), .ref mc])), (ms, .inl (cA 0, 720, .inl sa)), (mk, .inl (cA 0, 18720, .inl kd)), (mv, .inl (cA 0, 18720, .inl vl)), (mc, .inl (cA 2, 40, .inl (mk_A u_cb2_11)))] := hD.sub [0, 1, 2, 3, 4] (by decide) rfl
    exact W.zret (v := (mk_A u_cb2_11) n) (ty := .boolean) hx hb hr (by unfold mk_A; split <;> decide) (fun T9 ht hW => ⟨⟨_, (nI 0, u_cb2_11), rfl, re_y (st := st) (ce := ce) e_n hn (by unfold mk_A; rw [q_10 n hn]), by rw [ht]; exact hP9, hD9⟩, hS.F ht⟩) hS.2.2 xd_Mo_reached_26
