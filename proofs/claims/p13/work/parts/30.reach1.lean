def mk_A (mb : Nat → Bool) : Nat → Int32 := fun n => if mb n then nI 1 else nI 0
def ub_B (mb : Nat → Bool) (n : Nat) : Nat → Bool := fun j => if j = n then true else mb j
def mt_q (mb : Nat → Bool) (qf : Nat → Nat) (qc n : Nat) : Nat → Nat := if mb n = true then qf else un_N qf qc n
def mt_c (mb : Nat → Bool) (qc n : Nat) : Nat := if mb n = true then qc else qc + 1
theorem ub_t {mb : Nat → Bool} {n : Nat} (h : mb n = true) : ub_B mb n = mb := by
  funext j
  unfold ub_B
  by_cases e : j = n
  · rw [if_pos e, e, h]
  · rw [if_neg e]
theorem mk_up (mb : Nat → Bool) (n : Nat) : upd (mk_A mb) n (nI 1) = mk_A (ub_B mb n) := by
  funext j
  unfold upd mk_A ub_B
  by_cases e : j = n
  · rw [if_pos e, if_pos e]; rfl
  · rw [if_neg e, if_neg e]
theorem ct_lt {p : Nat → Bool} {n k : Nat} (hk : k < n) (h : p k = false) : ct_N p n < n := by
  induction n with
  | zero => omega
  | succ n ih =>
    have hl := ct_N_le p n
    unfold ct_N
    by_cases e : k = n
    · rw [← e, h]; rw [← e] at hl; simp; omega
    · have := ih (by omega)
      split <;> omega
abbrev ms_T : Type := (Nat → Bool) × (Nat → Nat) × Nat
def ms_1 (S : ms_T) (n : Nat) : ms_T := (ub_B S.1 n, mt_q S.1 S.2.1 S.2.2 n, mt_c S.1 S.2.2 n)
theorem ms_ct {S : ms_T} {n : Nat} (hn : n < 40) (h : ct_N S.1 40 = S.2.2) : ct_N (ms_1 S n).1 40 = (ms_1 S n).2.2 := by
  show ct_N (ub_B S.1 n) 40 = mt_c S.1 S.2.2 n
  unfold mt_c
  by_cases q : S.1 n = true
  · rw [if_pos q, ub_t q, h]
  · rw [if_neg q]
    have h1 := ct_N_up S.1 (ub_B S.1 n) n 40 hn (fun j hj => if_neg hj)
    have e1 : ub_B S.1 n n = true := if_pos rfl
    have e2 : S.1 n = false := by cases z : S.1 n with
      | false => rfl
      | true => exact absurd z q
    rw [e1, e2] at h1
    simp at h1
    omega
def wk_F (st ce : Nat → Int32) (n : Nat) (S : ms_T) : Nat → ms_T
  | 0 => S
  | i + 1 => if fo_C st ce (n * 26 + i) then ms_1 (wk_F st ce n S i) (cv_N (ce (n * 26 + i))) else wk_F st ce n S i
theorem wk_F_t {st ce : Nat → Int32} {n : Nat} {S : ms_T} {i : Nat} (h : fo_C st ce (n * 26 + i)) : wk_F st ce n S (i + 1) = ms_1 (wk_F st ce n S i) (cv_N (ce (n * 26 + i))) := by rw [wk_F, if_pos h]
theorem wk_F_f {st ce : Nat → Int32} {n : Nat} {S : ms_T} {i : Nat} (h : ¬ fo_C st ce (n * 26 + i)) : wk_F st ce n S (i + 1) = wk_F st ce n S i := by rw [wk_F, if_neg h]
theorem wk_ct {st ce : Nat → Int32} (hv : wv_O ce) {n : Nat} (hn : n < 40) {S : ms_T} (h : ct_N S.1 40 = S.2.2) : ∀ i, i ≤ 26 → ct_N (wk_F st ce n S i).1 40 = (wk_F st ce n S i).2.2
  | 0, _ => h
  | i + 1, hi => by
    by_cases q : fo_C st ce (n * 26 + i)
    · rw [wk_F_t q]; exact ms_ct (hv _ (by omega) q.1).2 (wk_ct hv hn h i (by omega))
    · rw [wk_F_f q]; exact wk_ct hv hn h i (by omega)
def rw_F (st ce : Nat → Int32) (S : ms_T) : Nat → ms_T
  | 0 => S
  | i + 1 => wk_F st ce ((rw_F st ce S i).2.1 i) (rw_F st ce S i) 26
def rc_k (st ce : Nat → Int32) : Nat → Nat → Prop
  | 0, n => n = 0
  | k + 1, n => ∃ m, m < 40 ∧ rc_k st ce k m ∧ ∃ i, i < 26 ∧ fo_C st ce (m * 26 + i) ∧ cv_N (ce (m * 26 + i)) = n
def rc_P (st ce : Nat → Int32) (n : Nat) : Prop := ∃ k, rc_k st ce k n
noncomputable def rc_B (st ce : Nat → Int32) (n : Nat) : Bool := @decide (rc_P st ce n) (Classical.propDecidable _)
theorem rc_0 (st ce : Nat → Int32) : rc_P st ce 0 := ⟨0, rfl⟩
theorem rc_s {st ce : Nat → Int32} {m i : Nat} (hm : m < 40) (h : rc_P st ce m) (hi : i < 26) (hc : fo_C st ce (m * 26 + i)) : rc_P st ce (cv_N (ce (m * 26 + i))) := by
  obtain ⟨k, hk⟩ := h
  exact ⟨k + 1, m, hm, hk, i, hi, hc, rfl⟩
theorem rc_min {st ce : Nat → Int32} (hv : wv_O ce) {mb : Nat → Bool} (h0 : mb 0 = true) (hs : ∀ m, m < 40 → mb m = true → ∀ i, i < 26 → fo_C st ce (m * 26 + i) → mb (cv_N (ce (m * 26 + i))) = true) : ∀ n, rc_P st ce n → mb n = true := by
  intro n ⟨k, hk⟩
  induction k generalizing n with
  | zero => have e : n = 0 := hk; rw [e]; exact h0
  | succ k ih =>
    obtain ⟨m, hm, h1, i, hi, hc, e⟩ := hk
    rw [← e]
    exact hs m hm (ih m h1) i hi hc
def rb_I (st ce : Nat → Int32) (S : ms_T) : Prop := ct_N S.1 40 = S.2.2 ∧ (∀ j, j < S.2.2 → S.2.1 j < 40 ∧ S.1 (S.2.1 j) = true) ∧ (∀ n, n < 40 → S.1 n = true → ∃ j, j < S.2.2 ∧ S.2.1 j = n) ∧ (∀ n, n < 40 → S.1 n = true → rc_P st ce n)
def ms_L (S S' : ms_T) : Prop := (∀ j, S.1 j = true → S'.1 j = true) ∧ (∀ j, j < S.2.2 → S'.2.1 j = S.2.1 j) ∧ S.2.2 ≤ S'.2.2
theorem ms_L_r (S : ms_T) : ms_L S S := ⟨fun _ h => h, fun _ _ => rfl, Nat.le_refl _⟩
theorem ms_L_t {S T U : ms_T} (h : ms_L S T) (g : ms_L T U) : ms_L S U := ⟨fun j hj => g.1 j (h.1 j hj), fun j hj => (g.2.1 j (Nat.lt_of_lt_of_le hj h.2.2)).trans (h.2.1 j hj), Nat.le_trans h.2.2 g.2.2⟩
theorem ms_ok {st ce : Nat → Int32} {S : ms_T} {n : Nat} (h : rb_I st ce S) (hn : n < 40) (hr : rc_P st ce n) : rb_I st ce (ms_1 S n) ∧ ms_L S (ms_1 S n) ∧ (ms_1 S n).1 n = true := by
  obtain ⟨h1, h2, h3, h4⟩ := h
  by_cases q : S.1 n = true
  · have e : ms_1 S n = S := by
      unfold ms_1 mt_q mt_c
      rw [ub_t q, if_pos q, if_pos q]
    rw [e]
    exact ⟨⟨h1, h2, h3, h4⟩, ms_L_r S, q⟩
  · have c1 := ms_ct (S := S) hn h1
    have e : ms_1 S n = (ub_B S.1 n, un_N S.2.1 S.2.2 n, S.2.2 + 1) := by
      unfold ms_1 mt_q mt_c
      rw [if_neg q, if_neg q]
    rw [e] at c1 ⊢
    have ue : ub_B S.1 n n = true := if_pos rfl
    have un : ∀ j, S.1 j = true → ub_B S.1 n j = true := fun j hj => by
      unfold ub_B
      split
      · rfl
      · exact hj
    have uo : ∀ j, j ≠ n → ub_B S.1 n j = S.1 j := fun j hj => if_neg hj
    have vn : ∀ j, j ≠ S.2.2 → un_N S.2.1 S.2.2 n j = S.2.1 j := fun j hj => if_neg hj
    have ve : un_N S.2.1 S.2.2 n S.2.2 = n := if_pos rfl
    refine ⟨⟨c1, fun j hj => ?_, fun m hm hb => ?_, fun m hm hb => ?_⟩, ⟨un, fun j hj => vn j (Nat.ne_of_lt hj), Nat.le_succ _⟩, ue⟩
    · dsimp only at hj ⊢
      by_cases z : j = S.2.2
      · rw [z, ve]; exact ⟨hn, ue⟩
      · rw [vn j z]
        have := h2 j (by omega)
        exact ⟨this.1, un _ this.2⟩
    · dsimp only at hb ⊢
      by_cases z : m = n
      · exact ⟨S.2.2, Nat.lt_succ_self _, by rw [ve, z]⟩
      · rw [uo m z] at hb
        obtain ⟨j, hj, e2⟩ := h3 m hm hb
        exact ⟨j, Nat.lt_succ_of_lt hj, by rw [vn j (Nat.ne_of_lt hj), e2]⟩
    · dsimp only at hb
      by_cases z : m = n
      · rw [z]; exact hr
      · rw [uo m z] at hb
        exact h4 m hm hb
theorem wk_ok {st ce : Nat → Int32} (hv : wv_O ce) {n : Nat} (hn : n < 40) (hr : rc_P st ce n) {S : ms_T} (h : rb_I st ce S) : ∀ i, i ≤ 26 → rb_I st ce (wk_F st ce n S i) ∧ ms_L S (wk_F st ce n S i) ∧ ∀ k, k < i → fo_C st ce (n * 26 + k) → (wk_F st ce n S i).1 (cv_N (ce (n * 26 + k))) = true
  | 0, _ => ⟨h, ms_L_r S, fun k hk => absurd hk (Nat.not_lt_zero _)⟩
  | i + 1, hi => by
    obtain ⟨g1, g2, g3⟩ := wk_ok hv hn hr h i (by omega)
    by_cases q : fo_C st ce (n * 26 + i)
    · rw [wk_F_t q]
      obtain ⟨m1, m2, m3⟩ := ms_ok g1 (hv _ (by omega) q.1).2 (rc_s hn hr (by omega) q)
      refine ⟨m1, ms_L_t g2 m2, fun k hk hc => ?_⟩
      by_cases z : k = i
      · rw [z]; exact m3
      · exact m2.1 _ (g3 k (by omega) hc)
    · rw [wk_F_f q]
      refine ⟨g1, g2, fun k hk hc => ?_⟩
      by_cases z : k = i
      · rw [z] at hc; exact absurd hc q
      · exact g3 k (by omega) hc
def rw_I (st ce : Nat → Int32) (S : ms_T) (i : Nat) : Prop := rb_I st ce S ∧ S.1 0 = true ∧ i ≤ S.2.2 ∧ ∀ j, j < i → ∀ k, k < 26 → fo_C st ce (S.2.1 j * 26 + k) → S.1 (cv_N (ce (S.2.1 j * 26 + k))) = true
theorem rw_ok {st ce : Nat → Int32} (hv : wv_O ce) {S : ms_T} {i : Nat} (h : rw_I st ce S i) (hi : i < S.2.2) : rw_I st ce (wk_F st ce (S.2.1 i) S 26) (i + 1) := by
  obtain ⟨h1, h2, h3, h4⟩ := h
  have hq := h1.2.1 i hi
  obtain ⟨g1, g2, g3⟩ := wk_ok hv hq.1 (h1.2.2.2 _ hq.1 hq.2) h1 26 (Nat.le_refl _)
  refine ⟨g1, g2.1 0 h2, Nat.le_trans hi g2.2.2, fun j hj k hk hc => ?_⟩
  rw [g2.2.1 j (by omega)] at hc ⊢
  by_cases z : j = i
  · rw [z] at hc ⊢; exact g3 k hk hc
  · exact g2.1 _ (h4 j (by omega) k hk hc)
theorem rw_end {st ce : Nat → Int32} (hv : wv_O ce) {S : ms_T} {i : Nat} (h : rw_I st ce S i) (hi : S.2.2 ≤ i) : ∀ n, n < 40 → mk_A S.1 n = mk_A (rc_B st ce) n := by
  intro n hn
  obtain ⟨h1, h2, h3, h4⟩ := h
  have key : S.1 n = rc_B st ce n := by
    unfold rc_B
    cases q : S.1 n with
    | true => exact (@decide_eq_true _ (Classical.propDecidable _) (h1.2.2.2 n hn q)).symm
    | false =>
      refine (@decide_eq_false _ (Classical.propDecidable _) (fun z => ?_)).symm
      have := rc_min hv h2 (fun m hm hb k hk hc => by
        obtain ⟨j, hj, e⟩ := h1.2.2.1 m hm hb
        rw [← e] at hc ⊢
        exact h4 j (by omega) k hk hc) n z
      rw [q] at this
      cases this
  unfold mk_A
  rw [key]
def cb_B (mb : Nat → Bool) (i : Nat) : Nat → Bool := fun j => if j < i then false else mb j
theorem cb_0 (mb : Nat → Bool) : cb_B mb 0 = mb := by
  funext j
  unfold cb_B
  rw [if_neg (by omega)]
theorem cb_s (mb : Nat → Bool) (i : Nat) : mk_A (cb_B mb (i + 1)) = upd (mk_A (cb_B mb i)) i (nI 0) := by
  funext j
  show (if cb_B mb (i + 1) j = true then nI 1 else nI 0) = if j = i then nI 0 else (if cb_B mb i j = true then nI 1 else nI 0)
  by_cases e : j = i
  · have z : cb_B mb (i + 1) j = false := if_pos (by omega)
    rw [if_pos e, z]; rfl
  · have z : cb_B mb (i + 1) j = cb_B mb i j := by
      unfold cb_B
      by_cases q : j < i
      · rw [if_pos q, if_pos (by omega)]
      · rw [if_neg q, if_neg (by omega)]
    rw [if_neg e, z]
theorem cb_ct (mb : Nat → Bool) : ∀ m, m ≤ 40 → ct_N (cb_B mb 40) m = 0
  | 0, _ => rfl
  | m + 1, h => by
    rw [ct_N_f (p := cb_B mb 40) (if_pos (by omega))]
    exact cb_ct mb m (by omega)
theorem rw_st (st ce : Nat → Int32) (mb : Nat → Bool) (qf : Nat → Nat) : rw_I st ce (ms_1 (cb_B mb 40, qf, 0) 0) 0 := by
  have e : ∀ n, n < 40 → cb_B mb 40 n = true → False := fun n hn hb => by
    have e1 : cb_B mb 40 n = false := if_pos hn
    rw [e1] at hb
    cases hb
  have h : rb_I st ce (cb_B mb 40, qf, 0) := ⟨cb_ct mb 40 (Nat.le_refl _), fun j hj => absurd hj (Nat.not_lt_zero _), fun n hn hb => (e n hn hb).elim, fun n hn hb => (e n hn hb).elim⟩
  obtain ⟨h1, h2, h3⟩ := ms_ok h (by decide : 0 < 40) (rc_0 st ce)
  exact ⟨h1, h3, Nat.zero_le _, fun j hj => absurd hj (Nat.not_lt_zero _)⟩
set_option maxHeartbeats 4000000 in
set_option maxRecDepth 100000 in
theorem ct_Re_has (l : Launch) (G : va_G) (cA : Nat → ClassId) (re : Nat) (rm : Nat) (rq : Nat) (mb : Nat → Bool) (qf : Nat → Nat) (qc : Nat) (n : Nat) (hn : n < 40) : Met l xy_Re_has (.code xy_Re_has xb_Re_has 2 (some .boolean) :: tw_W) ({ frames := 1, cells := 0, slots := 0, locals := 20 }) (pc_r G cA [(re, .inr (7, [.ref rm, .ref rq, .int (nI qc)])), (rm, .inl (cA 2, 40, .inl (mk_A mb)))] [.ref re, .int (nI n)]) (vp_Si (fun r : Int32 => r = mk_A mb n)) 0 0 (fun _ => False) := by
  refine Met.ofW (cc := xb_Re_has) (maxL := 2) (ret := (some .boolean)) (by decide) rfl ?_
  intro p e s m args below meth c s₁ B hml hv
  obtain ⟨rfl, hK, hP⟩ := hv
  have hx := B.exec
  have hb := B.bytes
  have hr := B.returns
  have hts0 := atoms_spec (ws := .code xy_Re_has xb_Re_has 2 (some .boolean) :: tw_W) B.pre
  have hts : ∀ w9 ∈ tw_W, w9.before [.ref re, .int (nI n)].toArray s = true := fun w9 h9 => hts0 w9 (List.mem_cons_of_mem _ h9)
  have hown : s.vm.findClass xc_Re = some m.cls := findClass_of_methodNamed B.named
  have hlocks := B.notSynchronized
  have hP : va_P G xk_cl [(re, .inr (7, [.ref rm, .ref rq, .int (nI qc)])), (rm, .inl (cA 2, 40, .inl (mk_A mb)))] s.heap := hP
  have hl := lv_entry ([.ref re, .int (nI n)]) (n := 2) (Nat.le_of_ble_eq_true rfl)
  rw [lg_entry_eq]
  generalize (lg_sl ([.ref re, .int (nI n)]) ++ List.replicate (2 - (lg_sl ([.ref re, .int (nI n)])).length) Slot.unset).toArray = ls at hl ⊢
  have hl : lv_has ls 2 [(0, .ref re), (1, .int (nI n))] := hl
  refine lv_iload_n hx hb xd_Re_has_0 rfl (lv_at hl 1 rfl) ?_
  have hPc := hP.sub (ws' := []) [] rfl
  refine vp_callSi (va_Run.run (va_runSN (As := [.int (nI n)]) (rest := []) ⟨hx, hb, hml, hown, hts⟩ (ct_X_isObject l G cA (nI n)) ⟨va_cnB 1 hts (tw_g xm_276) rfl rfl rfl (nw_m hK.2 13 rfl) (hts _ xm_1) xh_X_isObject ⟨Nat.le_of_ble_eq_true rfl, Nat.le_of_ble_eq_true rfl⟩, hts _ xm_275, trivial⟩ (ps_r hK hPc) rfl rfl hl.1 rfl (lv_room (Nat.le_of_ble_eq_true rfl)) xd_Re_has_1 ⟨Nat.le_of_ble_eq_true rfl, Nat.le_of_ble_eq_true rfl⟩)) (fun r_1 q_2 => ?_)
  refine lx_top (z := sp_ob (nI n)) (q_2) ?_
  refine lx_top (z := nI 1) (sp_ob_t (by omega)) ?_
  refine lv_if_eq (tgt := 20) hx hb xd_Re_has_4 (by decide) (fun c_4_2 => absurd c_4_2 (by decide)) (fun c_4_2 => ?_)
  refine lv_aload_n hx hb xd_Re_has_7 rfl (lv_at hl 0 rfl) ?_
  refine va_get (D := G) (ci := 7) (v := .ref rm) (C := xc_Re) (T := xf_Re) (N := 3) hx hb hts xw_Re hown hK.1 hP 0 rfl rfl 0 (by decide) (hts _ xm_148) (fun _ h9 => h9) rfl xd_Re_has_8 ?_
  refine lv_iload_n hx hb xd_Re_has_11 rfl (lv_at hl 1 rfl) ?_
  refine wx_zald hx hb hK.1 hP 1 2 rfl rfl (k := n) (by omega) (by decide) xd_Re_has_12 ?_
  by_cases hbn : mb n = true
  · refine lx_top (z := nI 1) (by rw [mk_A, if_pos hbn]) ?_
    refine lv_if_eq (tgt := 20) hx hb xd_Re_has_13 (by decide) (fun c_13_3 => absurd c_13_3 (by decide)) (fun c_13_3 => ?_)
    refine lv_iconst (v := nI 1) hx hb xd_Re_has_16 (by decide) ?_
    refine lv_goto (tgt := 21) hx hb xd_Re_has_17 (by decide) ?_
    exact W.zret (v := nI 1) (ty := .boolean) hx hb hr (by decide) (fun T9 ht _ => ⟨_, rfl, by rw [mk_A, if_pos hbn], ht⟩) (fun _ h => absurd h List.not_mem_nil) xd_Re_has_21
  · refine lx_top (z := nI 0) (by rw [mk_A, if_neg hbn]) ?_
    refine lv_if_eq (tgt := 20) hx hb xd_Re_has_13 (by decide) (fun c_13_4 => ?_) (fun c_13_4 => absurd (by decide) c_13_4)
    refine lv_iconst (v := nI 0) hx hb xd_Re_has_20 (by decide) ?_
    exact W.zret (v := nI 0) (ty := .boolean) hx hb hr (by decide) (fun T9 ht _ => ⟨_, rfl, by rw [mk_A, if_neg hbn], ht⟩) (fun _ h => absurd h List.not_mem_nil) xd_Re_has_21
set_option maxHeartbeats 4000000 in
set_option maxRecDepth 100000 in
theorem ct_Re_meet (l : Launch) (G : va_G) (cA : Nat → ClassId) (sz : Nat) (re : Nat) (rm : Nat) (rq : Nat) (mb : Nat → Bool) (qf : Nat → Nat) (qc : Nat) (n : Nat) (hn : n < 40) (hct : ct_N mb 40 = qc) : Met l xy_Re_meet (.code xy_Re_meet xb_Re_meet 2 none :: tw_W) ({ frames := 1, cells := 0, slots := 0, locals := 20 }) (pc_w G cA [(re, .inr (7, [.ref rm, .ref rq, .int (nI qc)])), (rm, .inl (cA 2, 40, .inl (mk_A mb))), (rq, .inl (cA 0, 40, .inl (tx_A qf)))] sz [.ref re, .int (nI n)]) (va_Qv (fun _ : Unit => True) (fun _ T9 => at_w G (va_A [(re, .inr (7, [.ref rm, .ref rq, .int (nI qc)])), (rm, .inl (cA 2, 40, .inl (mk_A mb))), (rq, .inl (cA 0, 40, .inl (tx_A qf)))] sz) [(re, .inr (7, [.ref rm, .ref rq, .int (nI (mt_c mb qc n))])), (rm, .inl (cA 2, 40, .inl (mk_A (ub_B mb n)))), (rq, .inl (cA 0, 40, .inl (tx_A (mt_q mb qf qc n))))] T9) (va_A [(re, .inr (7, [.ref rm, .ref rq, .int (nI qc)])), (rm, .inl (cA 2, 40, .inl (mk_A mb))), (rq, .inl (cA 0, 40, .inl (tx_A qf)))] sz)) 0 0 (va_A [(re, .inr (7, [.ref rm, .ref rq, .int (nI qc)])), (rm, .inl (cA 2, 40, .inl (mk_A mb))), (rq, .inl (cA 0, 40, .inl (tx_A qf)))] sz) := by
  refine Met.ofW (cc := xb_Re_meet) (maxL := 2) (ret := none) (by decide) rfl ?_
  intro p e s m args below meth c s₁ B hml hv
  obtain ⟨rfl, hsz, hK, hP, hD0⟩ := hv
  have hx := B.exec
  have hb := B.bytes
  have hr := B.returns
  have hts0 := atoms_spec (ws := .code xy_Re_meet xb_Re_meet 2 none :: tw_W) B.pre
  have hts : ∀ w9 ∈ tw_W, w9.before [.ref re, .int (nI n)].toArray s = true := fun w9 h9 => hts0 w9 (List.mem_cons_of_mem _ h9)
  have hown : s.vm.findClass xc_Re = some m.cls := findClass_of_methodNamed B.named
  have hlocks := B.notSynchronized
  subst hsz
  have hD := hD0.self (sz := s.heap.size)
  generalize hAe : va_A [(re, .inr (7, [.ref rm, .ref rq, .int (nI qc)])), (rm, .inl (cA 2, 40, .inl (mk_A mb))), (rq, .inl (cA 0, 40, .inl (tx_A qf)))] s.heap.size = A at hD ⊢
  have hA : ∀ q : Nat, s.heap.size ≤ q → A q := fun q h => by rw [← hAe]; exact Or.inr h
  have hS : va_S A s.heap s.heap [] := va_S.rf
  have hP : va_P G xk_cl [(re, .inr (7, [.ref rm, .ref rq, .int (nI qc)])), (rm, .inl (cA 2, 40, .inl (mk_A mb))), (rq, .inl (cA 0, 40, .inl (tx_A qf)))] s.heap := hP
  have hl := lv_entry ([.ref re, .int (nI n)]) (n := 2) (Nat.le_of_ble_eq_true rfl)
  rw [lg_entry_eq]
  generalize (lg_sl ([.ref re, .int (nI n)]) ++ List.replicate (2 - (lg_sl ([.ref re, .int (nI n)])).length) Slot.unset).toArray = ls at hl ⊢
  have hl : lv_has ls 2 [(0, .ref re), (1, .int (nI n))] := hl
  refine lv_iload_n hx hb xd_Re_meet_0 rfl (lv_at hl 1 rfl) ?_
  have hPc := hP.sub (ws' := []) [] rfl
  refine vp_callSi (va_Run.run (va_runSN (As := [.int (nI n)]) (rest := []) ⟨hx, hb, hml, hown, hts⟩ (ct_X_isObject l G cA (nI n)) ⟨va_cnB 1 hts (tw_g xm_276) rfl rfl rfl (nw_m hK.2 13 rfl) (hts _ xm_1) xh_X_isObject ⟨Nat.le_of_ble_eq_true rfl, Nat.le_of_ble_eq_true rfl⟩, hts _ xm_275, trivial⟩ (ps_r hK hPc) rfl rfl hl.1 rfl (lv_room (Nat.le_of_ble_eq_true rfl)) xd_Re_meet_1 ⟨Nat.le_of_ble_eq_true rfl, Nat.le_of_ble_eq_true rfl⟩)) (fun r_1 q_2 => ?_)
  refine lx_top (z := sp_ob (nI n)) (q_2) ?_
  refine lx_top (z := nI 1) (sp_ob_t (by omega)) ?_
  refine lv_if_eq (tgt := 62) hx hb xd_Re_meet_4 (by decide) (fun c_4_2 => absurd c_4_2 (by decide)) (fun c_4_2 => ?_)
  refine lv_aload_n hx hb xd_Re_meet_7 rfl (lv_at hl 0 rfl) ?_
  refine va_get (D := G) (ci := 7) (v := .ref rm) (C := xc_Re) (T := xf_Re) (N := 3) hx hb hts xw_Re hown hK.1 hP 0 rfl rfl 0 (by decide) (hts _ xm_148) (fun _ h9 => h9) rfl xd_Re_meet_8 ?_
  refine lv_iload_n hx hb xd_Re_meet_11 rfl (lv_at hl 1 rfl) ?_
  refine wx_zald hx hb hK.1 hP 1 2 rfl rfl (k := n) (by omega) (by decide) xd_Re_meet_12 ?_
  by_cases hbn : mb n = true
  · refine lx_top (z := nI 1) (by rw [mk_A, if_pos hbn]) ?_
    refine lv_if_ne (tgt := 62) hx hb xd_Re_meet_13 (by decide) (fun c_13_3 => ?_) (fun c_13_3 => absurd c_13_3 (by decide))
    have hP : va_P G xk_cl [(re, .inr (7, [.ref rm, .ref rq, .int (nI (mt_c mb qc n))])), (rm, .inl (cA 2, 40, .inl (mk_A (ub_B mb n)))), (rq, .inl (cA 0, 40, .inl (tx_A (mt_q mb qf qc n))))] s.heap := by rw [ub_t hbn, mt_q, if_pos hbn, mt_c, if_pos hbn]; exact hP
    have hD : va_D A [(re, .inr (7, [.ref rm, .ref rq, .int (nI (mt_c mb qc n))])), (rm, .inl (cA 2, 40, .inl (mk_A (ub_B mb n)))), (rq, .inl (cA 0, 40, .inl (tx_A (mt_q mb qf qc n))))] := by rw [ub_t hbn, mt_q, if_pos hbn, mt_c, if_pos hbn]; exact hD
    have hP9 : va_P G xk_cl [(re, .inr (7, [.ref rm, .ref rq, .int (nI (mt_c mb qc n))])), (rm, .inl (cA 2, 40, .inl (mk_A (ub_B mb n)))), (rq, .inl (cA 0, 40, .inl (tx_A (mt_q mb qf qc n))))] _ := hP.sub [0, 1, 2] rfl
    have hD9 : va_D A [(re, .inr (7, [.ref rm, .ref rq, .int (nI (mt_c mb qc n))])), (rm, .inl (cA 2, 40, .inl (mk_A (ub_B mb n)))), (rq, .inl (cA 0, 40, .inl (tx_A (mt_q mb qf qc n))))] := hD.sub [0, 1, 2] (by decide) rfl
    exact W.vret hx hb hr (fun T9 ht hW => ⟨⟨(), rfl, trivial, by rw [ht]; exact hP9, hD9⟩, hS.F ht⟩) hS.2.2 xd_Re_meet_62
  · refine lx_top (z := nI 0) (by rw [mk_A, if_neg hbn]) ?_
    refine lv_if_ne (tgt := 62) hx hb xd_Re_meet_13 (by decide) (fun c_13_4 => absurd (by decide) c_13_4) (fun c_13_4 => ?_)
    refine lv_aload_n hx hb xd_Re_meet_16 rfl (lv_at hl 0 rfl) ?_
    refine va_get (D := G) (ci := 7) (v := .int (nI qc)) (C := xc_Re) (T := xf_Re) (N := 3) hx hb hts xw_Re hown hK.1 hP 0 rfl rfl 2 (by decide) (hts _ xm_150) (fun _ h9 => h9) rfl xd_Re_meet_17 ?_
    refine lv_if_lt (tgt := 62) hx hb xd_Re_meet_20 (by decide) (fun c_20_5 => absurd c_20_5 (nI_pos (by have := ct_N_le mb 40; omega))) (fun c_20_5 => ?_)
    refine lv_aload_n hx hb xd_Re_meet_23 rfl (lv_at hl 0 rfl) ?_
    refine va_get (D := G) (ci := 7) (v := .int (nI qc)) (C := xc_Re) (T := xf_Re) (N := 3) hx hb hts xw_Re hown hK.1 hP 0 rfl rfl 2 (by decide) (hts _ xm_150) (fun _ h9 => h9) rfl xd_Re_meet_24 ?_
    refine lv_aload_n hx hb xd_Re_meet_27 rfl (lv_at hl 0 rfl) ?_
    refine va_get (D := G) (ci := 7) (v := .ref rq) (C := xc_Re) (T := xf_Re) (N := 3) hx hb hts xw_Re hown hK.1 hP 0 rfl rfl 1 (by decide) (hts _ xm_149) (fun _ h9 => h9) rfl xd_Re_meet_28 ?_
    refine va_alen hx hb hK.1 hP 2 0 rfl rfl (v := nI 40) rfl xd_Re_meet_31 ?_
    refine lv_icmp_ge (tgt := 62) hx hb xd_Re_meet_32 (by decide) (fun c_32_6 => absurd c_32_6 (nI_ge (by have := ct_lt hn (Bool.eq_false_iff.mpr hbn); omega) (by decide))) (fun c_32_6 => ?_)
    refine lv_aload_n hx hb xd_Re_meet_35 rfl (lv_at hl 0 rfl) ?_
    refine va_get (D := G) (ci := 7) (v := .ref rm) (C := xc_Re) (T := xf_Re) (N := 3) hx hb hts xw_Re hown hK.1 hP 0 rfl rfl 0 (by decide) (hts _ xm_148) (fun _ h9 => h9) rfl xd_Re_meet_36 ?_
    refine lv_iload_n hx hb xd_Re_meet_39 rfl (lv_at hl 1 rfl) ?_
    refine lv_iconst (v := nI 1) hx hb xd_Re_meet_40 (by decide) ?_
    refine wx_zast hx hb hK.1 hP hD hS 1 2 rfl rfl (k := n) (z := nI 1) (by decide) (by omega) (by decide) xd_Re_meet_41 (fun H locs hP hD hS => ?_)
    have hP : va_P G xk_cl [(re, .inr (7, [.ref rm, .ref rq, .int (nI qc)])), (rm, .inl (cA 2, 40, .inl (upd (mk_A mb) n (nI 1)))), (rq, .inl (cA 0, 40, .inl (tx_A qf)))] H := hP
    have hD : va_D A [(re, .inr (7, [.ref rm, .ref rq, .int (nI qc)])), (rm, .inl (cA 2, 40, .inl (upd (mk_A mb) n (nI 1)))), (rq, .inl (cA 0, 40, .inl (tx_A qf)))] := hD
    refine lv_aload_n hx hb xd_Re_meet_42 rfl (lv_at hl 0 rfl) ?_
    refine va_get (D := G) (ci := 7) (v := .ref rq) (C := xc_Re) (T := xf_Re) (N := 3) hx hb hts xw_Re hown hK.1 hP 0 rfl rfl 1 (by decide) (hts _ xm_149) (fun _ h9 => h9) rfl xd_Re_meet_43 ?_
    refine lv_aload_n hx hb xd_Re_meet_46 rfl (lv_at hl 0 rfl) ?_
    refine va_get (D := G) (ci := 7) (v := .int (nI qc)) (C := xc_Re) (T := xf_Re) (N := 3) hx hb hts xw_Re hown hK.1 hP 0 rfl rfl 2 (by decide) (hts _ xm_150) (fun _ h9 => h9) rfl xd_Re_meet_47 ?_
    refine lv_iload_n hx hb xd_Re_meet_50 rfl (lv_at hl 1 rfl) ?_
    refine wx_iast hx hb hK.1 hP hD hS 2 0 rfl rfl (k := qc) (z := nI n) (rfl) (by have := ct_lt hn (Bool.eq_false_iff.mpr hbn); omega) (by decide) xd_Re_meet_51 (fun H locs hP hD hS => ?_)
    have hP : va_P G xk_cl [(re, .inr (7, [.ref rm, .ref rq, .int (nI qc)])), (rm, .inl (cA 2, 40, .inl (upd (mk_A mb) n (nI 1)))), (rq, .inl (cA 0, 40, .inl (upd (tx_A qf) qc (nI n))))] H := hP
    have hD : va_D A [(re, .inr (7, [.ref rm, .ref rq, .int (nI qc)])), (rm, .inl (cA 2, 40, .inl (upd (mk_A mb) n (nI 1)))), (rq, .inl (cA 0, 40, .inl (upd (tx_A qf) qc (nI n))))] := hD
    refine lv_aload_n hx hb xd_Re_meet_52 rfl (lv_at hl 0 rfl) ?_
    refine lv_dup hx hb xd_Re_meet_53 rfl ?_
    refine va_get (D := G) (ci := 7) (v := .int (nI qc)) (C := xc_Re) (T := xf_Re) (N := 3) hx hb hts xw_Re hown hK.1 hP 0 rfl rfl 2 (by decide) (hts _ xm_150) (fun _ h9 => h9) rfl xd_Re_meet_54 ?_
    refine lv_iconst (v := nI 1) hx hb xd_Re_meet_57 (by decide) ?_
    refine lx_iadd (z := nI (qc + 1)) hx hb xd_Re_meet_58 (nI_add _ _) ?_
    refine va_put (D := G) (ci := 7) (v := .int (nI (qc + 1))) (ty := .int) (C := xc_Re) (T := xf_Re) (N := 3) hx hb hts xw_Re xt_Re xt_Re_ok xn_Re hown hK.1 hP hD hS 0 rfl rfl 2 (by decide) (hts _ xm_150) (fun _ h9 => h9) rfl (by decide +kernel) rfl rfl (Nat.le_of_ble_eq_true rfl) xd_Re_meet_59 (fun H locs hP hD hS => ?_)
    have hP : va_P G xk_cl [(re, .inr (7, [.ref rm, .ref rq, .int (nI (qc + 1))])), (rm, .inl (cA 2, 40, .inl (upd (mk_A mb) n (nI 1)))), (rq, .inl (cA 0, 40, .inl (upd (tx_A qf) qc (nI n))))] H := hP
    have hD : va_D A [(re, .inr (7, [.ref rm, .ref rq, .int (nI (qc + 1))])), (rm, .inl (cA 2, 40, .inl (upd (mk_A mb) n (nI 1)))), (rq, .inl (cA 0, 40, .inl (upd (tx_A qf) qc (nI n))))] := hD
    have hP : va_P G xk_cl [(re, .inr (7, [.ref rm, .ref rq, .int (nI (mt_c mb qc n))])), (rm, .inl (cA 2, 40, .inl (mk_A (ub_B mb n)))), (rq, .inl (cA 0, 40, .inl (tx_A (mt_q mb qf qc n))))] H := by rw [← mk_up, mt_q, if_neg hbn, mt_c, if_neg hbn, ← tx_up]; exact hP
    have hD : va_D A [(re, .inr (7, [.ref rm, .ref rq, .int (nI (mt_c mb qc n))])), (rm, .inl (cA 2, 40, .inl (mk_A (ub_B mb n)))), (rq, .inl (cA 0, 40, .inl (tx_A (mt_q mb qf qc n))))] := by rw [← mk_up, mt_q, if_neg hbn, mt_c, if_neg hbn, ← tx_up]; exact hD
    have hP9 : va_P G xk_cl [(re, .inr (7, [.ref rm, .ref rq, .int (nI (mt_c mb qc n))])), (rm, .inl (cA 2, 40, .inl (mk_A (ub_B mb n)))), (rq, .inl (cA 0, 40, .inl (tx_A (mt_q mb qf qc n))))] _ := hP.sub [0, 1, 2] rfl
    have hD9 : va_D A [(re, .inr (7, [.ref rm, .ref rq, .int (nI (mt_c mb qc n))])), (rm, .inl (cA 2, 40, .inl (mk_A (ub_B mb n)))), (rq, .inl (cA 0, 40, .inl (tx_A (mt_q mb qf qc n))))] := hD.sub [0, 1, 2] (by decide) rfl
    exact W.vret hx hb hr (fun T9 ht hW => ⟨⟨(), rfl, trivial, by rw [ht]; exact hP9, hD9⟩, hS.F ht⟩) hS.2.2 xd_Re_meet_62
