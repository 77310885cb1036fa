def mu_Q (sa kd vl st ce : Nat → Int32) (mm ml : Nat) (r : Int32) (sa2 kd2 vl2 : Nat → Int32) (mm2 ml2 mu2 : Nat) : Prop := mu2 ≤ 40 ∧
  ((mm = 0 ∧ r = -1 ∧ sa2 = sa ∧ kd2 = kd ∧ vl2 = vl ∧ mm2 = mm ∧ ml2 = ml) ∨
  (¬ mm = 0 ∧ (∀ s c, sh_R sa kd vl (2 + ml) s c → st_O s → sn_R sa2 kd2 vl2 s c ∧ r = nI (ct_N (un_B s c st ce) 40)) ∧ hs_S sa kd vl sa2 kd2 vl2 ∧ mm2 = mm - 1 ∧ ml2 = (ml + 15) % 16))
def ch_Q (uf : Nat → Nat) (mu : Nat) (x0 r th2 : Int32) : Prop := (∀ i, i < mu → x0 = nI i → r = nI (uf i) ∧ th2 = nI 0) ∧ ((x0 < 0 ∨ nI mu ≤ x0) → th2 = nI 1)
theorem ch_i {mu : Nat} {x0 : Int32} (h : ¬ (x0 < 0 ∨ nI mu ≤ x0)) (hm : mu < 2147483648) : ∃ i, i < mu ∧ x0 = nI i := by
  obtain ⟨j, hj, rfl⟩ := nI_of (fun z => h (Or.inl z))
  exact ⟨j, nI_gnl hm hj (fun z => h (Or.inr z)), rfl⟩
theorem ch_n {mu : Nat} {x0 : Int32} (hm : mu ≤ 40) (h : x0 < 0 ∨ nI mu ≤ x0) : in_R x0 (nI 0) (nI mu - nI 1) = nI 0 := by
  unfold in_R
  rw [if_neg]
  intro z
  rcases h with h | h
  · exact z.1 h
  · apply z.2
    rw [Int32.lt_iff_toInt_lt, pk_sub_toInt (by omega) (by decide)]
    rw [Int32.le_iff_toInt_le, nI_toInt (by omega)] at h
    omega
theorem ch_y {mu i : Nat} (hi : i < mu) (hm : mu ≤ 40) : in_R (nI i) (nI 0) (nI mu - nI 1) = nI 1 := by
  unfold in_R
  rw [if_pos]
  refine ⟨nI_nlt (Nat.zero_le _) (by omega), fun z => ?_⟩
  rw [Int32.lt_iff_toInt_lt, pk_sub_toInt (by omega) (by decide), nI_toInt (by omega)] at z
  omega
theorem ch_Y {uf : Nat → Nat} {mu i : Nat} {x0 r : Int32} (e : x0 = nI i) (hi : i < mu) (hm : mu ≤ 40) (hr : r = nI (uf i)) : ch_Q uf mu x0 r (nI 0) := by
  subst e
  refine ⟨fun j hj h => ?_, fun z => ?_⟩
  · rw [← nI_ge' (by omega) (by omega) h]; exact ⟨hr, rfl⟩
  · rcases z with z | z
    · exact absurd z (nI_pos (by omega))
    · exact absurd z (nI_ge hi (by omega))
theorem ch_N {uf : Nat → Nat} {mu : Nat} {x0 r : Int32} (hm : mu ≤ 40) (h : x0 < 0 ∨ nI mu ≤ x0) : ch_Q uf mu x0 r (nI 1) := by
  refine ⟨fun i hi e => ?_, fun _ => rfl⟩
  subst e
  rcases h with z | z
  · exact absurd z (nI_pos (by omega))
  · exact absurd z (nI_ge hi (by omega))
def kd_R (f : Int32 → Int32) (ce : Nat → Int32) (x0 x1 : Int32) (r th2 : Int32) : Prop := (∀ n k, n < 40 → k < 26 → x0 = nI n → x1 = nI k → r = f (ce (n * 26 + k)) ∧ th2 = nI 0) ∧ ((sp_ob x0 = 0 ∨ sp_ky x1 = 0) → th2 = nI 1)
theorem in_ob (x : Int32) : in_R x (nI 0) (nI 39) = sp_ob x := by
  unfold in_R sp_ob
  by_cases h : x < 0
  · rw [if_pos h, if_neg (fun z => z.1 h)]
  · rw [if_neg h]
    obtain ⟨j, hj, rfl⟩ := nI_of h
    by_cases q : nI 40 ≤ nI j
    · rw [if_pos q, if_neg (fun z => z.2 (nI_lt (by have := nI_gle (by decide) hj q; omega) hj))]
    · rw [if_neg q, if_pos ⟨h, nI_nlt (by have := nI_gnl (by decide) hj q; omega) (by decide)⟩]
theorem in_ky (x : Int32) : in_R x (nI 0) (nI 25) = sp_ky x := by
  unfold in_R sp_ky
  by_cases h : x < 0
  · rw [if_pos h, if_neg (fun z => z.1 h)]
  · rw [if_neg h]
    obtain ⟨j, hj, rfl⟩ := nI_of h
    by_cases q : nI 26 ≤ nI j
    · rw [if_pos q, if_neg (fun z => z.2 (nI_lt (by have := nI_gle (by decide) hj q; omega) hj))]
    · rw [if_neg q, if_pos ⟨h, nI_nlt (by have := nI_gnl (by decide) hj q; omega) (by decide)⟩]
theorem ob_01 {x : Int32} (h : ¬ sp_ob x = 0) : sp_ob x = nI 1 := by
  unfold sp_ob at h ⊢; split at h
  · exact absurd rfl h
  · split at h
    · exact absurd rfl h
    · rename_i h1 h2; rw [if_neg h1, if_neg h2]
theorem kd_y {f : Int32 → Int32} {ce : Nat → Int32} {n k : Nat} {r : Int32} (hn : n < 40) (hk : k < 26) (hr : r = f (ce (n * 26 + k))) : kd_R f ce (nI n) (nI k) r (nI 0) :=
  ⟨fun n2 k2 h1 h2 h3 h4 => by rw [nI_ge' (by omega) (by omega) h3, nI_ge' (by omega) (by omega) h4] at hr; exact ⟨hr, rfl⟩, fun z => by rcases z with z | z; exact absurd z (so_F hn); exact absurd z (sk_F9 hk)⟩
theorem kd_n {f : Int32 → Int32} {ce : Nat → Int32} {x0 x1 r : Int32} (h : sp_ob x0 = 0 ∨ sp_ky x1 = 0) : kd_R f ce x0 x1 r (nI 1) :=
  ⟨fun n k hn hk h1 h2 => by
    subst h1 h2
    rcases h with z | z
    · exact absurd z (so_F hn)
    · exact absurd z (sk_F9 hk), fun _ => rfl⟩
set_option maxHeartbeats 4000000 in
set_option maxRecDepth 100000 in
theorem ct_Mo_undo (l : Launch) (G : va_G) (cA : Nat → ClassId) (sz : Nat) (mo : Nat) (th : Int32) (ms : Nat) (mk : Nat) (mv : Nat) (mm : Nat) (ml : Nat) (cnt : Nat) (mt : Nat) (mp : Int32) (mn : Int32) (mu : Nat) (ma : Nat) (at_ : Nat) (bd : Int32) (le : Int32) (ob : Int32) (m1 : Nat) (m2 : Nat) (m3 : Nat) (m4 : Nat) (rn : Nat) (pw : Nat) (mc : Nat) (sa : Nat → Int32) (kd : Nat → Int32) (vl : Nat → Int32) (st : Nat → Int32) (ce : Nat → Int32) (hR : sn_R sa kd vl st ce) (hso : st_O st) (hmu : mu ≤ 40) (hlm : ml < 16) (hmm : mm ≤ 16) (uf : Nat → Nat) : Met l xy_Mo_undo (.code xy_Mo_undo xb_Mo_undo 1 (some .int) :: tw_W) ({ frames := 2, cells := 0, slots := 0, locals := 45 }) (pc_w G cA [(mo, .inr (8, [.int th, .ref ms, .ref mk, .ref mv, .int (nI mm), .int (nI ml), .int (nI cnt), .ref mt, .int mp, .int mn, .int (nI mu), .ref ma, .int (nI at_), .int bd, .int le, .int ob, .ref m1, .ref m2, .ref m3, .ref m4, .int (nI rn), .int (nI pw), .ref mc])), (ms, .inl (cA 0, 720, .inl sa)), (mk, .inl (cA 0, 18720, .inl kd)), (mv, .inl (cA 0, 18720, .inl vl)), (ma, .inl (cA 0, 40, .inl (tx_A uf)))] sz [.ref mo]) (va_Qi (fun (r : Int32) (u9 : Nat × Nat × Nat × (Nat → Nat) × (Nat → Int32) × (Nat → Int32) × (Nat → Int32)) => match u9 with | (mm2, ml2, mu2, uf2, sa2, kd2, vl2) => mu_Q sa kd vl st ce mm ml r sa2 kd2 vl2 mm2 ml2 mu2) (fun u9 T9 => match u9 with | (mm2, ml2, mu2, uf2, sa2, kd2, vl2) => at_w G (va_A [(mo, .inr (8, [.int th, .ref ms, .ref mk, .ref mv, .int (nI mm), .int (nI ml), .int (nI cnt), .ref mt, .int mp, .int mn, .int (nI mu), .ref ma, .int (nI at_), .int bd, .int le, .int ob, .ref m1, .ref m2, .ref m3, .ref m4, .int (nI rn), .int (nI pw), .ref mc])), (ms, .inl (cA 0, 720, .inl sa)), (mk, .inl (cA 0, 18720, .inl kd)), (mv, .inl (cA 0, 18720, .inl vl)), (ma, .inl (cA 0, 40, .inl (tx_A uf)))] sz) [(mo, .inr (8, [.int (nI 0), .ref ms, .ref mk, .ref mv, .int (nI mm2), .int (nI ml2), .int (nI cnt), .ref mt, .int mp, .int mn, .int (nI mu2), .ref ma, .int (nI at_), .int bd, .int le, .int ob, .ref m1, .ref m2, .ref m3, .ref m4, .int (nI rn), .int (nI pw), .ref mc])), (ms, .inl (cA 0, 720, .inl sa2)), (mk, .inl (cA 0, 18720, .inl kd2)), (mv, .inl (cA 0, 18720, .inl vl2)), (ma, .inl (cA 0, 40, .inl (tx_A uf2)))] T9) (va_A [(mo, .inr (8, [.int th, .ref ms, .ref mk, .ref mv, .int (nI mm), .int (nI ml), .int (nI cnt), .ref mt, .int mp, .int mn, .int (nI mu), .ref ma, .int (nI at_), .int bd, .int le, .int ob, .ref m1, .ref m2, .ref m3, .ref m4, .int (nI rn), .int (nI pw), .ref mc])), (ms, .inl (cA 0, 720, .inl sa)), (mk, .inl (cA 0, 18720, .inl kd)), (mv, .inl (cA 0, 18720, .inl vl)), (ma, .inl (cA 0, 40, .inl (tx_A uf)))] sz)) 0 0 (va_A [(mo, .inr (8, [.int th, .ref ms, .ref mk, .ref mv, .int (nI mm), .int (nI ml), .int (nI cnt), .ref mt, .int mp, .int mn, .int (nI mu), .ref ma, .int (nI at_), .int bd, .int le, .int ob, .ref m1, .ref m2, .ref m3, .ref m4, .int (nI rn), .int (nI pw), .ref mc])), (ms, .inl (cA 0, 720, .inl sa)), (mk, .inl (cA 0, 18720, .inl kd)), (mv, .inl (cA 0, 18720, .inl vl)), (ma, .inl (cA 0, 40, .inl (tx_A uf)))] sz) := by
  refine Met.ofW (cc := xb_Mo_undo) (maxL := 1) (ret := (some .int)) (by decide) rfl ?_
  intro p e s m args below meth c s₁ B hml hv
  obtain ⟨rfl, hsz, hK, hP, hD0⟩ := hv
  have hx := B.exec
  have hb := B.bytes
  have hr := B.returns
  have hts0 := atoms_spec (ws := .code xy_Mo_undo xb_Mo_undo 1 (some .int) :: tw_W) B.pre
  have hts : ∀ w9 ∈ tw_W, w9.before [.ref mo].toArray s = true := fun w9 h9 => hts0 w9 (List.mem_cons_of_mem _ h9)
  have hown : s.vm.findClass xc_Mo = some m.cls := findClass_of_methodNamed B.named
  have hlocks := B.notSynchronized
  subst hsz
  have hD := hD0.self (sz := s.heap.size)
  generalize hAe : va_A [(mo, .inr (8, [.int th, .ref ms, .ref mk, .ref mv, .int (nI mm), .int (nI ml), .int (nI cnt), .ref mt, .int mp, .int mn, .int (nI mu), .ref ma, .int (nI at_), .int bd, .int le, .int ob, .ref m1, .ref m2, .ref m3, .ref m4, .int (nI rn), .int (nI pw), .ref mc])), (ms, .inl (cA 0, 720, .inl sa)), (mk, .inl (cA 0, 18720, .inl kd)), (mv, .inl (cA 0, 18720, .inl vl)), (ma, .inl (cA 0, 40, .inl (tx_A uf)))] s.heap.size = A at hD ⊢
  have hA : ∀ q : Nat, s.heap.size ≤ q → A q := fun q h => by rw [← hAe]; exact Or.inr h
  have hS : va_S A s.heap s.heap [] := va_S.rf
  have hP : va_P G xk_cl [(mo, .inr (8, [.int th, .ref ms, .ref mk, .ref mv, .int (nI mm), .int (nI ml), .int (nI cnt), .ref mt, .int mp, .int mn, .int (nI mu), .ref ma, .int (nI at_), .int bd, .int le, .int ob, .ref m1, .ref m2, .ref m3, .ref m4, .int (nI rn), .int (nI pw), .ref mc])), (ms, .inl (cA 0, 720, .inl sa)), (mk, .inl (cA 0, 18720, .inl kd)), (mv, .inl (cA 0, 18720, .inl vl)), (ma, .inl (cA 0, 40, .inl (tx_A uf)))] s.heap := hP
  have hl := lv_entry ([.ref mo]) (n := 1) (Nat.le_of_ble_eq_true rfl)
  rw [lg_entry_eq]
  generalize (lg_sl ([.ref mo]) ++ List.replicate (1 - (lg_sl ([.ref mo])).length) Slot.unset).toArray = ls at hl ⊢
  have hl : lv_has ls 1 [(0, .ref mo)] := hl
  refine lv_aload_n hx hb xd_Mo_undo_0 rfl (lv_at hl 0 rfl) ?_
  refine lv_iconst (v := nI 0) hx hb xd_Mo_undo_1 (by decide) ?_
  refine va_put (D := G) (ci := 8) (v := .int (nI 0)) (ty := .int) (C := xc_Mo) (T := xf_Mo) (N := 23) hx hb hts xw_Mo xt_Mo xt_Mo_ok xn_Mo hown hK.1 hP hD hS 0 rfl rfl 0 (by decide) (hts _ xm_619) (fun _ h9 => h9) rfl (by decide +kernel) rfl rfl (Nat.le_of_ble_eq_true rfl) xd_Mo_undo_2 (fun H locs hP hD hS => ?_)
  have hP : va_P G xk_cl [(mo, .inr (8, [.int (nI 0), .ref ms, .ref mk, .ref mv, .int (nI mm), .int (nI ml), .int (nI cnt), .ref mt, .int mp, .int mn, .int (nI mu), .ref ma, .int (nI at_), .int bd, .int le, .int ob, .ref m1, .ref m2, .ref m3, .ref m4, .int (nI rn), .int (nI pw), .ref mc])), (ms, .inl (cA 0, 720, .inl sa)), (mk, .inl (cA 0, 18720, .inl kd)), (mv, .inl (cA 0, 18720, .inl vl)), (ma, .inl (cA 0, 40, .inl (tx_A uf)))] H := hP
  have hD : va_D A [(mo, .inr (8, [.int (nI 0), .ref ms, .ref mk, .ref mv, .int (nI mm), .int (nI ml), .int (nI cnt), .ref mt, .int mp, .int mn, .int (nI mu), .ref ma, .int (nI at_), .int bd, .int le, .int ob, .ref m1, .ref m2, .ref m3, .ref m4, .int (nI rn), .int (nI pw), .ref mc])), (ms, .inl (cA 0, 720, .inl sa)), (mk, .inl (cA 0, 18720, .inl kd)), (mv, .inl (cA 0, 18720, .inl vl)), (ma, .inl (cA 0, 40, .inl (tx_A uf)))] := hD
  refine lv_aload_n hx hb xd_Mo_undo_5 rfl (lv_at hl 0 rfl) ?_
  refine va_get (D := G) (ci := 8) (v := .int (nI mm)) (C := xc_Mo) (T := xf_Mo) (N := 23) hx hb hts xw_Mo hown hK.1 hP 0 rfl rfl 4 (by decide) (hts _ xm_623) (fun _ h9 => h9) rfl xd_Mo_undo_6 ?_
  refine lv_if_ne (tgt := 14) hx hb xd_Mo_undo_9 (by decide) (fun c_9_0 => ?_) (fun c_9_0 => ?_)
  · have q_m : ¬ mm = 0 := fun z => c_9_0 (by rw [z]; rfl)
    refine lv_aload_n hx hb xd_Mo_undo_14 rfl (lv_at hl 0 rfl) ?_
    refine lv_iconst (v := nI 0) hx hb xd_Mo_undo_15 (by decide) ?_
    refine lv_iconst (v := nI 1) hx hb xd_Mo_undo_16 (by decide) ?_
    have hPc := hP.sub (ws' := [(mo, .inr (8, [.int (nI 0), .ref ms, .ref mk, .ref mv, .int (nI mm), .int (nI ml), .int (nI cnt), .ref mt, .int mp, .int mn, .int (nI mu), .ref ma, .int (nI at_), .int bd, .int le, .int ob, .ref m1, .ref m2, .ref m3, .ref m4, .int (nI rn), .int (nI pw), .ref mc])), (ms, .inl (cA 0, 720, .inl sa)), (mk, .inl (cA 0, 18720, .inl kd)), (mv, .inl (cA 0, 18720, .inl vl))]) [0, 1, 2, 3] rfl
    have hDc := hD.sub (ws' := [(mo, .inr (8, [.int (nI 0), .ref ms, .ref mk, .ref mv, .int (nI mm), .int (nI ml), .int (nI cnt), .ref mt, .int mp, .int mn, .int (nI mu), .ref ma, .int (nI at_), .int bd, .int le, .int ob, .ref m1, .ref m2, .ref m3, .ref m4, .int (nI rn), .int (nI pw), .ref mc])), (ms, .inl (cA 0, 720, .inl sa)), (mk, .inl (cA 0, 18720, .inl kd)), (mv, .inl (cA 0, 18720, .inl vl))]) [0, 1, 2, 3] (by decide) rfl
    have hFc := va_free (wc := [(mo, .inr (8, [.int (nI 0), .ref ms, .ref mk, .ref mv, .int (nI mm), .int (nI ml), .int (nI cnt), .ref mt, .int mp, .int mn, .int (nI mu), .ref ma, .int (nI at_), .int bd, .int le, .int ob, .ref m1, .ref m2, .ref m3, .ref m4, .int (nI rn), .int (nI pw), .ref mc])), (ms, .inl (cA 0, 720, .inl sa)), (mk, .inl (cA 0, 18720, .inl kd)), (mv, .inl (cA 0, 18720, .inl vl))]) hD hS hA [0, 1, 2, 3] rfl
    refine va_callv (va_runV (As := [.int (nI 0), .int (nI 1)]) (rest := []) ⟨hx, hb, hml, hown, hts⟩ (ct_Mo_copy l G cA H.size mo (nI 0) ms mk mv mm ml cnt mt mp mn mu ma at_ bd le ob m1 m2 m3 m4 rn pw mc sa kd vl 0 1 (by omega) (by omega) (by decide)) (cwV 2 hts (gi_v xm_704 xm_706 xs_Mo_copy xm_9 xm_707) rfl rfl rfl ⟨rfl, xh_Mo_copy⟩ ⟨Nat.le_of_ble_eq_true rfl, Nat.le_of_ble_eq_true rfl⟩) (pv_w hK hPc hDc (ci := 8) (q0 := 0) rfl rfl) rfl rfl hl.1 rfl (lv_room (Nat.le_of_ble_eq_true rfl)) xd_Mo_undo_17 ⟨Nat.le_of_ble_eq_true rfl, Nat.le_of_ble_eq_true rfl⟩) hS (fun q _ h => hFc q h) hFc (fun u9 t9 H1 locs ht hvm q_3 hB hz1 hk1 hS => ?_)
    obtain ⟨hP1, hD1⟩ := hB
    rw [ht] at hP1
    obtain ⟨hP, hD⟩ := va_join (wr := [(ma, .inl (cA 0, 40, .inl (tx_A uf)))]) (w1 := [(mo, .inr (8, [.int (nI 0), .ref ms, .ref mk, .ref mv, .int (nI mm), .int (nI ml), .int (nI cnt), .ref mt, .int mp, .int mn, .int (nI mu), .ref ma, .int (nI at_), .int bd, .int le, .int ob, .ref m1, .ref m2, .ref m3, .ref m4, .int (nI rn), .int (nI pw), .ref mc])), (ms, .inl (cA 0, 720, .inl (cp_A 40 0 1 sa 40))), (mk, .inl (cA 0, 18720, .inl (cp_A 1040 0 1 kd 1040))), (mv, .inl (cA 0, 18720, .inl (cp_A 1040 0 1 vl 1040)))]) hP hD [0, 1, 2, 3] [4] rfl rfl (by decide) (by decide) hk1 hFc hP1 hD1
    generalize H1 = H at hP hS ⊢
    have hP : va_P G xk_cl [(ma, .inl (cA 0, 40, .inl (tx_A uf))), (mo, .inr (8, [.int (nI 0), .ref ms, .ref mk, .ref mv, .int (nI mm), .int (nI ml), .int (nI cnt), .ref mt, .int mp, .int mn, .int (nI mu), .ref ma, .int (nI at_), .int bd, .int le, .int ob, .ref m1, .ref m2, .ref m3, .ref m4, .int (nI rn), .int (nI pw), .ref mc])), (ms, .inl (cA 0, 720, .inl (cp_A 40 0 1 sa 40))), (mk, .inl (cA 0, 18720, .inl (cp_A 1040 0 1 kd 1040))), (mv, .inl (cA 0, 18720, .inl (cp_A 1040 0 1 vl 1040)))] H := hP
    have hD : va_D A [(ma, .inl (cA 0, 40, .inl (tx_A uf))), (mo, .inr (8, [.int (nI 0), .ref ms, .ref mk, .ref mv, .int (nI mm), .int (nI ml), .int (nI cnt), .ref mt, .int mp, .int mn, .int (nI mu), .ref ma, .int (nI at_), .int bd, .int le, .int ob, .ref m1, .ref m2, .ref m3, .ref m4, .int (nI rn), .int (nI pw), .ref mc])), (ms, .inl (cA 0, 720, .inl (cp_A 40 0 1 sa 40))), (mk, .inl (cA 0, 18720, .inl (cp_A 1040 0 1 kd 1040))), (mv, .inl (cA 0, 18720, .inl (cp_A 1040 0 1 vl 1040)))] := hD
    refine lv_aload_n hx hb xd_Mo_undo_20 rfl (lv_at hl 0 rfl) ?_
    refine lv_iconst (v := nI 2) hx hb xd_Mo_undo_21 (by decide) ?_
    refine lv_aload_n hx hb xd_Mo_undo_22 rfl (lv_at hl 0 rfl) ?_
    refine va_get (D := G) (ci := 8) (v := .int (nI ml)) (C := xc_Mo) (T := xf_Mo) (N := 23) hx hb hts xw_Mo hown hK.1 hP 1 rfl rfl 5 (by decide) (hts _ xm_624) (fun _ h9 => h9) rfl xd_Mo_undo_23 ?_
    refine lx_iadd (z := nI (2 + ml)) hx hb xd_Mo_undo_26 (nI_add _ _) ?_
    refine lv_iconst (v := nI 0) hx hb xd_Mo_undo_27 (by decide) ?_
    have hPc := hP.sub (ws' := [(mo, .inr (8, [.int (nI 0), .ref ms, .ref mk, .ref mv, .int (nI mm), .int (nI ml), .int (nI cnt), .ref mt, .int mp, .int mn, .int (nI mu), .ref ma, .int (nI at_), .int bd, .int le, .int ob, .ref m1, .ref m2, .ref m3, .ref m4, .int (nI rn), .int (nI pw), .ref mc])), (ms, .inl (cA 0, 720, .inl (cp_A 40 0 1 sa 40))), (mk, .inl (cA 0, 18720, .inl (cp_A 1040 0 1 kd 1040))), (mv, .inl (cA 0, 18720, .inl (cp_A 1040 0 1 vl 1040)))]) [1, 2, 3, 4] rfl
    have hDc := hD.sub (ws' := [(mo, .inr (8, [.int (nI 0), .ref ms, .ref mk, .ref mv, .int (nI mm), .int (nI ml), .int (nI cnt), .ref mt, .int mp, .int mn, .int (nI mu), .ref ma, .int (nI at_), .int bd, .int le, .int ob, .ref m1, .ref m2, .ref m3, .ref m4, .int (nI rn), .int (nI pw), .ref mc])), (ms, .inl (cA 0, 720, .inl (cp_A 40 0 1 sa 40))), (mk, .inl (cA 0, 18720, .inl (cp_A 1040 0 1 kd 1040))), (mv, .inl (cA 0, 18720, .inl (cp_A 1040 0 1 vl 1040)))]) [1, 2, 3, 4] (by decide) rfl
    have hFc := va_free (wc := [(mo, .inr (8, [.int (nI 0), .ref ms, .ref mk, .ref mv, .int (nI mm), .int (nI ml), .int (nI cnt), .ref mt, .int mp, .int mn, .int (nI mu), .ref ma, .int (nI at_), .int bd, .int le, .int ob, .ref m1, .ref m2, .ref m3, .ref m4, .int (nI rn), .int (nI pw), .ref mc])), (ms, .inl (cA 0, 720, .inl (cp_A 40 0 1 sa 40))), (mk, .inl (cA 0, 18720, .inl (cp_A 1040 0 1 kd 1040))), (mv, .inl (cA 0, 18720, .inl (cp_A 1040 0 1 vl 1040)))]) hD hS hA [1, 2, 3, 4] rfl
    refine va_callv (va_runV (As := [.int (nI (2 + ml)), .int (nI 0)]) (rest := []) ⟨hx, hb, hml, hown, hts⟩ (ct_Mo_copy l G cA H.size mo (nI 0) ms mk mv mm ml cnt mt mp mn mu ma at_ bd le ob m1 m2 m3 m4 rn pw mc (cp_A 40 0 1 sa 40) (cp_A 1040 0 1 kd 1040) (cp_A 1040 0 1 vl 1040) (2 + ml) 0 (by omega) (by omega) (by omega)) (cwV 2 hts (gi_v xm_704 xm_706 xs_Mo_copy xm_9 xm_707) rfl rfl rfl ⟨rfl, xh_Mo_copy⟩ ⟨Nat.le_of_ble_eq_true rfl, Nat.le_of_ble_eq_true rfl⟩) (pv_w hK hPc hDc (ci := 8) (q0 := 0) rfl rfl) rfl rfl hl.1 rfl (lv_room (Nat.le_of_ble_eq_true rfl)) xd_Mo_undo_28 ⟨Nat.le_of_ble_eq_true rfl, Nat.le_of_ble_eq_true rfl⟩) hS (fun q _ h => hFc q h) hFc (fun u9 t9 H1 locs ht hvm q_5 hB hz1 hk1 hS => ?_)
    obtain ⟨hP1, hD1⟩ := hB
    rw [ht] at hP1
    obtain ⟨hP, hD⟩ := va_join (wr := [(ma, .inl (cA 0, 40, .inl (tx_A uf)))]) (w1 := [(mo, .inr (8, [.int (nI 0), .ref ms, .ref mk, .ref mv, .int (nI mm), .int (nI ml), .int (nI cnt), .ref mt, .int mp, .int mn, .int (nI mu), .ref ma, .int (nI at_), .int bd, .int le, .int ob, .ref m1, .ref m2, .ref m3, .ref m4, .int (nI rn), .int (nI pw), .ref mc])), (ms, .inl (cA 0, 720, .inl (cp_A 40 (2 + ml) 0 (cp_A 40 0 1 sa 40) 40))), (mk, .inl (cA 0, 18720, .inl (cp_A 1040 (2 + ml) 0 (cp_A 1040 0 1 kd 1040) 1040))), (mv, .inl (cA 0, 18720, .inl (cp_A 1040 (2 + ml) 0 (cp_A 1040 0 1 vl 1040) 1040)))]) hP hD [1, 2, 3, 4] [0] rfl rfl (by decide) (by decide) hk1 hFc hP1 hD1
    generalize H1 = H at hP hS ⊢
    have hP : va_P G xk_cl [(ma, .inl (cA 0, 40, .inl (tx_A uf))), (mo, .inr (8, [.int (nI 0), .ref ms, .ref mk, .ref mv, .int (nI mm), .int (nI ml), .int (nI cnt), .ref mt, .int mp, .int mn, .int (nI mu), .ref ma, .int (nI at_), .int bd, .int le, .int ob, .ref m1, .ref m2, .ref m3, .ref m4, .int (nI rn), .int (nI pw), .ref mc])), (ms, .inl (cA 0, 720, .inl (cp_A 40 (2 + ml) 0 (cp_A 40 0 1 sa 40) 40))), (mk, .inl (cA 0, 18720, .inl (cp_A 1040 (2 + ml) 0 (cp_A 1040 0 1 kd 1040) 1040))), (mv, .inl (cA 0, 18720, .inl (cp_A 1040 (2 + ml) 0 (cp_A 1040 0 1 vl 1040) 1040)))] H := hP
    have hD : va_D A [(ma, .inl (cA 0, 40, .inl (tx_A uf))), (mo, .inr (8, [.int (nI 0), .ref ms, .ref mk, .ref mv, .int (nI mm), .int (nI ml), .int (nI cnt), .ref mt, .int mp, .int mn, .int (nI mu), .ref ma, .int (nI at_), .int bd, .int le, .int ob, .ref m1, .ref m2, .ref m3, .ref m4, .int (nI rn), .int (nI pw), .ref mc])), (ms, .inl (cA 0, 720, .inl (cp_A 40 (2 + ml) 0 (cp_A 40 0 1 sa 40) 40))), (mk, .inl (cA 0, 18720, .inl (cp_A 1040 (2 + ml) 0 (cp_A 1040 0 1 kd 1040) 1040))), (mv, .inl (cA 0, 18720, .inl (cp_A 1040 (2 + ml) 0 (cp_A 1040 0 1 vl 1040) 1040)))] := hD
    refine lv_aload_n hx hb xd_Mo_undo_31 rfl (lv_at hl 0 rfl) ?_
    refine lv_aload_n hx hb xd_Mo_undo_32 rfl (lv_at hl 0 rfl) ?_
    refine va_get (D := G) (ci := 8) (v := .int (nI ml)) (C := xc_Mo) (T := xf_Mo) (N := 23) hx hb hts xw_Mo hown hK.1 hP 1 rfl rfl 5 (by decide) (hts _ xm_624) (fun _ h9 => h9) rfl xd_Mo_undo_33 ?_
    refine lv_bipush (v := nI 16) hx hb xd_Mo_undo_36 (by decide) ?_
    refine lx_iadd (z := nI (ml + 16)) hx hb xd_Mo_undo_38 (nI_add _ _) ?_
    refine lv_iconst (v := nI 1) hx hb xd_Mo_undo_39 (by decide) ?_
    refine lx_isub (z := nI (ml + 15)) hx hb xd_Mo_undo_40 (by rw [pk_sub (by omega)]; rfl) ?_
    refine lv_bipush (v := nI 16) hx hb xd_Mo_undo_41 (by decide) ?_
    refine lx_irem (z := nI ((ml + 15) % 16)) hx hb xd_Mo_undo_43 (by decide) (pk_rem (by omega) (by omega) (by omega)) ?_
    refine va_put (D := G) (ci := 8) (v := .int (nI ((ml + 15) % 16))) (ty := .int) (C := xc_Mo) (T := xf_Mo) (N := 23) hx hb hts xw_Mo xt_Mo xt_Mo_ok xn_Mo hown hK.1 hP hD hS 1 rfl rfl 5 (by decide) (hts _ xm_624) (fun _ h9 => h9) rfl (by decide +kernel) rfl rfl (Nat.le_of_ble_eq_true rfl) xd_Mo_undo_44 (fun H locs hP hD hS => ?_)
    have hP : va_P G xk_cl [(ma, .inl (cA 0, 40, .inl (tx_A uf))), (mo, .inr (8, [.int (nI 0), .ref ms, .ref mk, .ref mv, .int (nI mm), .int (nI ((ml + 15) % 16)), .int (nI cnt), .ref mt, .int mp, .int mn, .int (nI mu), .ref ma, .int (nI at_), .int bd, .int le, .int ob, .ref m1, .ref m2, .ref m3, .ref m4, .int (nI rn), .int (nI pw), .ref mc])), (ms, .inl (cA 0, 720, .inl (cp_A 40 (2 + ml) 0 (cp_A 40 0 1 sa 40) 40))), (mk, .inl (cA 0, 18720, .inl (cp_A 1040 (2 + ml) 0 (cp_A 1040 0 1 kd 1040) 1040))), (mv, .inl (cA 0, 18720, .inl (cp_A 1040 (2 + ml) 0 (cp_A 1040 0 1 vl 1040) 1040)))] H := hP
    have hD : va_D A [(ma, .inl (cA 0, 40, .inl (tx_A uf))), (mo, .inr (8, [.int (nI 0), .ref ms, .ref mk, .ref mv, .int (nI mm), .int (nI ((ml + 15) % 16)), .int (nI cnt), .ref mt, .int mp, .int mn, .int (nI mu), .ref ma, .int (nI at_), .int bd, .int le, .int ob, .ref m1, .ref m2, .ref m3, .ref m4, .int (nI rn), .int (nI pw), .ref mc])), (ms, .inl (cA 0, 720, .inl (cp_A 40 (2 + ml) 0 (cp_A 40 0 1 sa 40) 40))), (mk, .inl (cA 0, 18720, .inl (cp_A 1040 (2 + ml) 0 (cp_A 1040 0 1 kd 1040) 1040))), (mv, .inl (cA 0, 18720, .inl (cp_A 1040 (2 + ml) 0 (cp_A 1040 0 1 vl 1040) 1040)))] := hD
    refine lv_aload_n hx hb xd_Mo_undo_47 rfl (lv_at hl 0 rfl) ?_
    refine lv_dup hx hb xd_Mo_undo_48 rfl ?_
    refine va_get (D := G) (ci := 8) (v := .int (nI mm)) (C := xc_Mo) (T := xf_Mo) (N := 23) hx hb hts xw_Mo hown hK.1 hP 1 rfl rfl 4 (by decide) (hts _ xm_623) (fun _ h9 => h9) rfl xd_Mo_undo_49 ?_
    refine lv_iconst (v := nI 1) hx hb xd_Mo_undo_52 (by decide) ?_
    refine lx_isub (z := nI (mm - 1)) hx hb xd_Mo_undo_53 (by rw [pk_sub (by omega)]) ?_
    refine va_put (D := G) (ci := 8) (v := .int (nI (mm - 1))) (ty := .int) (C := xc_Mo) (T := xf_Mo) (N := 23) hx hb hts xw_Mo xt_Mo xt_Mo_ok xn_Mo hown hK.1 hP hD hS 1 rfl rfl 4 (by decide) (hts _ xm_623) (fun _ h9 => h9) rfl (by decide +kernel) rfl rfl (Nat.le_of_ble_eq_true rfl) xd_Mo_undo_54 (fun H locs hP hD hS => ?_)
    have hP : va_P G xk_cl [(ma, .inl (cA 0, 40, .inl (tx_A uf))), (mo, .inr (8, [.int (nI 0), .ref ms, .ref mk, .ref mv, .int (nI (mm - 1)), .int (nI ((ml + 15) % 16)), .int (nI cnt), .ref mt, .int mp, .int mn, .int (nI mu), .ref ma, .int (nI at_), .int bd, .int le, .int ob, .ref m1, .ref m2, .ref m3, .ref m4, .int (nI rn), .int (nI pw), .ref mc])), (ms, .inl (cA 0, 720, .inl (cp_A 40 (2 + ml) 0 (cp_A 40 0 1 sa 40) 40))), (mk, .inl (cA 0, 18720, .inl (cp_A 1040 (2 + ml) 0 (cp_A 1040 0 1 kd 1040) 1040))), (mv, .inl (cA 0, 18720, .inl (cp_A 1040 (2 + ml) 0 (cp_A 1040 0 1 vl 1040) 1040)))] H := hP
    have hD : va_D A [(ma, .inl (cA 0, 40, .inl (tx_A uf))), (mo, .inr (8, [.int (nI 0), .ref ms, .ref mk, .ref mv, .int (nI (mm - 1)), .int (nI ((ml + 15) % 16)), .int (nI cnt), .ref mt, .int mp, .int mn, .int (nI mu), .ref ma, .int (nI at_), .int bd, .int le, .int ob, .ref m1, .ref m2, .ref m3, .ref m4, .int (nI rn), .int (nI pw), .ref mc])), (ms, .inl (cA 0, 720, .inl (cp_A 40 (2 + ml) 0 (cp_A 40 0 1 sa 40) 40))), (mk, .inl (cA 0, 18720, .inl (cp_A 1040 (2 + ml) 0 (cp_A 1040 0 1 kd 1040) 1040))), (mv, .inl (cA 0, 18720, .inl (cp_A 1040 (2 + ml) 0 (cp_A 1040 0 1 vl 1040) 1040)))] := hD
    refine lv_aload_n hx hb xd_Mo_undo_57 rfl (lv_at hl 0 rfl) ?_
    have hPc := hP.sub (ws' := [(mo, .inr (8, [.int (nI 0), .ref ms, .ref mk, .ref mv, .int (nI (mm - 1)), .int (nI ((ml + 15) % 16)), .int (nI cnt), .ref mt, .int mp, .int mn, .int (nI mu), .ref ma, .int (nI at_), .int bd, .int le, .int ob, .ref m1, .ref m2, .ref m3, .ref m4, .int (nI rn), .int (nI pw), .ref mc])), (ms, .inl (cA 0, 720, .inl (cp_A 40 (2 + ml) 0 (cp_A 40 0 1 sa 40) 40))), (mk, .inl (cA 0, 18720, .inl (cp_A 1040 (2 + ml) 0 (cp_A 1040 0 1 kd 1040) 1040))), (mv, .inl (cA 0, 18720, .inl (cp_A 1040 (2 + ml) 0 (cp_A 1040 0 1 vl 1040) 1040))), (ma, .inl (cA 0, 40, .inl (tx_A uf)))]) [1, 2, 3, 4, 0] rfl
    have hDc := hD.sub (ws' := [(mo, .inr (8, [.int (nI 0), .ref ms, .ref mk, .ref mv, .int (nI (mm - 1)), .int (nI ((ml + 15) % 16)), .int (nI cnt), .ref mt, .int mp, .int mn, .int (nI mu), .ref ma, .int (nI at_), .int bd, .int le, .int ob, .ref m1, .ref m2, .ref m3, .ref m4, .int (nI rn), .int (nI pw), .ref mc])), (ms, .inl (cA 0, 720, .inl (cp_A 40 (2 + ml) 0 (cp_A 40 0 1 sa 40) 40))), (mk, .inl (cA 0, 18720, .inl (cp_A 1040 (2 + ml) 0 (cp_A 1040 0 1 kd 1040) 1040))), (mv, .inl (cA 0, 18720, .inl (cp_A 1040 (2 + ml) 0 (cp_A 1040 0 1 vl 1040) 1040))), (ma, .inl (cA 0, 40, .inl (tx_A uf)))]) [1, 2, 3, 4, 0] (by decide) rfl
    have hFc := va_free (wc := [(mo, .inr (8, [.int (nI 0), .ref ms, .ref mk, .ref mv, .int (nI (mm - 1)), .int (nI ((ml + 15) % 16)), .int (nI cnt), .ref mt, .int mp, .int mn, .int (nI mu), .ref ma, .int (nI at_), .int bd, .int le, .int ob, .ref m1, .ref m2, .ref m3, .ref m4, .int (nI rn), .int (nI pw), .ref mc])), (ms, .inl (cA 0, 720, .inl (cp_A 40 (2 + ml) 0 (cp_A 40 0 1 sa 40) 40))), (mk, .inl (cA 0, 18720, .inl (cp_A 1040 (2 + ml) 0 (cp_A 1040 0 1 kd 1040) 1040))), (mv, .inl (cA 0, 18720, .inl (cp_A 1040 (2 + ml) 0 (cp_A 1040 0 1 vl 1040) 1040))), (ma, .inl (cA 0, 40, .inl (tx_A uf)))]) hD hS hA [1, 2, 3, 4, 0] rfl
    refine va_calli (va_runV (As := []) (rest := []) ⟨hx, hb, hml, hown, hts⟩ (ct_Mo_noteUnlike l G cA H.size mo (nI 0) ms mk mv (mm - 1) ((ml + 15) % 16) cnt mt mp mn mu ma at_ bd le ob m1 m2 m3 m4 rn pw mc (cp_A 40 (2 + ml) 0 (cp_A 40 0 1 sa 40) 40) (cp_A 1040 (2 + ml) 0 (cp_A 1040 0 1 kd 1040) 1040) (cp_A 1040 (2 + ml) 0 (cp_A 1040 0 1 vl 1040) 1040) uf) (cwV 0 hts (gi_v xm_767 xm_769 xs_Mo_noteUnlike xm_9 xm_770) rfl rfl rfl ⟨rfl, xh_Mo_noteUnlike⟩ ⟨Nat.le_of_ble_eq_true rfl, Nat.le_of_ble_eq_true rfl⟩) (pv_w hK hPc hDc (ci := 8) (q0 := 0) rfl rfl) rfl rfl hl.1 rfl (lv_room (Nat.le_of_ble_eq_true rfl)) xd_Mo_undo_58 ⟨Nat.le_of_ble_eq_true rfl, Nat.le_of_ble_eq_true rfl⟩) hS (fun q _ h => hFc q h) hFc (fun r_6 u9 t9 H1 locs ht hvm q_7 hB hz1 hk1 hS => ?_)
    obtain ⟨hP1, hD1⟩ := hB
    rw [ht] at hP1
    obtain ⟨hP, hD⟩ := va_join (wr := []) (w1 := [(mo, .inr (8, [.int (nI 0), .ref ms, .ref mk, .ref mv, .int (nI (mm - 1)), .int (nI ((ml + 15) % 16)), .int (nI cnt), .ref mt, .int mp, .int mn, .int (nI (ct_N (mu_B (cp_A 40 (2 + ml) 0 (cp_A 40 0 1 sa 40) 40) (cp_A 1040 (2 + ml) 0 (cp_A 1040 0 1 kd 1040) 1040) (cp_A 1040 (2 + ml) 0 (cp_A 1040 0 1 vl 1040) 1040) 1) 40)), .ref ma, .int (nI at_), .int bd, .int le, .int ob, .ref m1, .ref m2, .ref m3, .ref m4, .int (nI rn), .int (nI pw), .ref mc])), (ms, .inl (cA 0, 720, .inl (cp_A 40 (2 + ml) 0 (cp_A 40 0 1 sa 40) 40))), (mk, .inl (cA 0, 18720, .inl (cp_A 1040 (2 + ml) 0 (cp_A 1040 0 1 kd 1040) 1040))), (mv, .inl (cA 0, 18720, .inl (cp_A 1040 (2 + ml) 0 (cp_A 1040 0 1 vl 1040) 1040))), (ma, .inl (cA 0, 40, .inl (tx_A (ul_F (mu_B (cp_A 40 (2 + ml) 0 (cp_A 40 0 1 sa 40) 40) (cp_A 1040 (2 + ml) 0 (cp_A 1040 0 1 kd 1040) 1040) (cp_A 1040 (2 + ml) 0 (cp_A 1040 0 1 vl 1040) 1040) 1) uf 40))))]) hP hD [1, 2, 3, 4, 0] [] rfl rfl (by decide) (by decide) hk1 hFc hP1 hD1
    generalize H1 = H at hP hS ⊢
    have hP : va_P G xk_cl [(mo, .inr (8, [.int (nI 0), .ref ms, .ref mk, .ref mv, .int (nI (mm - 1)), .int (nI ((ml + 15) % 16)), .int (nI cnt), .ref mt, .int mp, .int mn, .int (nI (ct_N (mu_B (cp_A 40 (2 + ml) 0 (cp_A 40 0 1 sa 40) 40) (cp_A 1040 (2 + ml) 0 (cp_A 1040 0 1 kd 1040) 1040) (cp_A 1040 (2 + ml) 0 (cp_A 1040 0 1 vl 1040) 1040) 1) 40)), .ref ma, .int (nI at_), .int bd, .int le, .int ob, .ref m1, .ref m2, .ref m3, .ref m4, .int (nI rn), .int (nI pw), .ref mc])), (ms, .inl (cA 0, 720, .inl (cp_A 40 (2 + ml) 0 (cp_A 40 0 1 sa 40) 40))), (mk, .inl (cA 0, 18720, .inl (cp_A 1040 (2 + ml) 0 (cp_A 1040 0 1 kd 1040) 1040))), (mv, .inl (cA 0, 18720, .inl (cp_A 1040 (2 + ml) 0 (cp_A 1040 0 1 vl 1040) 1040))), (ma, .inl (cA 0, 40, .inl (tx_A (ul_F (mu_B (cp_A 40 (2 + ml) 0 (cp_A 40 0 1 sa 40) 40) (cp_A 1040 (2 + ml) 0 (cp_A 1040 0 1 kd 1040) 1040) (cp_A 1040 (2 + ml) 0 (cp_A 1040 0 1 vl 1040) 1040) 1) uf 40))))] H := hP
    have hD : va_D A [(mo, .inr (8, [.int (nI 0), .ref ms, .ref mk, .ref mv, .int (nI (mm - 1)), .int (nI ((ml + 15) % 16)), .int (nI cnt), .ref mt, .int mp, .int mn, .int (nI (ct_N (mu_B (cp_A 40 (2 + ml) 0 (cp_A 40 0 1 sa 40) 40) (cp_A 1040 (2 + ml) 0 (cp_A 1040 0 1 kd 1040) 1040) (cp_A 1040 (2 + ml) 0 (cp_A 1040 0 1 vl 1040) 1040) 1) 40)), .ref ma, .int (nI at_), .int bd, .int le, .int ob, .ref m1, .ref m2, .ref m3, .ref m4, .int (nI rn), .int (nI pw), .ref mc])), (ms, .inl (cA 0, 720, .inl (cp_A 40 (2 + ml) 0 (cp_A 40 0 1 sa 40) 40))), (mk, .inl (cA 0, 18720, .inl (cp_A 1040 (2 + ml) 0 (cp_A 1040 0 1 kd 1040) 1040))), (mv, .inl (cA 0, 18720, .inl (cp_A 1040 (2 + ml) 0 (cp_A 1040 0 1 vl 1040) 1040))), (ma, .inl (cA 0, 40, .inl (tx_A (ul_F (mu_B (cp_A 40 (2 + ml) 0 (cp_A 40 0 1 sa 40) 40) (cp_A 1040 (2 + ml) 0 (cp_A 1040 0 1 kd 1040) 1040) (cp_A 1040 (2 + ml) 0 (cp_A 1040 0 1 vl 1040) 1040) 1) uf 40))))] := hD
    refine lx_top (z := nI (ct_N (mu_B (cp_A 40 (2 + ml) 0 (cp_A 40 0 1 sa 40) 40) (cp_A 1040 (2 + ml) 0 (cp_A 1040 0 1 kd 1040) 1040) (cp_A 1040 (2 + ml) 0 (cp_A 1040 0 1 vl 1040) 1040) 1) 40)) (q_7) ?_
    have hP9 : va_P G xk_cl [(mo, .inr (8, [.int (nI 0), .ref ms, .ref mk, .ref mv, .int (nI (mm - 1)), .int (nI ((ml + 15) % 16)), .int (nI cnt), .ref mt, .int mp, .int mn, .int (nI (ct_N (mu_B (cp_A 40 (2 + ml) 0 (cp_A 40 0 1 sa 40) 40) (cp_A 1040 (2 + ml) 0 (cp_A 1040 0 1 kd 1040) 1040) (cp_A 1040 (2 + ml) 0 (cp_A 1040 0 1 vl 1040) 1040) 1) 40)), .ref ma, .int (nI at_), .int bd, .int le, .int ob, .ref m1, .ref m2, .ref m3, .ref m4, .int (nI rn), .int (nI pw), .ref mc])), (ms, .inl (cA 0, 720, .inl (cp_A 40 (2 + ml) 0 (cp_A 40 0 1 sa 40) 40))), (mk, .inl (cA 0, 18720, .inl (cp_A 1040 (2 + ml) 0 (cp_A 1040 0 1 kd 1040) 1040))), (mv, .inl (cA 0, 18720, .inl (cp_A 1040 (2 + ml) 0 (cp_A 1040 0 1 vl 1040) 1040))), (ma, .inl (cA 0, 40, .inl (tx_A (ul_F (mu_B (cp_A 40 (2 + ml) 0 (cp_A 40 0 1 sa 40) 40) (cp_A 1040 (2 + ml) 0 (cp_A 1040 0 1 kd 1040) 1040) (cp_A 1040 (2 + ml) 0 (cp_A 1040 0 1 vl 1040) 1040) 1) uf 40))))] _ := hP.sub [0, 1, 2, 3, 4] rfl
    have hD9 : va_D A [(mo, .inr (8, [.int (nI 0), .ref ms, .ref mk, .ref mv, .int (nI (mm - 1)), .int (nI ((ml + 15) % 16)), .int (nI cnt), .ref mt, .int mp, .int mn, .int (nI (ct_N (mu_B (cp_A 40 (2 + ml) 0 (cp_A 40 0 1 sa 40) 40) (cp_A 1040 (2 + ml) 0 (cp_A 1040 0 1 kd 1040) 1040) (cp_A 1040 (2 + ml) 0 (cp_A 1040 0 1 vl 1040) 1040) 1) 40)), .ref ma, .int (nI at_), .int bd, .int le, .int ob, .ref m1, .ref m2, .ref m3, .ref m4, .int (nI rn), .int (nI pw), .ref mc])), (ms, .inl (cA 0, 720, .inl (cp_A 40 (2 + ml) 0 (cp_A 40 0 1 sa 40) 40))), (mk, .inl (cA 0, 18720, .inl (cp_A 1040 (2 + ml) 0 (cp_A 1040 0 1 kd 1040) 1040))), (mv, .inl (cA 0, 18720, .inl (cp_A 1040 (2 + ml) 0 (cp_A 1040 0 1 vl 1040) 1040))), (ma, .inl (cA 0, 40, .inl (tx_A (ul_F (mu_B (cp_A 40 (2 + ml) 0 (cp_A 40 0 1 sa 40) 40) (cp_A 1040 (2 + ml) 0 (cp_A 1040 0 1 kd 1040) 1040) (cp_A 1040 (2 + ml) 0 (cp_A 1040 0 1 vl 1040) 1040) 1) uf 40))))] := hD.sub [0, 1, 2, 3, 4] (by decide) rfl
    exact W.iret (v := nI (ct_N (mu_B (cp_A 40 (2 + ml) 0 (cp_A 40 0 1 sa 40) 40) (cp_A 1040 (2 + ml) 0 (cp_A 1040 0 1 kd 1040) 1040) (cp_A 1040 (2 + ml) 0 (cp_A 1040 0 1 vl 1040) 1040) 1) 40)) hx hb hr (fun T9 ht hW => ⟨⟨_, (mm - 1, (ml + 15) % 16, ct_N (mu_B (cp_A 40 (2 + ml) 0 (cp_A 40 0 1 sa 40) 40) (cp_A 1040 (2 + ml) 0 (cp_A 1040 0 1 kd 1040) 1040) (cp_A 1040 (2 + ml) 0 (cp_A 1040 0 1 vl 1040) 1040) 1) 40, ul_F (mu_B (cp_A 40 (2 + ml) 0 (cp_A 40 0 1 sa 40) 40) (cp_A 1040 (2 + ml) 0 (cp_A 1040 0 1 kd 1040) 1040) (cp_A 1040 (2 + ml) 0 (cp_A 1040 0 1 vl 1040) 1040) 1) uf 40, (cp_A 40 (2 + ml) 0 (cp_A 40 0 1 sa 40) 40), (cp_A 1040 (2 + ml) 0 (cp_A 1040 0 1 kd 1040) 1040), (cp_A 1040 (2 + ml) 0 (cp_A 1040 0 1 vl 1040) 1040)), rfl, ⟨ct_N_le _ _, Or.inr ⟨q_m, fun s_ c_ h_ o_ => ⟨sh_0.mp (sh_cp (sh_co h_ (by omega))), by rw [mu_ct (sh_0.mp (sh_cp (sh_co h_ (by omega)))) (sh_co (sh_cp (sh_0.mpr hR)) (by decide)) o_ hso]⟩, bf_hs (bf_f (bf_c _ _ _) (fr_c _ _ _ _)), rfl, rfl⟩⟩, by rw [ht]; exact hP9, hD9⟩, hS.F ht⟩) hS.2.2 xd_Mo_undo_61
  · have q_m : mm = 0 := nI_z (by omega) c_9_0
    refine lv_iconst (v := (-1)) hx hb xd_Mo_undo_12 (by decide) ?_
    have hP9 : va_P G xk_cl [(mo, .inr (8, [.int (nI 0), .ref ms, .ref mk, .ref mv, .int (nI mm), .int (nI ml), .int (nI cnt), .ref mt, .int mp, .int mn, .int (nI mu), .ref ma, .int (nI at_), .int bd, .int le, .int ob, .ref m1, .ref m2, .ref m3, .ref m4, .int (nI rn), .int (nI pw), .ref mc])), (ms, .inl (cA 0, 720, .inl sa)), (mk, .inl (cA 0, 18720, .inl kd)), (mv, .inl (cA 0, 18720, .inl vl)), (ma, .inl (cA 0, 40, .inl (tx_A uf)))] _ := hP.sub [0, 1, 2, 3, 4] rfl
    have hD9 : va_D A [(mo, .inr (8, [.int (nI 0), .ref ms, .ref mk, .ref mv, .int (nI mm), .int (nI ml), .int (nI cnt), .ref mt, .int mp, .int mn, .int (nI mu), .ref ma, .int (nI at_), .int bd, .int le, .int ob, .ref m1, .ref m2, .ref m3, .ref m4, .int (nI rn), .int (nI pw), .ref mc])), (ms, .inl (cA 0, 720, .inl sa)), (mk, .inl (cA 0, 18720, .inl kd)), (mv, .inl (cA 0, 18720, .inl vl)), (ma, .inl (cA 0, 40, .inl (tx_A uf)))] := hD.sub [0, 1, 2, 3, 4] (by decide) rfl
    exact W.iret (v := (-1)) hx hb hr (fun T9 ht hW => ⟨⟨_, (mm, ml, mu, uf, sa, kd, vl), rfl, ⟨hmu, Or.inl ⟨q_m, rfl, rfl, rfl, rfl, rfl, rfl⟩⟩, by rw [ht]; exact hP9, hD9⟩, hS.F ht⟩) hS.2.2 xd_Mo_undo_13
set_option maxHeartbeats 4000000 in
set_option maxRecDepth 100000 in
theorem ct_Mo_changed (l : Launch) (G : va_G) (cA : Nat → ClassId) (sz : Nat) (mo : Nat) (th : Int32) (ms : Nat) (mk : Nat) (mv : Nat) (mm : Nat) (ml : Nat) (cnt : Nat) (mt : Nat) (mp : Int32) (mn : Int32) (mu : Nat) (ma : Nat) (at_ : Nat) (bd : Int32) (le : Int32) (ob : Int32) (m1 : Nat) (m2 : Nat) (m3 : Nat) (m4 : Nat) (rn : Nat) (pw : Nat) (mc : Nat) (uf : Nat → Nat) (x0 : Int32) (hmu : mu ≤ 40) : Met l xy_Mo_changed (.code xy_Mo_changed xb_Mo_changed 2 (some .int) :: tw_W) ({ frames := 1, cells := 0, slots := 0, locals := 22 }) (pc_w G cA [(mo, .inr (8, [.int th, .ref ms, .ref mk, .ref mv, .int (nI mm), .int (nI ml), .int (nI cnt), .ref mt, .int mp, .int mn, .int (nI mu), .ref ma, .int (nI at_), .int bd, .int le, .int ob, .ref m1, .ref m2, .ref m3, .ref m4, .int (nI rn), .int (nI pw), .ref mc])), (ma, .inl (cA 0, 40, .inl (tx_A uf)))] sz [.ref mo, .int x0]) (va_Qi (fun (r : Int32) (u9 : Int32) => match u9 with | (th2) => ch_Q uf mu x0 r th2) (fun u9 T9 => match u9 with | (th2) => at_w G (va_A [(mo, .inr (8, [.int th, .ref ms, .ref mk, .ref mv, .int (nI mm), .int (nI ml), .int (nI cnt), .ref mt, .int mp, .int mn, .int (nI mu), .ref ma, .int (nI at_), .int bd, .int le, .int ob, .ref m1, .ref m2, .ref m3, .ref m4, .int (nI rn), .int (nI pw), .ref mc])), (ma, .inl (cA 0, 40, .inl (tx_A uf)))] sz) [(mo, .inr (8, [.int th2, .ref ms, .ref mk, .ref mv, .int (nI mm), .int (nI ml), .int (nI cnt), .ref mt, .int mp, .int mn, .int (nI mu), .ref ma, .int (nI at_), .int bd, .int le, .int ob, .ref m1, .ref m2, .ref m3, .ref m4, .int (nI rn), .int (nI pw), .ref mc])), (ma, .inl (cA 0, 40, .inl (tx_A uf)))] T9) (va_A [(mo, .inr (8, [.int th, .ref ms, .ref mk, .ref mv, .int (nI mm), .int (nI ml), .int (nI cnt), .ref mt, .int mp, .int mn, .int (nI mu), .ref ma, .int (nI at_), .int bd, .int le, .int ob, .ref m1, .ref m2, .ref m3, .ref m4, .int (nI rn), .int (nI pw), .ref mc])), (ma, .inl (cA 0, 40, .inl (tx_A uf)))] sz)) 0 0 (va_A [(mo, .inr (8, [.int th, .ref ms, .ref mk, .ref mv, .int (nI mm), .int (nI ml), .int (nI cnt), .ref mt, .int mp, .int mn, .int (nI mu), .ref ma, .int (nI at_), .int bd, .int le, .int ob, .ref m1, .ref m2, .ref m3, .ref m4, .int (nI rn), .int (nI pw), .ref mc])), (ma, .inl (cA 0, 40, .inl (tx_A uf)))] sz) := by
  refine Met.ofW (cc := xb_Mo_changed) (maxL := 2) (ret := (some .int)) (by decide) rfl ?_
  intro p e s m args below meth c s₁ B hml hv
  obtain ⟨rfl, hsz, hK, hP, hD0⟩ := hv
  have hx := B.exec
  have hb := B.bytes
  have hr := B.returns
  have hts0 := atoms_spec (ws := .code xy_Mo_changed xb_Mo_changed 2 (some .int) :: tw_W) B.pre
  have hts : ∀ w9 ∈ tw_W, w9.before [.ref mo, .int x0].toArray s = true := fun w9 h9 => hts0 w9 (List.mem_cons_of_mem _ h9)
  have hown : s.vm.findClass xc_Mo = some m.cls := findClass_of_methodNamed B.named
  have hlocks := B.notSynchronized
  subst hsz
  have hD := hD0.self (sz := s.heap.size)
  generalize hAe : va_A [(mo, .inr (8, [.int th, .ref ms, .ref mk, .ref mv, .int (nI mm), .int (nI ml), .int (nI cnt), .ref mt, .int mp, .int mn, .int (nI mu), .ref ma, .int (nI at_), .int bd, .int le, .int ob, .ref m1, .ref m2, .ref m3, .ref m4, .int (nI rn), .int (nI pw), .ref mc])), (ma, .inl (cA 0, 40, .inl (tx_A uf)))] s.heap.size = A at hD ⊢
  have hA : ∀ q : Nat, s.heap.size ≤ q → A q := fun q h => by rw [← hAe]; exact Or.inr h
  have hS : va_S A s.heap s.heap [] := va_S.rf
  have hP : va_P G xk_cl [(mo, .inr (8, [.int th, .ref ms, .ref mk, .ref mv, .int (nI mm), .int (nI ml), .int (nI cnt), .ref mt, .int mp, .int mn, .int (nI mu), .ref ma, .int (nI at_), .int bd, .int le, .int ob, .ref m1, .ref m2, .ref m3, .ref m4, .int (nI rn), .int (nI pw), .ref mc])), (ma, .inl (cA 0, 40, .inl (tx_A uf)))] s.heap := hP
  have hl := lv_entry ([.ref mo, .int x0]) (n := 2) (Nat.le_of_ble_eq_true rfl)
  rw [lg_entry_eq]
  generalize (lg_sl ([.ref mo, .int x0]) ++ List.replicate (2 - (lg_sl ([.ref mo, .int x0])).length) Slot.unset).toArray = ls at hl ⊢
  have hl : lv_has ls 2 [(0, .ref mo), (1, .int x0)] := hl
  refine lv_aload_n hx hb xd_Mo_changed_0 rfl (lv_at hl 0 rfl) ?_
  refine lv_iload_n hx hb xd_Mo_changed_1 rfl (lv_at hl 1 rfl) ?_
  refine lv_iconst (v := nI 0) hx hb xd_Mo_changed_2 (by decide) ?_
  refine lv_aload_n hx hb xd_Mo_changed_3 rfl (lv_at hl 0 rfl) ?_
  refine va_get (D := G) (ci := 8) (v := .int (nI mu)) (C := xc_Mo) (T := xf_Mo) (N := 23) hx hb hts xw_Mo hown hK.1 hP 0 rfl rfl 10 (by decide) (hts _ xm_629) (fun _ h9 => h9) rfl xd_Mo_changed_4 ?_
  refine lv_iconst (v := nI 1) hx hb xd_Mo_changed_7 (by decide) ?_
  refine lx_isub (z := (nI mu) - (nI 1)) hx hb xd_Mo_changed_8 (rfl) ?_
  have hPc := hP.sub (ws' := []) [] rfl
  refine vp_callSi (va_Run.run (va_runS (As := [.int x0, .int (nI 0), .int ((nI mu) - (nI 1))]) (rest := [.ref mo]) ⟨hx, hb, hml, hown, hts⟩ (ct_Mo_in l G cA x0 (nI 0) ((nI mu) - (nI 1))) (cwS 3 hts (gi_s xm_693 xm_694 xm_9 xm_695) rfl rfl rfl ⟨rfl, xh_Mo_in⟩ ⟨Nat.le_of_ble_eq_true rfl, Nat.le_of_ble_eq_true rfl⟩) (ps_r hK hPc) rfl rfl hl.1 rfl (lv_room (Nat.le_of_ble_eq_true rfl)) xd_Mo_changed_9 ⟨Nat.le_of_ble_eq_true rfl, Nat.le_of_ble_eq_true rfl⟩)) (fun r_1 q_2 => ?_)
  refine lx_top (z := in_R x0 (nI 0) ((nI mu) - (nI 1))) (q_2) ?_
  by_cases q_o : x0 < 0 ∨ nI mu ≤ x0
  · refine lx_top (z := nI 0) (ch_n hmu q_o) ?_
    have hPc := hP.sub (ws' := [(mo, .inr (8, [.int th, .ref ms, .ref mk, .ref mv, .int (nI mm), .int (nI ml), .int (nI cnt), .ref mt, .int mp, .int mn, .int (nI mu), .ref ma, .int (nI at_), .int bd, .int le, .int ob, .ref m1, .ref m2, .ref m3, .ref m4, .int (nI rn), .int (nI pw), .ref mc]))]) [0] rfl
    have hDc := hD.sub (ws' := [(mo, .inr (8, [.int th, .ref ms, .ref mk, .ref mv, .int (nI mm), .int (nI ml), .int (nI cnt), .ref mt, .int mp, .int mn, .int (nI mu), .ref ma, .int (nI at_), .int bd, .int le, .int ob, .ref m1, .ref m2, .ref m3, .ref m4, .int (nI rn), .int (nI pw), .ref mc]))]) [0] (by decide) rfl
    have hFc := va_free (wc := [(mo, .inr (8, [.int th, .ref ms, .ref mk, .ref mv, .int (nI mm), .int (nI ml), .int (nI cnt), .ref mt, .int mp, .int mn, .int (nI mu), .ref ma, .int (nI at_), .int bd, .int le, .int ob, .ref m1, .ref m2, .ref m3, .ref m4, .int (nI rn), .int (nI pw), .ref mc]))]) hD hS hA [0] rfl
    refine va_calli (va_runV (As := [.int (nI 0)]) (rest := []) ⟨hx, hb, hml, hown, hts⟩ (ct_Mo_goes l G cA s.heap.size mo th ms mk mv mm ml cnt mt mp mn mu ma at_ bd le ob m1 m2 m3 m4 rn pw mc (nI 0) (Or.inl rfl)) (cwV 1 hts (gi_v xm_787 xm_789 xs_Mo_goes xm_9 xm_790) rfl rfl rfl ⟨rfl, xh_Mo_goes⟩ ⟨Nat.le_of_ble_eq_true rfl, Nat.le_of_ble_eq_true rfl⟩) (pv_w hK hPc hDc (ci := 8) (q0 := 0) rfl rfl) rfl rfl hl.1 rfl (lv_room (Nat.le_of_ble_eq_true rfl)) xd_Mo_changed_12 ⟨Nat.le_of_ble_eq_true rfl, Nat.le_of_ble_eq_true rfl⟩) hS (fun q _ h => hFc q h) hFc (fun r_3 u9 t9 H1 locs ht hvm q_4 hB hz1 hk1 hS => ?_)
    obtain ⟨hP1, hD1⟩ := hB
    rw [ht] at hP1
    obtain ⟨hP, hD⟩ := va_join (wr := [(ma, .inl (cA 0, 40, .inl (tx_A uf)))]) (w1 := [(mo, .inr (8, [.int (gs_T (nI 0)), .ref ms, .ref mk, .ref mv, .int (nI mm), .int (nI ml), .int (nI cnt), .ref mt, .int mp, .int mn, .int (nI mu), .ref ma, .int (nI at_), .int bd, .int le, .int ob, .ref m1, .ref m2, .ref m3, .ref m4, .int (nI rn), .int (nI pw), .ref mc]))]) hP hD [0] [1] rfl rfl (by decide) (by decide) hk1 hFc hP1 hD1
    generalize H1 = H at hP hS ⊢
    have hP : va_P G xk_cl [(ma, .inl (cA 0, 40, .inl (tx_A uf))), (mo, .inr (8, [.int (gs_T (nI 0)), .ref ms, .ref mk, .ref mv, .int (nI mm), .int (nI ml), .int (nI cnt), .ref mt, .int mp, .int mn, .int (nI mu), .ref ma, .int (nI at_), .int bd, .int le, .int ob, .ref m1, .ref m2, .ref m3, .ref m4, .int (nI rn), .int (nI pw), .ref mc]))] H := hP
    have hD : va_D A [(ma, .inl (cA 0, 40, .inl (tx_A uf))), (mo, .inr (8, [.int (gs_T (nI 0)), .ref ms, .ref mk, .ref mv, .int (nI mm), .int (nI ml), .int (nI cnt), .ref mt, .int mp, .int mn, .int (nI mu), .ref ma, .int (nI at_), .int bd, .int le, .int ob, .ref m1, .ref m2, .ref m3, .ref m4, .int (nI rn), .int (nI pw), .ref mc]))] := hD
    refine lx_top (z := nI 0) (q_4) ?_
    have hP : va_P G xk_cl [(ma, .inl (cA 0, 40, .inl (tx_A uf))), (mo, .inr (8, [.int (nI 1), .ref ms, .ref mk, .ref mv, .int (nI mm), .int (nI ml), .int (nI cnt), .ref mt, .int mp, .int mn, .int (nI mu), .ref ma, .int (nI at_), .int bd, .int le, .int ob, .ref m1, .ref m2, .ref m3, .ref m4, .int (nI rn), .int (nI pw), .ref mc]))] H := by skip; exact hP
    have hD : va_D A [(ma, .inl (cA 0, 40, .inl (tx_A uf))), (mo, .inr (8, [.int (nI 1), .ref ms, .ref mk, .ref mv, .int (nI mm), .int (nI ml), .int (nI cnt), .ref mt, .int mp, .int mn, .int (nI mu), .ref ma, .int (nI at_), .int bd, .int le, .int ob, .ref m1, .ref m2, .ref m3, .ref m4, .int (nI rn), .int (nI pw), .ref mc]))] := by skip; exact hD
    refine lv_if_eq (tgt := 27) hx hb xd_Mo_changed_15 (by decide) (fun c_15_4 => ?_) (fun c_15_4 => absurd (by decide) c_15_4)
    refine lv_iconst (v := nI 0) hx hb xd_Mo_changed_27 (by decide) ?_
    have hP9 : va_P G xk_cl [(mo, .inr (8, [.int (nI 1), .ref ms, .ref mk, .ref mv, .int (nI mm), .int (nI ml), .int (nI cnt), .ref mt, .int mp, .int mn, .int (nI mu), .ref ma, .int (nI at_), .int bd, .int le, .int ob, .ref m1, .ref m2, .ref m3, .ref m4, .int (nI rn), .int (nI pw), .ref mc])), (ma, .inl (cA 0, 40, .inl (tx_A uf)))] _ := hP.sub [1, 0] rfl
    have hD9 : va_D A [(mo, .inr (8, [.int (nI 1), .ref ms, .ref mk, .ref mv, .int (nI mm), .int (nI ml), .int (nI cnt), .ref mt, .int mp, .int mn, .int (nI mu), .ref ma, .int (nI at_), .int bd, .int le, .int ob, .ref m1, .ref m2, .ref m3, .ref m4, .int (nI rn), .int (nI pw), .ref mc])), (ma, .inl (cA 0, 40, .inl (tx_A uf)))] := hD.sub [1, 0] (by decide) rfl
    exact W.iret (v := nI 0) hx hb hr (fun T9 ht hW => ⟨⟨_, (nI 1), rfl, ch_N hmu q_o, by rw [ht]; exact hP9, hD9⟩, hS.F ht⟩) hS.2.2 xd_Mo_changed_28
  · obtain ⟨i_, hi_, e_i⟩ := ch_i q_o (by omega)
    refine lx_top (z := nI 1) (by rw [e_i]; exact ch_y hi_ hmu) ?_
    have hPc := hP.sub (ws' := [(mo, .inr (8, [.int th, .ref ms, .ref mk, .ref mv, .int (nI mm), .int (nI ml), .int (nI cnt), .ref mt, .int mp, .int mn, .int (nI mu), .ref ma, .int (nI at_), .int bd, .int le, .int ob, .ref m1, .ref m2, .ref m3, .ref m4, .int (nI rn), .int (nI pw), .ref mc]))]) [0] rfl
    have hDc := hD.sub (ws' := [(mo, .inr (8, [.int th, .ref ms, .ref mk, .ref mv, .int (nI mm), .int (nI ml), .int (nI cnt), .ref mt, .int mp, .int mn, .int (nI mu), .ref ma, .int (nI at_), .int bd, .int le, .int ob, .ref m1, .ref m2, .ref m3, .ref m4, .int (nI rn), .int (nI pw), .ref mc]))]) [0] (by decide) rfl
    have hFc := va_free (wc := [(mo, .inr (8, [.int th, .ref ms, .ref mk, .ref mv, .int (nI mm), .int (nI ml), .int (nI cnt), .ref mt, .int mp, .int mn, .int (nI mu), .ref ma, .int (nI at_), .int bd, .int le, .int ob, .ref m1, .ref m2, .ref m3, .ref m4, .int (nI rn), .int (nI pw), .ref mc]))]) hD hS hA [0] rfl
    refine va_calli (va_runV (As := [.int (nI 1)]) (rest := []) ⟨hx, hb, hml, hown, hts⟩ (ct_Mo_goes l G cA s.heap.size mo th ms mk mv mm ml cnt mt mp mn mu ma at_ bd le ob m1 m2 m3 m4 rn pw mc (nI 1) (Or.inr rfl)) (cwV 1 hts (gi_v xm_787 xm_789 xs_Mo_goes xm_9 xm_790) rfl rfl rfl ⟨rfl, xh_Mo_goes⟩ ⟨Nat.le_of_ble_eq_true rfl, Nat.le_of_ble_eq_true rfl⟩) (pv_w hK hPc hDc (ci := 8) (q0 := 0) rfl rfl) rfl rfl hl.1 rfl (lv_room (Nat.le_of_ble_eq_true rfl)) xd_Mo_changed_12 ⟨Nat.le_of_ble_eq_true rfl, Nat.le_of_ble_eq_true rfl⟩) hS (fun q _ h => hFc q h) hFc (fun r_6 u9 t9 H1 locs ht hvm q_7 hB hz1 hk1 hS => ?_)
    obtain ⟨hP1, hD1⟩ := hB
    rw [ht] at hP1
    obtain ⟨hP, hD⟩ := va_join (wr := [(ma, .inl (cA 0, 40, .inl (tx_A uf)))]) (w1 := [(mo, .inr (8, [.int (gs_T (nI 1)), .ref ms, .ref mk, .ref mv, .int (nI mm), .int (nI ml), .int (nI cnt), .ref mt, .int mp, .int mn, .int (nI mu), .ref ma, .int (nI at_), .int bd, .int le, .int ob, .ref m1, .ref m2, .ref m3, .ref m4, .int (nI rn), .int (nI pw), .ref mc]))]) hP hD [0] [1] rfl rfl (by decide) (by decide) hk1 hFc hP1 hD1
    generalize H1 = H at hP hS ⊢
    have hP : va_P G xk_cl [(ma, .inl (cA 0, 40, .inl (tx_A uf))), (mo, .inr (8, [.int (gs_T (nI 1)), .ref ms, .ref mk, .ref mv, .int (nI mm), .int (nI ml), .int (nI cnt), .ref mt, .int mp, .int mn, .int (nI mu), .ref ma, .int (nI at_), .int bd, .int le, .int ob, .ref m1, .ref m2, .ref m3, .ref m4, .int (nI rn), .int (nI pw), .ref mc]))] H := hP
    have hD : va_D A [(ma, .inl (cA 0, 40, .inl (tx_A uf))), (mo, .inr (8, [.int (gs_T (nI 1)), .ref ms, .ref mk, .ref mv, .int (nI mm), .int (nI ml), .int (nI cnt), .ref mt, .int mp, .int mn, .int (nI mu), .ref ma, .int (nI at_), .int bd, .int le, .int ob, .ref m1, .ref m2, .ref m3, .ref m4, .int (nI rn), .int (nI pw), .ref mc]))] := hD
    refine lx_top (z := nI 1) (q_7) ?_
    have hP : va_P G xk_cl [(ma, .inl (cA 0, 40, .inl (tx_A uf))), (mo, .inr (8, [.int (nI 0), .ref ms, .ref mk, .ref mv, .int (nI mm), .int (nI ml), .int (nI cnt), .ref mt, .int mp, .int mn, .int (nI mu), .ref ma, .int (nI at_), .int bd, .int le, .int ob, .ref m1, .ref m2, .ref m3, .ref m4, .int (nI rn), .int (nI pw), .ref mc]))] H := by skip; exact hP
    have hD : va_D A [(ma, .inl (cA 0, 40, .inl (tx_A uf))), (mo, .inr (8, [.int (nI 0), .ref ms, .ref mk, .ref mv, .int (nI mm), .int (nI ml), .int (nI cnt), .ref mt, .int mp, .int mn, .int (nI mu), .ref ma, .int (nI at_), .int bd, .int le, .int ob, .ref m1, .ref m2, .ref m3, .ref m4, .int (nI rn), .int (nI pw), .ref mc]))] := by skip; exact hD
    refine lv_if_eq (tgt := 27) hx hb xd_Mo_changed_15 (by decide) (fun c_15_7 => absurd c_15_7 (by decide)) (fun c_15_7 => ?_)
    refine lv_aload_n hx hb xd_Mo_changed_18 rfl (lv_at hl 0 rfl) ?_
    refine va_get (D := G) (ci := 8) (v := .ref ma) (C := xc_Mo) (T := xf_Mo) (N := 23) hx hb hts xw_Mo hown hK.1 hP 1 rfl rfl 11 (by decide) (hts _ xm_630) (fun _ h9 => h9) rfl xd_Mo_changed_19 ?_
    have hl : lv_has ls 2 [(0, .ref mo), (1, .int (nI i_))] := by rw [← e_i]; exact hl
    refine lv_iload_n hx hb xd_Mo_changed_22 rfl (lv_at hl 1 rfl) ?_
    refine wx_iald hx hb hK.1 hP 0 0 rfl rfl (k := i_) (by omega) (by decide) xd_Mo_changed_23 ?_
    refine lx_top (z := nI (uf i_)) (rfl) ?_
    refine lv_goto (tgt := 28) hx hb xd_Mo_changed_24 (by decide) ?_
    have hP9 : va_P G xk_cl [(mo, .inr (8, [.int (nI 0), .ref ms, .ref mk, .ref mv, .int (nI mm), .int (nI ml), .int (nI cnt), .ref mt, .int mp, .int mn, .int (nI mu), .ref ma, .int (nI at_), .int bd, .int le, .int ob, .ref m1, .ref m2, .ref m3, .ref m4, .int (nI rn), .int (nI pw), .ref mc])), (ma, .inl (cA 0, 40, .inl (tx_A uf)))] _ := hP.sub [1, 0] rfl
    have hD9 : va_D A [(mo, .inr (8, [.int (nI 0), .ref ms, .ref mk, .ref mv, .int (nI mm), .int (nI ml), .int (nI cnt), .ref mt, .int mp, .int mn, .int (nI mu), .ref ma, .int (nI at_), .int bd, .int le, .int ob, .ref m1, .ref m2, .ref m3, .ref m4, .int (nI rn), .int (nI pw), .ref mc])), (ma, .inl (cA 0, 40, .inl (tx_A uf)))] := hD.sub [1, 0] (by decide) rfl
    exact W.iret (v := nI (uf i_)) hx hb hr (fun T9 ht hW => ⟨⟨_, (nI 0), rfl, ch_Y e_i hi_ hmu rfl, by rw [ht]; exact hP9, hD9⟩, hS.F ht⟩) hS.2.2 xd_Mo_changed_28
set_option maxHeartbeats 4000000 in
set_option maxRecDepth 100000 in
theorem ct_Mo_kind (l : Launch) (G : va_G) (cA : Nat → ClassId) (sz : Nat) (mo : Nat) (th : Int32) (ms : Nat) (mk : Nat) (mv : Nat) (mm : Nat) (ml : Nat) (cnt : Nat) (mt : Nat) (mp : Int32) (mn : Int32) (mu : Nat) (ma : Nat) (at_ : Nat) (bd : Int32) (le : Int32) (ob : Int32) (m1 : Nat) (m2 : Nat) (m3 : Nat) (m4 : Nat) (rn : Nat) (pw : Nat) (mc : Nat) (sa : Nat → Int32) (kd : Nat → Int32) (vl : Nat → Int32) (st : Nat → Int32) (ce : Nat → Int32) (x0 : Int32) (x1 : Int32) (hR : sn_R sa kd vl st ce) : Met l xy_Mo_kind (.code xy_Mo_kind xb_Mo_kind 3 (some .int) :: tw_W) ({ frames := 1, cells := 0, slots := 0, locals := 22 }) (pc_w G cA [(mo, .inr (8, [.int th, .ref ms, .ref mk, .ref mv, .int (nI mm), .int (nI ml), .int (nI cnt), .ref mt, .int mp, .int mn, .int (nI mu), .ref ma, .int (nI at_), .int bd, .int le, .int ob, .ref m1, .ref m2, .ref m3, .ref m4, .int (nI rn), .int (nI pw), .ref mc])), (mk, .inl (cA 0, 18720, .inl kd))] sz [.ref mo, .int x0, .int x1]) (va_Qi (fun (r : Int32) (u9 : Int32) => match u9 with | (th2) => kd_R en_K ce x0 x1 r th2) (fun u9 T9 => match u9 with | (th2) => at_w G (va_A [(mo, .inr (8, [.int th, .ref ms, .ref mk, .ref mv, .int (nI mm), .int (nI ml), .int (nI cnt), .ref mt, .int mp, .int mn, .int (nI mu), .ref ma, .int (nI at_), .int bd, .int le, .int ob, .ref m1, .ref m2, .ref m3, .ref m4, .int (nI rn), .int (nI pw), .ref mc])), (mk, .inl (cA 0, 18720, .inl kd))] sz) [(mo, .inr (8, [.int th2, .ref ms, .ref mk, .ref mv, .int (nI mm), .int (nI ml), .int (nI cnt), .ref mt, .int mp, .int mn, .int (nI mu), .ref ma, .int (nI at_), .int bd, .int le, .int ob, .ref m1, .ref m2, .ref m3, .ref m4, .int (nI rn), .int (nI pw), .ref mc])), (mk, .inl (cA 0, 18720, .inl kd))] T9) (va_A [(mo, .inr (8, [.int th, .ref ms, .ref mk, .ref mv, .int (nI mm), .int (nI ml), .int (nI cnt), .ref mt, .int mp, .int mn, .int (nI mu), .ref ma, .int (nI at_), .int bd, .int le, .int ob, .ref m1, .ref m2, .ref m3, .ref m4, .int (nI rn), .int (nI pw), .ref mc])), (mk, .inl (cA 0, 18720, .inl kd))] sz)) 0 0 (va_A [(mo, .inr (8, [.int th, .ref ms, .ref mk, .ref mv, .int (nI mm), .int (nI ml), .int (nI cnt), .ref mt, .int mp, .int mn, .int (nI mu), .ref ma, .int (nI at_), .int bd, .int le, .int ob, .ref m1, .ref m2, .ref m3, .ref m4, .int (nI rn), .int (nI pw), .ref mc])), (mk, .inl (cA 0, 18720, .inl kd))] sz) := by
  refine Met.ofW (cc := xb_Mo_kind) (maxL := 3) (ret := (some .int)) (by decide) rfl ?_
  intro p e s m args below meth c s₁ B hml hv
  obtain ⟨rfl, hsz, hK, hP, hD0⟩ := hv
  have hx := B.exec
  have hb := B.bytes
  have hr := B.returns
  have hts0 := atoms_spec (ws := .code xy_Mo_kind xb_Mo_kind 3 (some .int) :: tw_W) B.pre
  have hts : ∀ w9 ∈ tw_W, w9.before [.ref mo, .int x0, .int x1].toArray s = true := fun w9 h9 => hts0 w9 (List.mem_cons_of_mem _ h9)
  have hown : s.vm.findClass xc_Mo = some m.cls := findClass_of_methodNamed B.named
  have hlocks := B.notSynchronized
  subst hsz
  have hD := hD0.self (sz := s.heap.size)
  generalize hAe : va_A [(mo, .inr (8, [.int th, .ref ms, .ref mk, .ref mv, .int (nI mm), .int (nI ml), .int (nI cnt), .ref mt, .int mp, .int mn, .int (nI mu), .ref ma, .int (nI at_), .int bd, .int le, .int ob, .ref m1, .ref m2, .ref m3, .ref m4, .int (nI rn), .int (nI pw), .ref mc])), (mk, .inl (cA 0, 18720, .inl kd))] s.heap.size = A at hD ⊢
  have hA : ∀ q : Nat, s.heap.size ≤ q → A q := fun q h => by rw [← hAe]; exact Or.inr h
  have hS : va_S A s.heap s.heap [] := va_S.rf
  have hP : va_P G xk_cl [(mo, .inr (8, [.int th, .ref ms, .ref mk, .ref mv, .int (nI mm), .int (nI ml), .int (nI cnt), .ref mt, .int mp, .int mn, .int (nI mu), .ref ma, .int (nI at_), .int bd, .int le, .int ob, .ref m1, .ref m2, .ref m3, .ref m4, .int (nI rn), .int (nI pw), .ref mc])), (mk, .inl (cA 0, 18720, .inl kd))] s.heap := hP
  have hl := lv_entry ([.ref mo, .int x0, .int x1]) (n := 3) (Nat.le_of_ble_eq_true rfl)
  rw [lg_entry_eq]
  generalize (lg_sl ([.ref mo, .int x0, .int x1]) ++ List.replicate (3 - (lg_sl ([.ref mo, .int x0, .int x1])).length) Slot.unset).toArray = ls at hl ⊢
  have hl : lv_has ls 3 [(0, .ref mo), (1, .int x0), (2, .int x1)] := hl
  refine lv_aload_n hx hb xd_Mo_kind_0 rfl (lv_at hl 0 rfl) ?_
  refine lv_iload_n hx hb xd_Mo_kind_1 rfl (lv_at hl 1 rfl) ?_
  refine lv_iconst (v := nI 0) hx hb xd_Mo_kind_2 (by decide) ?_
  refine lv_bipush (v := nI 39) hx hb xd_Mo_kind_3 (by decide) ?_
  have hPc := hP.sub (ws' := []) [] rfl
  refine vp_callSi (va_Run.run (va_runS (As := [.int x0, .int (nI 0), .int (nI 39)]) (rest := [.ref mo]) ⟨hx, hb, hml, hown, hts⟩ (ct_Mo_in l G cA x0 (nI 0) (nI 39)) (cwS 3 hts (gi_s xm_693 xm_694 xm_9 xm_695) rfl rfl rfl ⟨rfl, xh_Mo_in⟩ ⟨Nat.le_of_ble_eq_true rfl, Nat.le_of_ble_eq_true rfl⟩) (ps_r hK hPc) rfl rfl hl.1 rfl (lv_room (Nat.le_of_ble_eq_true rfl)) xd_Mo_kind_5 ⟨Nat.le_of_ble_eq_true rfl, Nat.le_of_ble_eq_true rfl⟩)) (fun r_1 q_2 => ?_)
  refine lx_top (z := in_R x0 (nI 0) (nI 39)) (q_2) ?_
  refine lx_top (z := sp_ob x0) (in_ob _) ?_
  refine lv_if_eq (tgt := 25) hx hb xd_Mo_kind_8 (by decide) (fun c_8_2 => ?_) (fun c_8_2 => ?_)
  · have q_n : sp_ob x0 = 0 ∨ sp_ky x1 = 0 := Or.inl c_8_2
    refine lv_iconst (v := nI 0) hx hb xd_Mo_kind_25 (by decide) ?_
    have hPc := hP.sub (ws' := [(mo, .inr (8, [.int th, .ref ms, .ref mk, .ref mv, .int (nI mm), .int (nI ml), .int (nI cnt), .ref mt, .int mp, .int mn, .int (nI mu), .ref ma, .int (nI at_), .int bd, .int le, .int ob, .ref m1, .ref m2, .ref m3, .ref m4, .int (nI rn), .int (nI pw), .ref mc]))]) [0] rfl
    have hDc := hD.sub (ws' := [(mo, .inr (8, [.int th, .ref ms, .ref mk, .ref mv, .int (nI mm), .int (nI ml), .int (nI cnt), .ref mt, .int mp, .int mn, .int (nI mu), .ref ma, .int (nI at_), .int bd, .int le, .int ob, .ref m1, .ref m2, .ref m3, .ref m4, .int (nI rn), .int (nI pw), .ref mc]))]) [0] (by decide) rfl
    have hFc := va_free (wc := [(mo, .inr (8, [.int th, .ref ms, .ref mk, .ref mv, .int (nI mm), .int (nI ml), .int (nI cnt), .ref mt, .int mp, .int mn, .int (nI mu), .ref ma, .int (nI at_), .int bd, .int le, .int ob, .ref m1, .ref m2, .ref m3, .ref m4, .int (nI rn), .int (nI pw), .ref mc]))]) hD hS hA [0] rfl
    refine va_calli (va_runV (As := [.int (nI 0)]) (rest := []) ⟨hx, hb, hml, hown, hts⟩ (ct_Mo_goes l G cA s.heap.size mo th ms mk mv mm ml cnt mt mp mn mu ma at_ bd le ob m1 m2 m3 m4 rn pw mc (nI 0) (Or.inl rfl)) (cwV 1 hts (gi_v xm_787 xm_789 xs_Mo_goes xm_9 xm_790) rfl rfl rfl ⟨rfl, xh_Mo_goes⟩ ⟨Nat.le_of_ble_eq_true rfl, Nat.le_of_ble_eq_true rfl⟩) (pv_w hK hPc hDc (ci := 8) (q0 := 0) rfl rfl) rfl rfl hl.1 rfl (lv_room (Nat.le_of_ble_eq_true rfl)) xd_Mo_kind_26 ⟨Nat.le_of_ble_eq_true rfl, Nat.le_of_ble_eq_true rfl⟩) hS (fun q _ h => hFc q h) hFc (fun r_4 u9 t9 H1 locs ht hvm q_5 hB hz1 hk1 hS => ?_)
    obtain ⟨hP1, hD1⟩ := hB
    rw [ht] at hP1
    obtain ⟨hP, hD⟩ := va_join (wr := [(mk, .inl (cA 0, 18720, .inl kd))]) (w1 := [(mo, .inr (8, [.int (gs_T (nI 0)), .ref ms, .ref mk, .ref mv, .int (nI mm), .int (nI ml), .int (nI cnt), .ref mt, .int mp, .int mn, .int (nI mu), .ref ma, .int (nI at_), .int bd, .int le, .int ob, .ref m1, .ref m2, .ref m3, .ref m4, .int (nI rn), .int (nI pw), .ref mc]))]) hP hD [0] [1] rfl rfl (by decide) (by decide) hk1 hFc hP1 hD1
    generalize H1 = H at hP hS ⊢
    have hP : va_P G xk_cl [(mk, .inl (cA 0, 18720, .inl kd)), (mo, .inr (8, [.int (gs_T (nI 0)), .ref ms, .ref mk, .ref mv, .int (nI mm), .int (nI ml), .int (nI cnt), .ref mt, .int mp, .int mn, .int (nI mu), .ref ma, .int (nI at_), .int bd, .int le, .int ob, .ref m1, .ref m2, .ref m3, .ref m4, .int (nI rn), .int (nI pw), .ref mc]))] H := hP
    have hD : va_D A [(mk, .inl (cA 0, 18720, .inl kd)), (mo, .inr (8, [.int (gs_T (nI 0)), .ref ms, .ref mk, .ref mv, .int (nI mm), .int (nI ml), .int (nI cnt), .ref mt, .int mp, .int mn, .int (nI mu), .ref ma, .int (nI at_), .int bd, .int le, .int ob, .ref m1, .ref m2, .ref m3, .ref m4, .int (nI rn), .int (nI pw), .ref mc]))] := hD
    refine lx_top (z := nI 0) (q_5) ?_
    have hP : va_P G xk_cl [(mk, .inl (cA 0, 18720, .inl kd)), (mo, .inr (8, [.int (nI 1), .ref ms, .ref mk, .ref mv, .int (nI mm), .int (nI ml), .int (nI cnt), .ref mt, .int mp, .int mn, .int (nI mu), .ref ma, .int (nI at_), .int bd, .int le, .int ob, .ref m1, .ref m2, .ref m3, .ref m4, .int (nI rn), .int (nI pw), .ref mc]))] H := by skip; exact hP
    have hD : va_D A [(mk, .inl (cA 0, 18720, .inl kd)), (mo, .inr (8, [.int (nI 1), .ref ms, .ref mk, .ref mv, .int (nI mm), .int (nI ml), .int (nI cnt), .ref mt, .int mp, .int mn, .int (nI mu), .ref ma, .int (nI at_), .int bd, .int le, .int ob, .ref m1, .ref m2, .ref m3, .ref m4, .int (nI rn), .int (nI pw), .ref mc]))] := by skip; exact hD
    refine lv_if_eq (tgt := 46) hx hb xd_Mo_kind_29 (by decide) (fun c_29_5 => ?_) (fun c_29_5 => absurd (by decide) c_29_5)
    refine lv_iconst (v := nI 0) hx hb xd_Mo_kind_46 (by decide) ?_
    have hP9 : va_P G xk_cl [(mo, .inr (8, [.int (nI 1), .ref ms, .ref mk, .ref mv, .int (nI mm), .int (nI ml), .int (nI cnt), .ref mt, .int mp, .int mn, .int (nI mu), .ref ma, .int (nI at_), .int bd, .int le, .int ob, .ref m1, .ref m2, .ref m3, .ref m4, .int (nI rn), .int (nI pw), .ref mc])), (mk, .inl (cA 0, 18720, .inl kd))] _ := hP.sub [1, 0] rfl
    have hD9 : va_D A [(mo, .inr (8, [.int (nI 1), .ref ms, .ref mk, .ref mv, .int (nI mm), .int (nI ml), .int (nI cnt), .ref mt, .int mp, .int mn, .int (nI mu), .ref ma, .int (nI at_), .int bd, .int le, .int ob, .ref m1, .ref m2, .ref m3, .ref m4, .int (nI rn), .int (nI pw), .ref mc])), (mk, .inl (cA 0, 18720, .inl kd))] := hD.sub [1, 0] (by decide) rfl
    exact W.iret (v := nI 0) hx hb hr (fun T9 ht hW => ⟨⟨_, (nI 1), rfl, kd_n q_n, by rw [ht]; exact hP9, hD9⟩, hS.F ht⟩) hS.2.2 xd_Mo_kind_47
  · obtain ⟨n, hn, e_n⟩ := so_T c_8_2
    refine lv_iload_n hx hb xd_Mo_kind_11 rfl (lv_at hl 2 rfl) ?_
    refine lv_iconst (v := nI 0) hx hb xd_Mo_kind_12 (by decide) ?_
    refine lv_bipush (v := nI 25) hx hb xd_Mo_kind_13 (by decide) ?_
    have hPc := hP.sub (ws' := []) [] rfl
    refine vp_callSi (va_Run.run (va_runS (As := [.int x1, .int (nI 0), .int (nI 25)]) (rest := [.ref mo]) ⟨hx, hb, hml, hown, hts⟩ (ct_Mo_in l G cA x1 (nI 0) (nI 25)) (cwS 3 hts (gi_s xm_693 xm_694 xm_9 xm_695) rfl rfl rfl ⟨rfl, xh_Mo_in⟩ ⟨Nat.le_of_ble_eq_true rfl, Nat.le_of_ble_eq_true rfl⟩) (ps_r hK hPc) rfl rfl hl.1 rfl (lv_room (Nat.le_of_ble_eq_true rfl)) xd_Mo_kind_15 ⟨Nat.le_of_ble_eq_true rfl, Nat.le_of_ble_eq_true rfl⟩)) (fun r_7 q_8 => ?_)
    refine lx_top (z := in_R x1 (nI 0) (nI 25)) (q_8) ?_
    refine lx_top (z := sp_ky x1) (in_ky _) ?_
    refine lv_if_eq (tgt := 25) hx hb xd_Mo_kind_18 (by decide) (fun c_18_8 => ?_) (fun c_18_8 => ?_)
    · have q_n : sp_ob x0 = 0 ∨ sp_ky x1 = 0 := Or.inr c_18_8
      refine lv_iconst (v := nI 0) hx hb xd_Mo_kind_25 (by decide) ?_
      have hPc := hP.sub (ws' := [(mo, .inr (8, [.int th, .ref ms, .ref mk, .ref mv, .int (nI mm), .int (nI ml), .int (nI cnt), .ref mt, .int mp, .int mn, .int (nI mu), .ref ma, .int (nI at_), .int bd, .int le, .int ob, .ref m1, .ref m2, .ref m3, .ref m4, .int (nI rn), .int (nI pw), .ref mc]))]) [0] rfl
      have hDc := hD.sub (ws' := [(mo, .inr (8, [.int th, .ref ms, .ref mk, .ref mv, .int (nI mm), .int (nI ml), .int (nI cnt), .ref mt, .int mp, .int mn, .int (nI mu), .ref ma, .int (nI at_), .int bd, .int le, .int ob, .ref m1, .ref m2, .ref m3, .ref m4, .int (nI rn), .int (nI pw), .ref mc]))]) [0] (by decide) rfl
      have hFc := va_free (wc := [(mo, .inr (8, [.int th, .ref ms, .ref mk, .ref mv, .int (nI mm), .int (nI ml), .int (nI cnt), .ref mt, .int mp, .int mn, .int (nI mu), .ref ma, .int (nI at_), .int bd, .int le, .int ob, .ref m1, .ref m2, .ref m3, .ref m4, .int (nI rn), .int (nI pw), .ref mc]))]) hD hS hA [0] rfl
      refine va_calli (va_runV (As := [.int (nI 0)]) (rest := []) ⟨hx, hb, hml, hown, hts⟩ (ct_Mo_goes l G cA s.heap.size mo th ms mk mv mm ml cnt mt mp mn mu ma at_ bd le ob m1 m2 m3 m4 rn pw mc (nI 0) (Or.inl rfl)) (cwV 1 hts (gi_v xm_787 xm_789 xs_Mo_goes xm_9 xm_790) rfl rfl rfl ⟨rfl, xh_Mo_goes⟩ ⟨Nat.le_of_ble_eq_true rfl, Nat.le_of_ble_eq_true rfl⟩) (pv_w hK hPc hDc (ci := 8) (q0 := 0) rfl rfl) rfl rfl hl.1 rfl (lv_room (Nat.le_of_ble_eq_true rfl)) xd_Mo_kind_26 ⟨Nat.le_of_ble_eq_true rfl, Nat.le_of_ble_eq_true rfl⟩) hS (fun q _ h => hFc q h) hFc (fun r_10 u9 t9 H1 locs ht hvm q_11 hB hz1 hk1 hS => ?_)
      obtain ⟨hP1, hD1⟩ := hB
      rw [ht] at hP1
      obtain ⟨hP, hD⟩ := va_join (wr := [(mk, .inl (cA 0, 18720, .inl kd))]) (w1 := [(mo, .inr (8, [.int (gs_T (nI 0)), .ref ms, .ref mk, .ref mv, .int (nI mm), .int (nI ml), .int (nI cnt), .ref mt, .int mp, .int mn, .int (nI mu), .ref ma, .int (nI at_), .int bd, .int le, .int ob, .ref m1, .ref m2, .ref m3, .ref m4, .int (nI rn), .int (nI pw), .ref mc]))]) hP hD [0] [1] rfl rfl (by decide) (by decide) hk1 hFc hP1 hD1
      generalize H1 = H at hP hS ⊢
      have hP : va_P G xk_cl [(mk, .inl (cA 0, 18720, .inl kd)), (mo, .inr (8, [.int (gs_T (nI 0)), .ref ms, .ref mk, .ref mv, .int (nI mm), .int (nI ml), .int (nI cnt), .ref mt, .int mp, .int mn, .int (nI mu), .ref ma, .int (nI at_), .int bd, .int le, .int ob, .ref m1, .ref m2, .ref m3, .ref m4, .int (nI rn), .int (nI pw), .ref mc]))] H := hP
      have hD : va_D A [(mk, .inl (cA 0, 18720, .inl kd)), (mo, .inr (8, [.int (gs_T (nI 0)), .ref ms, .ref mk, .ref mv, .int (nI mm), .int (nI ml), .int (nI cnt), .ref mt, .int mp, .int mn, .int (nI mu), .ref ma, .int (nI at_), .int bd, .int le, .int ob, .ref m1, .ref m2, .ref m3, .ref m4, .int (nI rn), .int (nI pw), .ref mc]))] := hD
      refine lx_top (z := nI 0) (q_11) ?_
      have hP : va_P G xk_cl [(mk, .inl (cA 0, 18720, .inl kd)), (mo, .inr (8, [.int (nI 1), .ref ms, .ref mk, .ref mv, .int (nI mm), .int (nI ml), .int (nI cnt), .ref mt, .int mp, .int mn, .int (nI mu), .ref ma, .int (nI at_), .int bd, .int le, .int ob, .ref m1, .ref m2, .ref m3, .ref m4, .int (nI rn), .int (nI pw), .ref mc]))] H := by skip; exact hP
      have hD : va_D A [(mk, .inl (cA 0, 18720, .inl kd)), (mo, .inr (8, [.int (nI 1), .ref ms, .ref mk, .ref mv, .int (nI mm), .int (nI ml), .int (nI cnt), .ref mt, .int mp, .int mn, .int (nI mu), .ref ma, .int (nI at_), .int bd, .int le, .int ob, .ref m1, .ref m2, .ref m3, .ref m4, .int (nI rn), .int (nI pw), .ref mc]))] := by skip; exact hD
      refine lv_if_eq (tgt := 46) hx hb xd_Mo_kind_29 (by decide) (fun c_29_11 => ?_) (fun c_29_11 => absurd (by decide) c_29_11)
      refine lv_iconst (v := nI 0) hx hb xd_Mo_kind_46 (by decide) ?_
      have hP9 : va_P G xk_cl [(mo, .inr (8, [.int (nI 1), .ref ms, .ref mk, .ref mv, .int (nI mm), .int (nI ml), .int (nI cnt), .ref mt, .int mp, .int mn, .int (nI mu), .ref ma, .int (nI at_), .int bd, .int le, .int ob, .ref m1, .ref m2, .ref m3, .ref m4, .int (nI rn), .int (nI pw), .ref mc])), (mk, .inl (cA 0, 18720, .inl kd))] _ := hP.sub [1, 0] rfl
      have hD9 : va_D A [(mo, .inr (8, [.int (nI 1), .ref ms, .ref mk, .ref mv, .int (nI mm), .int (nI ml), .int (nI cnt), .ref mt, .int mp, .int mn, .int (nI mu), .ref ma, .int (nI at_), .int bd, .int le, .int ob, .ref m1, .ref m2, .ref m3, .ref m4, .int (nI rn), .int (nI pw), .ref mc])), (mk, .inl (cA 0, 18720, .inl kd))] := hD.sub [1, 0] (by decide) rfl
      exact W.iret (v := nI 0) hx hb hr (fun T9 ht hW => ⟨⟨_, (nI 1), rfl, kd_n q_n, by rw [ht]; exact hP9, hD9⟩, hS.F ht⟩) hS.2.2 xd_Mo_kind_47
    · obtain ⟨k, hk, e_k⟩ := sk_T c_18_8
      refine lv_iconst (v := nI 1) hx hb xd_Mo_kind_21 (by decide) ?_
      refine lv_goto (tgt := 26) hx hb xd_Mo_kind_22 (by decide) ?_
      have hPc := hP.sub (ws' := [(mo, .inr (8, [.int th, .ref ms, .ref mk, .ref mv, .int (nI mm), .int (nI ml), .int (nI cnt), .ref mt, .int mp, .int mn, .int (nI mu), .ref ma, .int (nI at_), .int bd, .int le, .int ob, .ref m1, .ref m2, .ref m3, .ref m4, .int (nI rn), .int (nI pw), .ref mc]))]) [0] rfl
      have hDc := hD.sub (ws' := [(mo, .inr (8, [.int th, .ref ms, .ref mk, .ref mv, .int (nI mm), .int (nI ml), .int (nI cnt), .ref mt, .int mp, .int mn, .int (nI mu), .ref ma, .int (nI at_), .int bd, .int le, .int ob, .ref m1, .ref m2, .ref m3, .ref m4, .int (nI rn), .int (nI pw), .ref mc]))]) [0] (by decide) rfl
      have hFc := va_free (wc := [(mo, .inr (8, [.int th, .ref ms, .ref mk, .ref mv, .int (nI mm), .int (nI ml), .int (nI cnt), .ref mt, .int mp, .int mn, .int (nI mu), .ref ma, .int (nI at_), .int bd, .int le, .int ob, .ref m1, .ref m2, .ref m3, .ref m4, .int (nI rn), .int (nI pw), .ref mc]))]) hD hS hA [0] rfl
      refine va_calli (va_runV (As := [.int (nI 1)]) (rest := []) ⟨hx, hb, hml, hown, hts⟩ (ct_Mo_goes l G cA s.heap.size mo th ms mk mv mm ml cnt mt mp mn mu ma at_ bd le ob m1 m2 m3 m4 rn pw mc (nI 1) (Or.inr rfl)) (cwV 1 hts (gi_v xm_787 xm_789 xs_Mo_goes xm_9 xm_790) rfl rfl rfl ⟨rfl, xh_Mo_goes⟩ ⟨Nat.le_of_ble_eq_true rfl, Nat.le_of_ble_eq_true rfl⟩) (pv_w hK hPc hDc (ci := 8) (q0 := 0) rfl rfl) rfl rfl hl.1 rfl (lv_room (Nat.le_of_ble_eq_true rfl)) xd_Mo_kind_26 ⟨Nat.le_of_ble_eq_true rfl, Nat.le_of_ble_eq_true rfl⟩) hS (fun q _ h => hFc q h) hFc (fun r_13 u9 t9 H1 locs ht hvm q_14 hB hz1 hk1 hS => ?_)
      obtain ⟨hP1, hD1⟩ := hB
      rw [ht] at hP1
      obtain ⟨hP, hD⟩ := va_join (wr := [(mk, .inl (cA 0, 18720, .inl kd))]) (w1 := [(mo, .inr (8, [.int (gs_T (nI 1)), .ref ms, .ref mk, .ref mv, .int (nI mm), .int (nI ml), .int (nI cnt), .ref mt, .int mp, .int mn, .int (nI mu), .ref ma, .int (nI at_), .int bd, .int le, .int ob, .ref m1, .ref m2, .ref m3, .ref m4, .int (nI rn), .int (nI pw), .ref mc]))]) hP hD [0] [1] rfl rfl (by decide) (by decide) hk1 hFc hP1 hD1
      generalize H1 = H at hP hS ⊢
      have hP : va_P G xk_cl [(mk, .inl (cA 0, 18720, .inl kd)), (mo, .inr (8, [.int (gs_T (nI 1)), .ref ms, .ref mk, .ref mv, .int (nI mm), .int (nI ml), .int (nI cnt), .ref mt, .int mp, .int mn, .int (nI mu), .ref ma, .int (nI at_), .int bd, .int le, .int ob, .ref m1, .ref m2, .ref m3, .ref m4, .int (nI rn), .int (nI pw), .ref mc]))] H := hP
      have hD : va_D A [(mk, .inl (cA 0, 18720, .inl kd)), (mo, .inr (8, [.int (gs_T (nI 1)), .ref ms, .ref mk, .ref mv, .int (nI mm), .int (nI ml), .int (nI cnt), .ref mt, .int mp, .int mn, .int (nI mu), .ref ma, .int (nI at_), .int bd, .int le, .int ob, .ref m1, .ref m2, .ref m3, .ref m4, .int (nI rn), .int (nI pw), .ref mc]))] := hD
      refine lx_top (z := nI 1) (q_14) ?_
      have hP : va_P G xk_cl [(mk, .inl (cA 0, 18720, .inl kd)), (mo, .inr (8, [.int (nI 0), .ref ms, .ref mk, .ref mv, .int (nI mm), .int (nI ml), .int (nI cnt), .ref mt, .int mp, .int mn, .int (nI mu), .ref ma, .int (nI at_), .int bd, .int le, .int ob, .ref m1, .ref m2, .ref m3, .ref m4, .int (nI rn), .int (nI pw), .ref mc]))] H := by skip; exact hP
      have hD : va_D A [(mk, .inl (cA 0, 18720, .inl kd)), (mo, .inr (8, [.int (nI 0), .ref ms, .ref mk, .ref mv, .int (nI mm), .int (nI ml), .int (nI cnt), .ref mt, .int mp, .int mn, .int (nI mu), .ref ma, .int (nI at_), .int bd, .int le, .int ob, .ref m1, .ref m2, .ref m3, .ref m4, .int (nI rn), .int (nI pw), .ref mc]))] := by skip; exact hD
      refine lv_if_eq (tgt := 46) hx hb xd_Mo_kind_29 (by decide) (fun c_29_14 => absurd c_29_14 (by decide)) (fun c_29_14 => ?_)
      refine lv_aload_n hx hb xd_Mo_kind_32 rfl (lv_at hl 0 rfl) ?_
      refine va_get (D := G) (ci := 8) (v := .ref mk) (C := xc_Mo) (T := xf_Mo) (N := 23) hx hb hts xw_Mo hown hK.1 hP 1 rfl rfl 2 (by decide) (hts _ xm_621) (fun _ h9 => h9) rfl xd_Mo_kind_33 ?_
      subst e_n
      subst e_k
      refine lv_bipush (v := nI 26) hx hb xd_Mo_kind_36 (by decide) ?_
      refine lv_iload_n hx hb xd_Mo_kind_38 rfl (lv_at hl 1 rfl) ?_
      refine lx_imul (z := nI (26 * n)) hx hb xd_Mo_kind_39 (pk_mul _ _) ?_
      refine lv_iload_n hx hb xd_Mo_kind_40 rfl (lv_at hl 2 rfl) ?_
      refine lx_iadd (z := nI (26 * n + k)) hx hb xd_Mo_kind_41 (nI_add _ _) ?_
      refine wx_iald hx hb hK.1 hP 0 0 rfl rfl (k := 26 * n + k) (by omega) (by decide) xd_Mo_kind_42 ?_
      refine lv_goto (tgt := 47) hx hb xd_Mo_kind_43 (by decide) ?_
      have hP9 : va_P G xk_cl [(mo, .inr (8, [.int (nI 0), .ref ms, .ref mk, .ref mv, .int (nI mm), .int (nI ml), .int (nI cnt), .ref mt, .int mp, .int mn, .int (nI mu), .ref ma, .int (nI at_), .int bd, .int le, .int ob, .ref m1, .ref m2, .ref m3, .ref m4, .int (nI rn), .int (nI pw), .ref mc])), (mk, .inl (cA 0, 18720, .inl kd))] _ := hP.sub [1, 0] rfl
      have hD9 : va_D A [(mo, .inr (8, [.int (nI 0), .ref ms, .ref mk, .ref mv, .int (nI mm), .int (nI ml), .int (nI cnt), .ref mt, .int mp, .int mn, .int (nI mu), .ref ma, .int (nI at_), .int bd, .int le, .int ob, .ref m1, .ref m2, .ref m3, .ref m4, .int (nI rn), .int (nI pw), .ref mc])), (mk, .inl (cA 0, 18720, .inl kd))] := hD.sub [1, 0] (by decide) rfl
      exact W.iret (v := kd (26 * n + k)) hx hb hr (fun T9 ht hW => ⟨⟨_, (nI 0), rfl, kd_y (f := en_K) (ce := ce) (r := kd (26 * n + k)) hn hk (by rw [Nat.mul_comm 26 n]; exact (hR.2 _ (by omega)).1), by rw [ht]; exact hP9, hD9⟩, hS.F ht⟩) hS.2.2 xd_Mo_kind_47
set_option maxHeartbeats 4000000 in
set_option maxRecDepth 100000 in
theorem ct_Mo_value_1 (l : Launch) (G : va_G) (cA : Nat → ClassId) (sz : Nat) (mo : Nat) (th : Int32) (ms : Nat) (mk : Nat) (mv : Nat) (mm : Nat) (ml : Nat) (cnt : Nat) (mt : Nat) (mp : Int32) (mn : Int32) (mu : Nat) (ma : Nat) (at_ : Nat) (bd : Int32) (le : Int32) (ob : Int32) (m1 : Nat) (m2 : Nat) (m3 : Nat) (m4 : Nat) (rn : Nat) (pw : Nat) (mc : Nat) (sa : Nat → Int32) (kd : Nat → Int32) (vl : Nat → Int32) (st : Nat → Int32) (ce : Nat → Int32) (x0 : Int32) (x1 : Int32) (hR : sn_R sa kd vl st ce) : Met l xy_Mo_value_1 (.code xy_Mo_value_1 xb_Mo_value_1 3 (some .int) :: tw_W) ({ frames := 1, cells := 0, slots := 0, locals := 22 }) (pc_w G cA [(mo, .inr (8, [.int th, .ref ms, .ref mk, .ref mv, .int (nI mm), .int (nI ml), .int (nI cnt), .ref mt, .int mp, .int mn, .int (nI mu), .ref ma, .int (nI at_), .int bd, .int le, .int ob, .ref m1, .ref m2, .ref m3, .ref m4, .int (nI rn), .int (nI pw), .ref mc])), (mv, .inl (cA 0, 18720, .inl vl))] sz [.ref mo, .int x0, .int x1]) (va_Qi (fun (r : Int32) (u9 : Int32) => match u9 with | (th2) => kd_R en_V ce x0 x1 r th2) (fun u9 T9 => match u9 with | (th2) => at_w G (va_A [(mo, .inr (8, [.int th, .ref ms, .ref mk, .ref mv, .int (nI mm), .int (nI ml), .int (nI cnt), .ref mt, .int mp, .int mn, .int (nI mu), .ref ma, .int (nI at_), .int bd, .int le, .int ob, .ref m1, .ref m2, .ref m3, .ref m4, .int (nI rn), .int (nI pw), .ref mc])), (mv, .inl (cA 0, 18720, .inl vl))] sz) [(mo, .inr (8, [.int th2, .ref ms, .ref mk, .ref mv, .int (nI mm), .int (nI ml), .int (nI cnt), .ref mt, .int mp, .int mn, .int (nI mu), .ref ma, .int (nI at_), .int bd, .int le, .int ob, .ref m1, .ref m2, .ref m3, .ref m4, .int (nI rn), .int (nI pw), .ref mc])), (mv, .inl (cA 0, 18720, .inl vl))] T9) (va_A [(mo, .inr (8, [.int th, .ref ms, .ref mk, .ref mv, .int (nI mm), .int (nI ml), .int (nI cnt), .ref mt, .int mp, .int mn, .int (nI mu), .ref ma, .int (nI at_), .int bd, .int le, .int ob, .ref m1, .ref m2, .ref m3, .ref m4, .int (nI rn), .int (nI pw), .ref mc])), (mv, .inl (cA 0, 18720, .inl vl))] sz)) 0 0 (va_A [(mo, .inr (8, [.int th, .ref ms, .ref mk, .ref mv, .int (nI mm), .int (nI ml), .int (nI cnt), .ref mt, .int mp, .int mn, .int (nI mu), .ref ma, .int (nI at_), .int bd, .int le, .int ob, .ref m1, .ref m2, .ref m3, .ref m4, .int (nI rn), .int (nI pw), .ref mc])), (mv, .inl (cA 0, 18720, .inl vl))] sz) := by
  refine Met.ofW (cc := xb_Mo_value_1) (maxL := 3) (ret := (some .int)) (by decide) rfl ?_
  intro p e s m args below meth c s₁ B hml hv
  obtain ⟨rfl, hsz, hK, hP, hD0⟩ := hv
  have hx := B.exec
  have hb := B.bytes
  have hr := B.returns
  have hts0 := atoms_spec (ws := .code xy_Mo_value_1 xb_Mo_value_1 3 (some .int) :: tw_W) B.pre
  have hts : ∀ w9 ∈ tw_W, w9.before [.ref mo, .int x0, .int x1].toArray s = true := fun w9 h9 => hts0 w9 (List.mem_cons_of_mem _ h9)
  have hown : s.vm.findClass xc_Mo = some m.cls := findClass_of_methodNamed B.named
  have hlocks := B.notSynchronized
  subst hsz
  have hD := hD0.self (sz := s.heap.size)
  generalize hAe : va_A [(mo, .inr (8, [.int th, .ref ms, .ref mk, .ref mv, .int (nI mm), .int (nI ml), .int (nI cnt), .ref mt, .int mp, .int mn, .int (nI mu), .ref ma, .int (nI at_), .int bd, .int le, .int ob, .ref m1, .ref m2, .ref m3, .ref m4, .int (nI rn), .int (nI pw), .ref mc])), (mv, .inl (cA 0, 18720, .inl vl))] s.heap.size = A at hD ⊢
  have hA : ∀ q : Nat, s.heap.size ≤ q → A q := fun q h => by rw [← hAe]; exact Or.inr h
  have hS : va_S A s.heap s.heap [] := va_S.rf
  have hP : va_P G xk_cl [(mo, .inr (8, [.int th, .ref ms, .ref mk, .ref mv, .int (nI mm), .int (nI ml), .int (nI cnt), .ref mt, .int mp, .int mn, .int (nI mu), .ref ma, .int (nI at_), .int bd, .int le, .int ob, .ref m1, .ref m2, .ref m3, .ref m4, .int (nI rn), .int (nI pw), .ref mc])), (mv, .inl (cA 0, 18720, .inl vl))] s.heap := hP
  have hl := lv_entry ([.ref mo, .int x0, .int x1]) (n := 3) (Nat.le_of_ble_eq_true rfl)
  rw [lg_entry_eq]
  generalize (lg_sl ([.ref mo, .int x0, .int x1]) ++ List.replicate (3 - (lg_sl ([.ref mo, .int x0, .int x1])).length) Slot.unset).toArray = ls at hl ⊢
  have hl : lv_has ls 3 [(0, .ref mo), (1, .int x0), (2, .int x1)] := hl
  refine lv_aload_n hx hb xd_Mo_value_1_0 rfl (lv_at hl 0 rfl) ?_
  refine lv_iload_n hx hb xd_Mo_value_1_1 rfl (lv_at hl 1 rfl) ?_
  refine lv_iconst (v := nI 0) hx hb xd_Mo_value_1_2 (by decide) ?_
  refine lv_bipush (v := nI 39) hx hb xd_Mo_value_1_3 (by decide) ?_
  have hPc := hP.sub (ws' := []) [] rfl
  refine vp_callSi (va_Run.run (va_runS (As := [.int x0, .int (nI 0), .int (nI 39)]) (rest := [.ref mo]) ⟨hx, hb, hml, hown, hts⟩ (ct_Mo_in l G cA x0 (nI 0) (nI 39)) (cwS 3 hts (gi_s xm_693 xm_694 xm_9 xm_695) rfl rfl rfl ⟨rfl, xh_Mo_in⟩ ⟨Nat.le_of_ble_eq_true rfl, Nat.le_of_ble_eq_true rfl⟩) (ps_r hK hPc) rfl rfl hl.1 rfl (lv_room (Nat.le_of_ble_eq_true rfl)) xd_Mo_value_1_5 ⟨Nat.le_of_ble_eq_true rfl, Nat.le_of_ble_eq_true rfl⟩)) (fun r_1 q_2 => ?_)
  refine lx_top (z := in_R x0 (nI 0) (nI 39)) (q_2) ?_
  refine lx_top (z := sp_ob x0) (in_ob _) ?_
  refine lv_if_eq (tgt := 25) hx hb xd_Mo_value_1_8 (by decide) (fun c_8_2 => ?_) (fun c_8_2 => ?_)
  · have q_n : sp_ob x0 = 0 ∨ sp_ky x1 = 0 := Or.inl c_8_2
    refine lv_iconst (v := nI 0) hx hb xd_Mo_value_1_25 (by decide) ?_
    have hPc := hP.sub (ws' := [(mo, .inr (8, [.int th, .ref ms, .ref mk, .ref mv, .int (nI mm), .int (nI ml), .int (nI cnt), .ref mt, .int mp, .int mn, .int (nI mu), .ref ma, .int (nI at_), .int bd, .int le, .int ob, .ref m1, .ref m2, .ref m3, .ref m4, .int (nI rn), .int (nI pw), .ref mc]))]) [0] rfl
    have hDc := hD.sub (ws' := [(mo, .inr (8, [.int th, .ref ms, .ref mk, .ref mv, .int (nI mm), .int (nI ml), .int (nI cnt), .ref mt, .int mp, .int mn, .int (nI mu), .ref ma, .int (nI at_), .int bd, .int le, .int ob, .ref m1, .ref m2, .ref m3, .ref m4, .int (nI rn), .int (nI pw), .ref mc]))]) [0] (by decide) rfl
    have hFc := va_free (wc := [(mo, .inr (8, [.int th, .ref ms, .ref mk, .ref mv, .int (nI mm), .int (nI ml), .int (nI cnt), .ref mt, .int mp, .int mn, .int (nI mu), .ref ma, .int (nI at_), .int bd, .int le, .int ob, .ref m1, .ref m2, .ref m3, .ref m4, .int (nI rn), .int (nI pw), .ref mc]))]) hD hS hA [0] rfl
    refine va_calli (va_runV (As := [.int (nI 0)]) (rest := []) ⟨hx, hb, hml, hown, hts⟩ (ct_Mo_goes l G cA s.heap.size mo th ms mk mv mm ml cnt mt mp mn mu ma at_ bd le ob m1 m2 m3 m4 rn pw mc (nI 0) (Or.inl rfl)) (cwV 1 hts (gi_v xm_787 xm_789 xs_Mo_goes xm_9 xm_790) rfl rfl rfl ⟨rfl, xh_Mo_goes⟩ ⟨Nat.le_of_ble_eq_true rfl, Nat.le_of_ble_eq_true rfl⟩) (pv_w hK hPc hDc (ci := 8) (q0 := 0) rfl rfl) rfl rfl hl.1 rfl (lv_room (Nat.le_of_ble_eq_true rfl)) xd_Mo_value_1_26 ⟨Nat.le_of_ble_eq_true rfl, Nat.le_of_ble_eq_true rfl⟩) hS (fun q _ h => hFc q h) hFc (fun r_4 u9 t9 H1 locs ht hvm q_5 hB hz1 hk1 hS => ?_)
    obtain ⟨hP1, hD1⟩ := hB
    rw [ht] at hP1
    obtain ⟨hP, hD⟩ := va_join (wr := [(mv, .inl (cA 0, 18720, .inl vl))]) (w1 := [(mo, .inr (8, [.int (gs_T (nI 0)), .ref ms, .ref mk, .ref mv, .int (nI mm), .int (nI ml), .int (nI cnt), .ref mt, .int mp, .int mn, .int (nI mu), .ref ma, .int (nI at_), .int bd, .int le, .int ob, .ref m1, .ref m2, .ref m3, .ref m4, .int (nI rn), .int (nI pw), .ref mc]))]) hP hD [0] [1] rfl rfl (by decide) (by decide) hk1 hFc hP1 hD1
    generalize H1 = H at hP hS ⊢
    have hP : va_P G xk_cl [(mv, .inl (cA 0, 18720, .inl vl)), (mo, .inr (8, [.int (gs_T (nI 0)), .ref ms, .ref mk, .ref mv, .int (nI mm), .int (nI ml), .int (nI cnt), .ref mt, .int mp, .int mn, .int (nI mu), .ref ma, .int (nI at_), .int bd, .int le, .int ob, .ref m1, .ref m2, .ref m3, .ref m4, .int (nI rn), .int (nI pw), .ref mc]))] H := hP
    have hD : va_D A [(mv, .inl (cA 0, 18720, .inl vl)), (mo, .inr (8, [.int (gs_T (nI 0)), .ref ms, .ref mk, .ref mv, .int (nI mm), .int (nI ml), .int (nI cnt), .ref mt, .int mp, .int mn, .int (nI mu), .ref ma, .int (nI at_), .int bd, .int le, .int ob, .ref m1, .ref m2, .ref m3, .ref m4, .int (nI rn), .int (nI pw), .ref mc]))] := hD
    refine lx_top (z := nI 0) (q_5) ?_
    have hP : va_P G xk_cl [(mv, .inl (cA 0, 18720, .inl vl)), (mo, .inr (8, [.int (nI 1), .ref ms, .ref mk, .ref mv, .int (nI mm), .int (nI ml), .int (nI cnt), .ref mt, .int mp, .int mn, .int (nI mu), .ref ma, .int (nI at_), .int bd, .int le, .int ob, .ref m1, .ref m2, .ref m3, .ref m4, .int (nI rn), .int (nI pw), .ref mc]))] H := by skip; exact hP
    have hD : va_D A [(mv, .inl (cA 0, 18720, .inl vl)), (mo, .inr (8, [.int (nI 1), .ref ms, .ref mk, .ref mv, .int (nI mm), .int (nI ml), .int (nI cnt), .ref mt, .int mp, .int mn, .int (nI mu), .ref ma, .int (nI at_), .int bd, .int le, .int ob, .ref m1, .ref m2, .ref m3, .ref m4, .int (nI rn), .int (nI pw), .ref mc]))] := by skip; exact hD
    refine lv_if_eq (tgt := 46) hx hb xd_Mo_value_1_29 (by decide) (fun c_29_5 => ?_) (fun c_29_5 => absurd (by decide) c_29_5)
    refine lv_iconst (v := nI 0) hx hb xd_Mo_value_1_46 (by decide) ?_
    have hP9 : va_P G xk_cl [(mo, .inr (8, [.int (nI 1), .ref ms, .ref mk, .ref mv, .int (nI mm), .int (nI ml), .int (nI cnt), .ref mt, .int mp, .int mn, .int (nI mu), .ref ma, .int (nI at_), .int bd, .int le, .int ob, .ref m1, .ref m2, .ref m3, .ref m4, .int (nI rn), .int (nI pw), .ref mc])), (mv, .inl (cA 0, 18720, .inl vl))] _ := hP.sub [1, 0] rfl
    have hD9 : va_D A [(mo, .inr (8, [.int (nI 1), .ref ms, .ref mk, .ref mv, .int (nI mm), .int (nI ml), .int (nI cnt), .ref mt, .int mp, .int mn, .int (nI mu), .ref ma, .int (nI at_), .int bd, .int le, .int ob, .ref m1, .ref m2, .ref m3, .ref m4, .int (nI rn), .int (nI pw), .ref mc])), (mv, .inl (cA 0, 18720, .inl vl))] := hD.sub [1, 0] (by decide) rfl
    exact W.iret (v := nI 0) hx hb hr (fun T9 ht hW => ⟨⟨_, (nI 1), rfl, kd_n q_n, by rw [ht]; exact hP9, hD9⟩, hS.F ht⟩) hS.2.2 xd_Mo_value_1_47
  · obtain ⟨n, hn, e_n⟩ := so_T c_8_2
    refine lv_iload_n hx hb xd_Mo_value_1_11 rfl (lv_at hl 2 rfl) ?_
    refine lv_iconst (v := nI 0) hx hb xd_Mo_value_1_12 (by decide) ?_
    refine lv_bipush (v := nI 25) hx hb xd_Mo_value_1_13 (by decide) ?_
    have hPc := hP.sub (ws' := []) [] rfl
    refine vp_callSi (va_Run.run (va_runS (As := [.int x1, .int (nI 0), .int (nI 25)]) (rest := [.ref mo]) ⟨hx, hb, hml, hown, hts⟩ (ct_Mo_in l G cA x1 (nI 0) (nI 25)) (cwS 3 hts (gi_s xm_693 xm_694 xm_9 xm_695) rfl rfl rfl ⟨rfl, xh_Mo_in⟩ ⟨Nat.le_of_ble_eq_true rfl, Nat.le_of_ble_eq_true rfl⟩) (ps_r hK hPc) rfl rfl hl.1 rfl (lv_room (Nat.le_of_ble_eq_true rfl)) xd_Mo_value_1_15 ⟨Nat.le_of_ble_eq_true rfl, Nat.le_of_ble_eq_true rfl⟩)) (fun r_7 q_8 => ?_)
    refine lx_top (z := in_R x1 (nI 0) (nI 25)) (q_8) ?_
    refine lx_top (z := sp_ky x1) (in_ky _) ?_
    refine lv_if_eq (tgt := 25) hx hb xd_Mo_value_1_18 (by decide) (fun c_18_8 => ?_) (fun c_18_8 => ?_)
    · have q_n : sp_ob x0 = 0 ∨ sp_ky x1 = 0 := Or.inr c_18_8
      refine lv_iconst (v := nI 0) hx hb xd_Mo_value_1_25 (by decide) ?_
      have hPc := hP.sub (ws' := [(mo, .inr (8, [.int th, .ref ms, .ref mk, .ref mv, .int (nI mm), .int (nI ml), .int (nI cnt), .ref mt, .int mp, .int mn, .int (nI mu), .ref ma, .int (nI at_), .int bd, .int le, .int ob, .ref m1, .ref m2, .ref m3, .ref m4, .int (nI rn), .int (nI pw), .ref mc]))]) [0] rfl
      have hDc := hD.sub (ws' := [(mo, .inr (8, [.int th, .ref ms, .ref mk, .ref mv, .int (nI mm), .int (nI ml), .int (nI cnt), .ref mt, .int mp, .int mn, .int (nI mu), .ref ma, .int (nI at_), .int bd, .int le, .int ob, .ref m1, .ref m2, .ref m3, .ref m4, .int (nI rn), .int (nI pw), .ref mc]))]) [0] (by decide) rfl
      have hFc := va_free (wc := [(mo, .inr (8, [.int th, .ref ms, .ref mk, .ref mv, .int (nI mm), .int (nI ml), .int (nI cnt), .ref mt, .int mp, .int mn, .int (nI mu), .ref ma, .int (nI at_), .int bd, .int le, .int ob, .ref m1, .ref m2, .ref m3, .ref m4, .int (nI rn), .int (nI pw), .ref mc]))]) hD hS hA [0] rfl
      refine va_calli (va_runV (As := [.int (nI 0)]) (rest := []) ⟨hx, hb, hml, hown, hts⟩ (ct_Mo_goes l G cA s.heap.size mo th ms mk mv mm ml cnt mt mp mn mu ma at_ bd le ob m1 m2 m3 m4 rn pw mc (nI 0) (Or.inl rfl)) (cwV 1 hts (gi_v xm_787 xm_789 xs_Mo_goes xm_9 xm_790) rfl rfl rfl ⟨rfl, xh_Mo_goes⟩ ⟨Nat.le_of_ble_eq_true rfl, Nat.le_of_ble_eq_true rfl⟩) (pv_w hK hPc hDc (ci := 8) (q0 := 0) rfl rfl) rfl rfl hl.1 rfl (lv_room (Nat.le_of_ble_eq_true rfl)) xd_Mo_value_1_26 ⟨Nat.le_of_ble_eq_true rfl, Nat.le_of_ble_eq_true rfl⟩) hS (fun q _ h => hFc q h) hFc (fun r_10 u9 t9 H1 locs ht hvm q_11 hB hz1 hk1 hS => ?_)
      obtain ⟨hP1, hD1⟩ := hB
      rw [ht] at hP1
      obtain ⟨hP, hD⟩ := va_join (wr := [(mv, .inl (cA 0, 18720, .inl vl))]) (w1 := [(mo, .inr (8, [.int (gs_T (nI 0)), .ref ms, .ref mk, .ref mv, .int (nI mm), .int (nI ml), .int (nI cnt), .ref mt, .int mp, .int mn, .int (nI mu), .ref ma, .int (nI at_), .int bd, .int le, .int ob, .ref m1, .ref m2, .ref m3, .ref m4, .int (nI rn), .int (nI pw), .ref mc]))]) hP hD [0] [1] rfl rfl (by decide) (by decide) hk1 hFc hP1 hD1
      generalize H1 = H at hP hS ⊢
      have hP : va_P G xk_cl [(mv, .inl (cA 0, 18720, .inl vl)), (mo, .inr (8, [.int (gs_T (nI 0)), .ref ms, .ref mk, .ref mv, .int (nI mm), .int (nI ml), .int (nI cnt), .ref mt, .int mp, .int mn, .int (nI mu), .ref ma, .int (nI at_), .int bd, .int le, .int ob, .ref m1, .ref m2, .ref m3, .ref m4, .int (nI rn), .int (nI pw), .ref mc]))] H := hP
      have hD : va_D A [(mv, .inl (cA 0, 18720, .inl vl)), (mo, .inr (8, [.int (gs_T (nI 0)), .ref ms, .ref mk, .ref mv, .int (nI mm), .int (nI ml), .int (nI cnt), .ref mt, .int mp, .int mn, .int (nI mu), .ref ma, .int (nI at_), .int bd, .int le, .int ob, .ref m1, .ref m2, .ref m3, .ref m4, .int (nI rn), .int (nI pw), .ref mc]))] := hD
      refine lx_top (z := nI 0) (q_11) ?_
      have hP : va_P G xk_cl [(mv, .inl (cA 0, 18720, .inl vl)), (mo, .inr (8, [.int (nI 1), .ref ms, .ref mk, .ref mv, .int (nI mm), .int (nI ml), .int (nI cnt), .ref mt, .int mp, .int mn, .int (nI mu), .ref ma, .int (nI at_), .int bd, .int le, .int ob, .ref m1, .ref m2, .ref m3, .ref m4, .int (nI rn), .int (nI pw), .ref mc]))] H := by skip; exact hP
      have hD : va_D A [(mv, .inl (cA 0, 18720, .inl vl)), (mo, .inr (8, [.int (nI 1), .ref ms, .ref mk, .ref mv, .int (nI mm), .int (nI ml), .int (nI cnt), .ref mt, .int mp, .int mn, .int (nI mu), .ref ma, .int (nI at_), .int bd, .int le, .int ob, .ref m1, .ref m2, .ref m3, .ref m4, .int (nI rn), .int (nI pw), .ref mc]))] := by skip; exact hD
      refine lv_if_eq (tgt := 46) hx hb xd_Mo_value_1_29 (by decide) (fun c_29_11 => ?_) (fun c_29_11 => absurd (by decide) c_29_11)
      refine lv_iconst (v := nI 0) hx hb xd_Mo_value_1_46 (by decide) ?_
      have hP9 : va_P G xk_cl [(mo, .inr (8, [.int (nI 1), .ref ms, .ref mk, .ref mv, .int (nI mm), .int (nI ml), .int (nI cnt), .ref mt, .int mp, .int mn, .int (nI mu), .ref ma, .int (nI at_), .int bd, .int le, .int ob, .ref m1, .ref m2, .ref m3, .ref m4, .int (nI rn), .int (nI pw), .ref mc])), (mv, .inl (cA 0, 18720, .inl vl))] _ := hP.sub [1, 0] rfl
      have hD9 : va_D A [(mo, .inr (8, [.int (nI 1), .ref ms, .ref mk, .ref mv, .int (nI mm), .int (nI ml), .int (nI cnt), .ref mt, .int mp, .int mn, .int (nI mu), .ref ma, .int (nI at_), .int bd, .int le, .int ob, .ref m1, .ref m2, .ref m3, .ref m4, .int (nI rn), .int (nI pw), .ref mc])), (mv, .inl (cA 0, 18720, .inl vl))] := hD.sub [1, 0] (by decide) rfl
      exact W.iret (v := nI 0) hx hb hr (fun T9 ht hW => ⟨⟨_, (nI 1), rfl, kd_n q_n, by rw [ht]; exact hP9, hD9⟩, hS.F ht⟩) hS.2.2 xd_Mo_value_1_47
    · obtain ⟨k, hk, e_k⟩ := sk_T c_18_8
      refine lv_iconst (v := nI 1) hx hb xd_Mo_value_1_21 (by decide) ?_
      refine lv_goto (tgt := 26) hx hb xd_Mo_value_1_22 (by decide) ?_
      have hPc := hP.sub (ws' := [(mo, .inr (8, [.int th, .ref ms, .ref mk, .ref mv, .int (nI mm), .int (nI ml), .int (nI cnt), .ref mt, .int mp, .int mn, .int (nI mu), .ref ma, .int (nI at_), .int bd, .int le, .int ob, .ref m1, .ref m2, .ref m3, .ref m4, .int (nI rn), .int (nI pw), .ref mc]))]) [0] rfl
      have hDc := hD.sub (ws' := [(mo, .inr (8, [.int th, .ref ms, .ref mk, .ref mv, .int (nI mm), .int (nI ml), .int (nI cnt), .ref mt, .int mp, .int mn, .int (nI mu), .ref ma, .int (nI at_), .int bd, .int le, .int ob, .ref m1, .ref m2, .ref m3, .ref m4, .int (nI rn), .int (nI pw), .ref mc]))]) [0] (by decide) rfl
      have hFc := va_free (wc := [(mo, .inr (8, [.int th, .ref ms, .ref mk, .ref mv, .int (nI mm), .int (nI ml), .int (nI cnt), .ref mt, .int mp, .int mn, .int (nI mu), .ref ma, .int (nI at_), .int bd, .int le, .int ob, .ref m1, .ref m2, .ref m3, .ref m4, .int (nI rn), .int (nI pw), .ref mc]))]) hD hS hA [0] rfl
      refine va_calli (va_runV (As := [.int (nI 1)]) (rest := []) ⟨hx, hb, hml, hown, hts⟩ (ct_Mo_goes l G cA s.heap.size mo th ms mk mv mm ml cnt mt mp mn mu ma at_ bd le ob m1 m2 m3 m4 rn pw mc (nI 1) (Or.inr rfl)) (cwV 1 hts (gi_v xm_787 xm_789 xs_Mo_goes xm_9 xm_790) rfl rfl rfl ⟨rfl, xh_Mo_goes⟩ ⟨Nat.le_of_ble_eq_true rfl, Nat.le_of_ble_eq_true rfl⟩) (pv_w hK hPc hDc (ci := 8) (q0 := 0) rfl rfl) rfl rfl hl.1 rfl (lv_room (Nat.le_of_ble_eq_true rfl)) xd_Mo_value_1_26 ⟨Nat.le_of_ble_eq_true rfl, Nat.le_of_ble_eq_true rfl⟩) hS (fun q _ h => hFc q h) hFc (fun r_13 u9 t9 H1 locs ht hvm q_14 hB hz1 hk1 hS => ?_)
      obtain ⟨hP1, hD1⟩ := hB
      rw [ht] at hP1
      obtain ⟨hP, hD⟩ := va_join (wr := [(mv, .inl (cA 0, 18720, .inl vl))]) (w1 := [(mo, .inr (8, [.int (gs_T (nI 1)), .ref ms, .ref mk, .ref mv, .int (nI mm), .int (nI ml), .int (nI cnt), .ref mt, .int mp, .int mn, .int (nI mu), .ref ma, .int (nI at_), .int bd, .int le, .int ob, .ref m1, .ref m2, .ref m3, .ref m4, .int (nI rn), .int (nI pw), .ref mc]))]) hP hD [0] [1] rfl rfl (by decide) (by decide) hk1 hFc hP1 hD1
      generalize H1 = H at hP hS ⊢
      have hP : va_P G xk_cl [(mv, .inl (cA 0, 18720, .inl vl)), (mo, .inr (8, [.int (gs_T (nI 1)), .ref ms, .ref mk, .ref mv, .int (nI mm), .int (nI ml), .int (nI cnt), .ref mt, .int mp, .int mn, .int (nI mu), .ref ma, .int (nI at_), .int bd, .int le, .int ob, .ref m1, .ref m2, .ref m3, .ref m4, .int (nI rn), .int (nI pw), .ref mc]))] H := hP
      have hD : va_D A [(mv, .inl (cA 0, 18720, .inl vl)), (mo, .inr (8, [.int (gs_T (nI 1)), .ref ms, .ref mk, .ref mv, .int (nI mm), .int (nI ml), .int (nI cnt), .ref mt, .int mp, .int mn, .int (nI mu), .ref ma, .int (nI at_), .int bd, .int le, .int ob, .ref m1, .ref m2, .ref m3, .ref m4, .int (nI rn), .int (nI pw), .ref mc]))] := hD
      refine lx_top (z := nI 1) (q_14) ?_
      have hP : va_P G xk_cl [(mv, .inl (cA 0, 18720, .inl vl)), (mo, .inr (8, [.int (nI 0), .ref ms, .ref mk, .ref mv, .int (nI mm), .int (nI ml), .int (nI cnt), .ref mt, .int mp, .int mn, .int (nI mu), .ref ma, .int (nI at_), .int bd, .int le, .int ob, .ref m1, .ref m2, .ref m3, .ref m4, .int (nI rn), .int (nI pw), .ref mc]))] H := by skip; exact hP
      have hD : va_D A [(mv, .inl (cA 0, 18720, .inl vl)), (mo, .inr (8, [.int (nI 0), .ref ms, .ref mk, .ref mv, .int (nI mm), .int (nI ml), .int (nI cnt), .ref mt, .int mp, .int mn, .int (nI mu), .ref ma, .int (nI at_), .int bd, .int le, .int ob, .ref m1, .ref m2, .ref m3, .ref m4, .int (nI rn), .int (nI pw), .ref mc]))] := by skip; exact hD
      refine lv_if_eq (tgt := 46) hx hb xd_Mo_value_1_29 (by decide) (fun c_29_14 => absurd c_29_14 (by decide)) (fun c_29_14 => ?_)
      refine lv_aload_n hx hb xd_Mo_value_1_32 rfl (lv_at hl 0 rfl) ?_
      refine va_get (D := G) (ci := 8) (v := .ref mv) (C := xc_Mo) (T := xf_Mo) (N := 23) hx hb hts xw_Mo hown hK.1 hP 1 rfl rfl 3 (by decide) (hts _ xm_622) (fun _ h9 => h9) rfl xd_Mo_value_1_33 ?_
      subst e_n
      subst e_k
      refine lv_bipush (v := nI 26) hx hb xd_Mo_value_1_36 (by decide) ?_
      refine lv_iload_n hx hb xd_Mo_value_1_38 rfl (lv_at hl 1 rfl) ?_
      refine lx_imul (z := nI (26 * n)) hx hb xd_Mo_value_1_39 (pk_mul _ _) ?_
      refine lv_iload_n hx hb xd_Mo_value_1_40 rfl (lv_at hl 2 rfl) ?_
      refine lx_iadd (z := nI (26 * n + k)) hx hb xd_Mo_value_1_41 (nI_add _ _) ?_
      refine wx_iald hx hb hK.1 hP 0 0 rfl rfl (k := 26 * n + k) (by omega) (by decide) xd_Mo_value_1_42 ?_
      refine lv_goto (tgt := 47) hx hb xd_Mo_value_1_43 (by decide) ?_
      have hP9 : va_P G xk_cl [(mo, .inr (8, [.int (nI 0), .ref ms, .ref mk, .ref mv, .int (nI mm), .int (nI ml), .int (nI cnt), .ref mt, .int mp, .int mn, .int (nI mu), .ref ma, .int (nI at_), .int bd, .int le, .int ob, .ref m1, .ref m2, .ref m3, .ref m4, .int (nI rn), .int (nI pw), .ref mc])), (mv, .inl (cA 0, 18720, .inl vl))] _ := hP.sub [1, 0] rfl
      have hD9 : va_D A [(mo, .inr (8, [.int (nI 0), .ref ms, .ref mk, .ref mv, .int (nI mm), .int (nI ml), .int (nI cnt), .ref mt, .int mp, .int mn, .int (nI mu), .ref ma, .int (nI at_), .int bd, .int le, .int ob, .ref m1, .ref m2, .ref m3, .ref m4, .int (nI rn), .int (nI pw), .ref mc])), (mv, .inl (cA 0, 18720, .inl vl))] := hD.sub [1, 0] (by decide) rfl
      exact W.iret (v := vl (26 * n + k)) hx hb hr (fun T9 ht hW => ⟨⟨_, (nI 0), rfl, kd_y (f := en_V) (ce := ce) (r := vl (26 * n + k)) hn hk (by rw [Nat.mul_comm 26 n]; exact (hR.2 _ (by omega)).2), by rw [ht]; exact hP9, hD9⟩, hS.F ht⟩) hS.2.2 xd_Mo_value_1_47
