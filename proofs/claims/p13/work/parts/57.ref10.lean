def cg_P (x : Int32) : Prop := (en_K x = nI 0 → x = nI 0) ∧ (en_K x = nI 2 → ¬ en_V x < 0)
theorem cg_0 : cg_P (nI 0) := ⟨fun _ => rfl, fun h => absurd h (by decide)⟩
theorem cg_1 (x : Int32) : cg_P (en_C (nI 1) x) := ⟨fun h => absurd ((en_KC (k := 1) (by decide) x).symm.trans h) (by decide), fun h => absurd ((en_KC (k := 1) (by decide) x).symm.trans h) (by decide)⟩
theorem cg_2 {n : Nat} (h : n < 536870912) : cg_P (en_C (nI 2) (nI n)) := ⟨fun h => absurd ((en_KC (k := 2) (by decide) _).symm.trans h) (by decide), fun _ => by rw [en_Vp (by decide) h]; exact nI_n0 (by omega)⟩
theorem cl_cg (tn : Nat → Nat) (cnt a : Nat) : cg_P (cl_R tn cnt a) := by
  unfold cl_R
  split
  · split
    · exact cg_0
    · exact cg_2 (dg_v2 tn (a + 1) cnt)
  · split
    · split
      · exact cg_0
      · exact cg_1 _
    · split
      · exact cg_0
      · exact cg_1 _
def ls_P (v n : Nat) (wt gv : Int32) : Prop := cg_P wt ∧ cg_P gv ∧ ((v = 65 ∨ v = 82 ∨ v = 71) → wt = nI 0 ∧ gv = nI 0) ∧ ((v = 83 ∨ v = 68 ∨ v = 77 ∨ v = 67) → n = 0) ∧ (v = 83 → wt = nI 0) ∧ ((v = 68 ∨ v = 77) → wt = nI 0 ∧ gv = nI 0)
theorem ln_Ee {tn : Nat → Nat} {cnt e : Nat} {x L : ln_T} (h : ln_E tn cnt e x = some L) : x = L := (ln_E_s h).2
theorem ln_sh {tn : Nat → Nat} {cnt a v n fs fl gs gl : Nat} {wt gv : Int32} {e : Nat} (h : ln_P tn cnt a = some (v, n, fs, fl, gs, gl, wt, gv, e)) : ls_P v n wt gv := by
  unfold ln_P at h
  split at h
  · split at h
    · rename_i q1 q2
      unfold ln_1 at h
      split at h
      · cases h
      · have e9 := ln_Ee h
        rw [show a + 1 + 1 - 2 = a by omega] at e9
        cases e9
        exact ⟨cg_0, cg_0, fun _ => ⟨rfl, rfl⟩, fun z => by omega, fun _ => rfl, fun _ => ⟨rfl, rfl⟩⟩
    · split at h
      · unfold ln_S at h
        split at h
        · cases h
        · split at h
          · split at h
            · cases h
            · cases ln_Ee h
              exact ⟨cg_0, cl_cg _ _ _, fun z => by omega, fun _ => rfl, fun _ => rfl, fun z => by omega⟩
          · cases h
      · split at h
        · unfold ln_D at h
          split at h
          · cases h
          · cases ln_Ee h
            exact ⟨cg_0, cg_0, fun z => by omega, fun _ => rfl, fun _ => rfl, fun _ => ⟨rfl, rfl⟩⟩
        · split at h
          · unfold ln_M at h
            split at h
            · cases h
            · split at h
              · split at h
                · cases h
                · cases ln_Ee h
                  exact ⟨cg_0, cg_0, fun z => by omega, fun _ => rfl, fun _ => rfl, fun _ => ⟨rfl, rfl⟩⟩
              · cases h
          · split at h
            · unfold ln_C at h
              split at h
              · cases h
              · split at h
                · split at h
                  · cases h
                  · split at h
                    · split at h
                      · cases h
                      · cases ln_Ee h
                        exact ⟨cl_cg _ _ _, cl_cg _ _ _, fun z => by omega, fun _ => rfl, fun z => by omega, fun z => by omega⟩
                    · cases h
                · cases h
            · cases h
  · cases h
theorem wz_up {ce : Nat → Int32} (h : wz_O ce) {k : Nat} {x : Int32} (hx : en_K x = nI 0 → x = nI 0) : wz_O (upd ce k x) := fun j hj hk => by
  by_cases e : j = k
  · rw [e, pk_us] at hk ⊢; exact hx hk
  · rw [pk_un e] at hk ⊢; exact h j hj hk
theorem wz_cl {ce : Nat → Int32} (h : wz_O ce) (n i : Nat) : wz_O (sp_cl ce n i) := fun j hj hk => by
  unfold sp_cl at hk ⊢
  split at hk
  · rename_i q; rw [if_pos q]
  · rename_i q; rw [if_neg q]; exact h j hj hk
theorem ex_l_wz {fo : Int32} {st ce : Nat → Int32} {v n : Nat} {fk : Nat → Nat} {fn : Nat} {gk : Nat → Nat} {gn : Nat} {wt gv : Int32} (h : wz_O ce) (hv : wv_O ce) (hg : en_K gv = nI 0 → gv = nI 0) (hfk : (v = 83 ∨ v = 68 ∨ v = 77 ∨ v = 67) → (∀ j, j < fn → fk j < 26) ∧ 0 < fn ∧ fn ≤ 8) (h7 : v = 65 ∨ v = 82 ∨ v = 71 ∨ v = 83 ∨ v = 68 ∨ v = 77 ∨ v = 67) : wz_O (ex_l fo st ce v n fk fn gk gn wt gv).2.2 := by
  unfold ex_l
  split
  · split
    · unfold ex_A; split <;> exact h
    · split
      · unfold ex_R; split
        · exact h
        · split
          · exact h
          · exact wz_cl h n 26
      · split
        · unfold ex_G; split <;> exact h
        · split
          · unfold ex_S; split
            · exact h
            · split
              · exact h
              · exact wz_up h hg
          · split
            · unfold ex_D; split
              · exact h
              · split
                · exact h
                · split
                  · exact h
                  · exact wz_up h (fun _ => rfl)
            · split
              · rename_i e6
                unfold ex_M; split
                · exact h
                · rename_i n1 hf
                  split
                  · exact h
                  · split
                    · exact h
                    · split
                      · exact h
                      · split
                        · exact h
                        · obtain ⟨k1, k2, k3⟩ := hfk (by omega)
                          have hn1 := fo_F_l hv (fun j hj => k1 j (by omega)) hf
                          have hk1 := k1 (fn - 1) (by omega)
                          exact wz_up (wz_up h (fun _ => rfl)) (h _ (by omega))
              · unfold ex_C; split
                · exact h
                · split
                  · exact h
                  · split
                    · split
                      · exact h
                      · exact wz_up h hg
                    · exact h
  · exact h
def er_P (x : Int32) : Prop := x = -1 ∨ ∃ e, e ≤ 6 ∧ x = nI e
theorem er_k (k : Nat) (h : k ≤ 6) : er_P (nI k) := Or.inr ⟨k, h, rfl⟩
theorem er_A (st ce : Nat → Int32) (n : Nat) : er_P (ex_A st ce n).1 ∧ ¬ (ex_A st ce n).1 = -1 := by
  unfold ex_A; split
  · exact ⟨er_k 0 (by decide), (by decide : ¬ nI 0 = -1)⟩
  · exact ⟨er_k 3 (by decide), (by decide : ¬ nI 3 = -1)⟩
theorem er_R (fo : Int32) (st ce : Nat → Int32) (n : Nat) : er_P (ex_R fo st ce n).1 ∧ ¬ (ex_R fo st ce n).1 = -1 := by
  unfold ex_R; split
  · exact ⟨er_k 3 (by decide), (by decide : ¬ nI 3 = -1)⟩
  · split
    · exact ⟨er_k 6 (by decide), (by decide : ¬ nI 6 = -1)⟩
    · exact ⟨er_k 0 (by decide), (by decide : ¬ nI 0 = -1)⟩
theorem er_G (st ce : Nat → Int32) (n : Nat) : er_P (ex_G st ce n).1 ∧ ¬ (ex_G st ce n).1 = -1 := by
  unfold ex_G; split
  · exact ⟨er_k 3 (by decide), (by decide : ¬ nI 3 = -1)⟩
  · exact ⟨er_k 0 (by decide), (by decide : ¬ nI 0 = -1)⟩
theorem er_S (fo : Int32) (st ce : Nat → Int32) (fk : Nat → Nat) (fn : Nat) (gv : Int32) : er_P (ex_S fo st ce fk fn gv).1 := by
  unfold ex_S; split
  · exact er_k 4 (by decide)
  · split
    · exact er_k 6 (by decide)
    · exact er_k 0 (by decide)
theorem er_D (fo : Int32) (st ce : Nat → Int32) (fk : Nat → Nat) (fn : Nat) : er_P (ex_D fo st ce fk fn).1 := by
  unfold ex_D; split
  · exact er_k 4 (by decide)
  · split
    · exact er_k 5 (by decide)
    · split
      · exact er_k 6 (by decide)
      · exact er_k 0 (by decide)
theorem er_C (fo : Int32) (st ce : Nat → Int32) (fk : Nat → Nat) (fn : Nat) (wt gv : Int32) : er_P (ex_C fo st ce fk fn wt gv).1 := by
  unfold ex_C; split
  · exact er_k 4 (by decide)
  · split
    · exact er_k 5 (by decide)
    · split
      · split
        · exact er_k 6 (by decide)
        · exact er_k 0 (by decide)
      · exact Or.inl rfl
theorem er_M (fo : Int32) (st ce : Nat → Int32) (fk : Nat → Nat) (fn : Nat) (gk : Nat → Nat) (gn : Nat) : er_P (ex_M fo st ce fk fn gk gn).1 := by
  unfold ex_M; split
  · exact er_k 4 (by decide)
  · split
    · exact er_k 4 (by decide)
    · split
      · exact er_k 5 (by decide)
      · split
        · exact er_k 6 (by decide)
        · split
          · exact er_k 6 (by decide)
          · exact er_k 0 (by decide)
theorem ex_l_r (fo : Int32) (st ce : Nat → Int32) (v n : Nat) (fk : Nat → Nat) (fn : Nat) (gk : Nat → Nat) (gn : Nat) (wt gv : Int32) : er_P (ex_l fo st ce v n fk fn gk gn wt gv).1 := by
  unfold ex_l; split
  · split
    · exact (er_A _ _ _).1
    · split
      · exact (er_R _ _ _ _).1
      · split
        · exact (er_G _ _ _).1
        · split
          · exact er_S _ _ _ _ _ _
          · split
            · exact er_D _ _ _ _ _
            · split
              · exact er_M _ _ _ _ _ _ _
              · exact er_C _ _ _ _ _ _ _
  · exact er_k 2 (by decide)
theorem ex_l_n {fo : Int32} {st ce : Nat → Int32} {v n : Nat} {fk : Nat → Nat} {fn : Nat} {gk : Nat → Nat} {gn : Nat} {wt gv : Int32} (h : v = 65 ∨ v = 82 ∨ v = 71) : ¬ (ex_l fo st ce v n fk fn gk gn wt gv).1 = -1 := by
  unfold ex_l; split
  · split
    · exact (er_A _ _ _).2
    · split
      · exact (er_R _ _ _ _).2
      · split
        · exact (er_G _ _ _).2
        · omega
  · exact (by decide : ¬ nI 2 = -1)
def bf_R (sa kd vl sa2 kd2 vl2 : Nat → Int32) : Prop := (∀ n, n < 40 → sa2 (40 + n) = sa n) ∧ (∀ j, j < 1040 → kd2 (1040 + j) = kd j ∧ vl2 (1040 + j) = vl j) ∧ (∀ j, 80 ≤ j → sa2 j = sa j) ∧ ∀ j, 2080 ≤ j → kd2 j = kd j ∧ vl2 j = vl j
theorem cp_i {N f t : Nat} {g : Nat → Int32} {j : Nat} (h : j < N) : cp_A N f t g N (N * t + j) = g (N * f + j) := by
  unfold cp_A
  rw [if_pos (by omega), show N * t + j - N * t = j by omega]
theorem cp_o {N f t : Nat} {g : Nat → Int32} {j : Nat} (h : ¬ (N * t ≤ j ∧ j < N * t + N)) : cp_A N f t g N j = g j := if_neg h
theorem bf_c (sa kd vl : Nat → Int32) : bf_R sa kd vl (cp_A 40 0 1 sa 40) (cp_A 1040 0 1 kd 1040) (cp_A 1040 0 1 vl 1040) := by
  refine ⟨fun n hn => ?_, fun j hj => ⟨?_, ?_⟩, fun j hj => cp_o (by omega), fun j hj => ⟨cp_o (by omega), cp_o (by omega)⟩⟩
  · have := cp_i (N := 40) (f := 0) (t := 1) (g := sa) hn; simpa using this
  · have := cp_i (N := 1040) (f := 0) (t := 1) (g := kd) hj; simpa using this
  · have := cp_i (N := 1040) (f := 0) (t := 1) (g := vl) hj; simpa using this
theorem sn_c {sa kd vl st ce : Nat → Int32} (h : sn_R sa kd vl st ce) (t : Nat) (ht : 0 < t) : sn_R (cp_A 40 0 t sa 40) (cp_A 1040 0 t kd 1040) (cp_A 1040 0 t vl 1040) st ce :=
  ⟨fun n hn => by rw [cp_o (by omega)]; exact h.1 n hn, fun j hj => by rw [cp_o (by omega), cp_o (by omega)]; exact h.2 j hj⟩
theorem bf_f {sa kd vl sa2 kd2 vl2 sa3 kd3 vl3 : Nat → Int32} (h : bf_R sa kd vl sa2 kd2 vl2) (g : fr_H sa2 kd2 vl2 sa3 kd3 vl3) : bf_R sa kd vl sa3 kd3 vl3 :=
  ⟨fun n hn => (g.1 _ (by omega)).trans (h.1 n hn), fun j hj => ⟨(g.2 _ (by omega)).1.trans (h.2.1 j hj).1, (g.2 _ (by omega)).2.trans (h.2.1 j hj).2⟩, fun j hj => (g.1 _ (by omega)).trans (h.2.2.1 j hj), fun j hj => ⟨(g.2 _ (by omega)).1.trans (h.2.2.2 j hj).1, (g.2 _ (by omega)).2.trans (h.2.2.2 j hj).2⟩⟩
theorem fr_c (sa kd vl : Nat → Int32) (f : Nat) : fr_H sa kd vl (cp_A 40 f 0 sa 40) (cp_A 1040 f 0 kd 1040) (cp_A 1040 f 0 vl 1040) := ⟨fun j hj => cp_o (by omega), fun j hj => ⟨cp_o (by omega), cp_o (by omega)⟩⟩
theorem sn_b {sa kd vl sa2 kd2 vl2 st ce : Nat → Int32} (h : sn_R sa kd vl st ce) (g : bf_R sa kd vl sa2 kd2 vl2) : sn_R (cp_A 40 1 0 sa2 40) (cp_A 1040 1 0 kd2 1040) (cp_A 1040 1 0 vl2 1040) st ce := by
  refine ⟨fun n hn => ?_, fun j hj => ⟨?_, ?_⟩⟩
  · have e := cp_i (N := 40) (f := 1) (t := 0) (g := sa2) hn
    rw [show 40 * 0 + n = n by omega, show 40 * 1 + n = 40 + n by omega] at e
    rw [e, g.1 n hn]; exact h.1 n hn
  · have e := cp_i (N := 1040) (f := 1) (t := 0) (g := kd2) hj
    rw [show 1040 * 0 + j = j by omega, show 1040 * 1 + j = 1040 + j by omega] at e
    rw [e, (g.2.1 j hj).1]; exact (h.2 j hj).1
  · have e := cp_i (N := 1040) (f := 1) (t := 0) (g := vl2) hj
    rw [show 1040 * 0 + j = j by omega, show 1040 * 1 + j = 1040 + j by omega] at e
    rw [e, (g.2.1 j hj).2]; exact (h.2 j hj).2
theorem tx_sk {fo : Int32} {tn : Nat → Nat} {cnt f a b : Nat} {st ce : Nat → Int32} {k p : Nat} (h : sp_sk tn cnt a = sp_sk tn cnt b) : tx_F fo tn cnt (f + 1) a st ce k p = tx_F fo tn cnt (f + 1) b st ce k p := by rw [tx_F, tx_F, h]
def wq_Q (T : tx_T) (st ce sa kd vl : Nat → Int32) (r : Int32) (sa2 kd2 vl2 : Nat → Int32) (rn2 pw2 : Nat) : Prop := bf_R sa kd vl sa2 kd2 vl2 ∧
  ((∃ e, 0 < e ∧ e < 3100 ∧ r = nI e ∧ T.1 = (-1) - nI e ∧ sn_R sa2 kd2 vl2 st ce) ∨ (r = nI 0 ∧ T.1 = nI 0 ∧ sn_R sa2 kd2 vl2 T.2.1 T.2.2.1 ∧ rn2 = T.2.2.2.1 ∧ pw2 = T.2.2.2.2 ∧ wz_O T.2.2.1 ∧ wv_O T.2.2.1))
theorem wq_s {T : tx_T} {st ce sa kd vl sa2 kd2 vl2 s1 c1 : Nat → Int32} {k p : Nat} (hB : bf_R sa kd vl sa2 kd2 vl2) (hT : T = (nI 0, s1, c1, k, p)) (hR : sn_R sa2 kd2 vl2 s1 c1) (hz : wz_O c1) (hw : wv_O c1) : wq_Q T st ce sa kd vl (nI 0) sa2 kd2 vl2 k p := by
  subst hT; exact ⟨hB, Or.inr ⟨rfl, rfl, hR, rfl, rfl, hz, hw⟩⟩
theorem wq_f {T : tx_T} {st ce sa kd vl sa2 kd2 vl2 : Nat → Int32} {k p e : Nat} {r : Int32} (hB : bf_R sa kd vl sa2 kd2 vl2) (h0 : 0 < e) (h1 : e < 3100) (hr : r = nI e) (hT : T.1 = (-1) - nI e) (hR : sn_R sa2 kd2 vl2 st ce) : wq_Q T st ce sa kd vl r sa2 kd2 vl2 k p := ⟨hB, Or.inl ⟨e, h0, h1, hr, hT, hR⟩⟩
theorem er_g {x : Int32} (h : er_P x) (g : ¬ x ≤ 0) : ∃ e, 0 < e ∧ e ≤ 6 ∧ x = nI e := by
  obtain ⟨e, he, hy⟩ := h.resolve_left (fun z => g (by rw [z]; decide))
  refine ⟨e, ?_, he, hy⟩
  rcases Nat.eq_zero_or_pos e with rfl | q
  · exact absurd (by rw [hy]; decide) g
  · exact q
theorem nI_pl {e : Nat} (h : e ≤ 6) (k : Nat) : nI (10 * k) + nI e = nI (10 * k + e) := nI_add _ _
set_option maxHeartbeats 4000000 in
set_option maxRecDepth 100000 in
theorem ct_Mo_work (l : Launch) (G : va_G) (cA : Nat → ClassId) (sz : Nat) (mo : Nat) (th : Int32) (ms : Nat) (mk : Nat) (mv : Nat) (mm : Nat) (ml : Nat) (cnt : Nat) (mt : Nat) (mp : Int32) (mn : Int32) (mu : Nat) (ma : Nat) (le : Int32) (ob : Int32) (m1 : Nat) (m2 : Nat) (m3 : Nat) (m4 : Nat) (rn : Nat) (pw : Nat) (mc : Nat) (b : Nat) (tn : Nat → Nat) (hc : cnt ≤ 300) (hv : ∀ j, tn j < 128) (hb9 : b ≤ 1) (tk : Nat → Int32) (tv : Nat → Int32) (pa : Nat → Nat) (ps : Nat → Nat) (at_ : Nat) (sa : Nat → Int32) (kd : Nat → Int32) (vl : Nat → Int32) (st : Nat → Int32) (ce : Nat → Int32) (fo : Int32) (hR : sn_R sa kd vl st ce) (hO : wv_O ce) (hZ : wz_O ce) (hfo : fo = 0 ∨ fo = nI 1) : Met l xy_Mo_work (.code xy_Mo_work xb_Mo_work 3 (some .int) :: tw_W) ({ frames := 4, cells := 0, slots := 0, locals := 87 }) (pc_w G cA [(mo, .inr (8, [.int th, .ref ms, .ref mk, .ref mv, .int (nI mm), .int (nI ml), .int (nI cnt), .ref mt, .int mp, .int mn, .int (nI mu), .ref ma, .int (nI at_), .int (nI b), .int le, .int ob, .ref m1, .ref m2, .ref m3, .ref m4, .int (nI rn), .int (nI pw), .ref mc])), (ms, .inl (cA 0, 720, .inl sa)), (mk, .inl (cA 0, 18720, .inl kd)), (mv, .inl (cA 0, 18720, .inl vl)), (mt, .inl (cA 0, 300, .inl (tx_A tn))), (m1, .inl (cA 0, 2, .inl (tx_A pa))), (m2, .inl (cA 0, 2, .inl (tx_A ps))), (m3, .inl (cA 0, 2, .inl tk)), (m4, .inl (cA 0, 2, .inl tv))] sz [.ref mo, .int fo]) (va_Qi (fun (r : Int32) (u9 : Nat × Nat × Int32 × Int32 × (Nat → Nat) × (Nat → Nat) × (Nat → Int32) × (Nat → Int32) × (Nat → Int32) × (Nat → Int32) × (Nat → Int32) × Nat × Nat) => match u9 with | (b2, a2, le2, ob2, pa2, ps2, tk2, tv2, sa2, kd2, vl2, rn2, pw2) => b2 ≤ 1 ∧ wq_Q (tx_F fo tn cnt (cnt + 1) 0 st ce 0 0) st ce sa kd vl r sa2 kd2 vl2 rn2 pw2) (fun u9 T9 => match u9 with | (b2, a2, le2, ob2, pa2, ps2, tk2, tv2, sa2, kd2, vl2, rn2, pw2) => at_w G (va_A [(mo, .inr (8, [.int th, .ref ms, .ref mk, .ref mv, .int (nI mm), .int (nI ml), .int (nI cnt), .ref mt, .int mp, .int mn, .int (nI mu), .ref ma, .int (nI at_), .int (nI b), .int le, .int ob, .ref m1, .ref m2, .ref m3, .ref m4, .int (nI rn), .int (nI pw), .ref mc])), (ms, .inl (cA 0, 720, .inl sa)), (mk, .inl (cA 0, 18720, .inl kd)), (mv, .inl (cA 0, 18720, .inl vl)), (mt, .inl (cA 0, 300, .inl (tx_A tn))), (m1, .inl (cA 0, 2, .inl (tx_A pa))), (m2, .inl (cA 0, 2, .inl (tx_A ps))), (m3, .inl (cA 0, 2, .inl tk)), (m4, .inl (cA 0, 2, .inl tv))] sz) [(mo, .inr (8, [.int th, .ref ms, .ref mk, .ref mv, .int (nI mm), .int (nI ml), .int (nI cnt), .ref mt, .int mp, .int mn, .int (nI mu), .ref ma, .int (nI a2), .int (nI b2), .int le2, .int ob2, .ref m1, .ref m2, .ref m3, .ref m4, .int (nI rn2), .int (nI pw2), .ref mc])), (ms, .inl (cA 0, 720, .inl sa2)), (mk, .inl (cA 0, 18720, .inl kd2)), (mv, .inl (cA 0, 18720, .inl vl2)), (mt, .inl (cA 0, 300, .inl (tx_A tn))), (m1, .inl (cA 0, 2, .inl (tx_A pa2))), (m2, .inl (cA 0, 2, .inl (tx_A ps2))), (m3, .inl (cA 0, 2, .inl tk2)), (m4, .inl (cA 0, 2, .inl tv2))] T9) (va_A [(mo, .inr (8, [.int th, .ref ms, .ref mk, .ref mv, .int (nI mm), .int (nI ml), .int (nI cnt), .ref mt, .int mp, .int mn, .int (nI mu), .ref ma, .int (nI at_), .int (nI b), .int le, .int ob, .ref m1, .ref m2, .ref m3, .ref m4, .int (nI rn), .int (nI pw), .ref mc])), (ms, .inl (cA 0, 720, .inl sa)), (mk, .inl (cA 0, 18720, .inl kd)), (mv, .inl (cA 0, 18720, .inl vl)), (mt, .inl (cA 0, 300, .inl (tx_A tn))), (m1, .inl (cA 0, 2, .inl (tx_A pa))), (m2, .inl (cA 0, 2, .inl (tx_A ps))), (m3, .inl (cA 0, 2, .inl tk)), (m4, .inl (cA 0, 2, .inl tv))] sz)) 0 0 (va_A [(mo, .inr (8, [.int th, .ref ms, .ref mk, .ref mv, .int (nI mm), .int (nI ml), .int (nI cnt), .ref mt, .int mp, .int mn, .int (nI mu), .ref ma, .int (nI at_), .int (nI b), .int le, .int ob, .ref m1, .ref m2, .ref m3, .ref m4, .int (nI rn), .int (nI pw), .ref mc])), (ms, .inl (cA 0, 720, .inl sa)), (mk, .inl (cA 0, 18720, .inl kd)), (mv, .inl (cA 0, 18720, .inl vl)), (mt, .inl (cA 0, 300, .inl (tx_A tn))), (m1, .inl (cA 0, 2, .inl (tx_A pa))), (m2, .inl (cA 0, 2, .inl (tx_A ps))), (m3, .inl (cA 0, 2, .inl tk)), (m4, .inl (cA 0, 2, .inl tv))] sz) := by
  refine Met.ofW (cc := xb_Mo_work) (maxL := 3) (ret := (some .int)) (by decide) rfl ?_
  intro p e s m args below meth c s₁ B hml hv
  obtain ⟨rfl, hsz, hK, hP, hD0⟩ := hv
  have hx := B.exec
  have hb := B.bytes
  have hr := B.returns
  have hts0 := atoms_spec (ws := .code xy_Mo_work xb_Mo_work 3 (some .int) :: tw_W) B.pre
  have hts : ∀ w9 ∈ tw_W, w9.before [.ref mo, .int fo].toArray s = true := fun w9 h9 => hts0 w9 (List.mem_cons_of_mem _ h9)
  have hown : s.vm.findClass xc_Mo = some m.cls := findClass_of_methodNamed B.named
  have hlocks := B.notSynchronized
  subst hsz
  have hD := hD0.self (sz := s.heap.size)
  generalize hAe : va_A [(mo, .inr (8, [.int th, .ref ms, .ref mk, .ref mv, .int (nI mm), .int (nI ml), .int (nI cnt), .ref mt, .int mp, .int mn, .int (nI mu), .ref ma, .int (nI at_), .int (nI b), .int le, .int ob, .ref m1, .ref m2, .ref m3, .ref m4, .int (nI rn), .int (nI pw), .ref mc])), (ms, .inl (cA 0, 720, .inl sa)), (mk, .inl (cA 0, 18720, .inl kd)), (mv, .inl (cA 0, 18720, .inl vl)), (mt, .inl (cA 0, 300, .inl (tx_A tn))), (m1, .inl (cA 0, 2, .inl (tx_A pa))), (m2, .inl (cA 0, 2, .inl (tx_A ps))), (m3, .inl (cA 0, 2, .inl tk)), (m4, .inl (cA 0, 2, .inl tv))] s.heap.size = A at hD ⊢
  have hA : ∀ q : Nat, s.heap.size ≤ q → A q := fun q h => by rw [← hAe]; exact Or.inr h
  have hS : va_S A s.heap s.heap [] := va_S.rf
  have hP : va_P G xk_cl [(mo, .inr (8, [.int th, .ref ms, .ref mk, .ref mv, .int (nI mm), .int (nI ml), .int (nI cnt), .ref mt, .int mp, .int mn, .int (nI mu), .ref ma, .int (nI at_), .int (nI b), .int le, .int ob, .ref m1, .ref m2, .ref m3, .ref m4, .int (nI rn), .int (nI pw), .ref mc])), (ms, .inl (cA 0, 720, .inl sa)), (mk, .inl (cA 0, 18720, .inl kd)), (mv, .inl (cA 0, 18720, .inl vl)), (mt, .inl (cA 0, 300, .inl (tx_A tn))), (m1, .inl (cA 0, 2, .inl (tx_A pa))), (m2, .inl (cA 0, 2, .inl (tx_A ps))), (m3, .inl (cA 0, 2, .inl tk)), (m4, .inl (cA 0, 2, .inl tv))] s.heap := hP
  have hl := lv_entry ([.ref mo, .int fo]) (n := 3) (Nat.le_of_ble_eq_true rfl)
  rw [lg_entry_eq]
  generalize (lg_sl ([.ref mo, .int fo]) ++ List.replicate (3 - (lg_sl ([.ref mo, .int fo])).length) Slot.unset).toArray = ls at hl ⊢
  have hl : lv_has ls 3 [(0, .ref mo), (1, .int fo)] := hl
  refine lv_aload_n hx hb xd_Mo_work_0 rfl (lv_at hl 0 rfl) ?_
  refine lv_iconst (v := nI 0) hx hb xd_Mo_work_1 (by decide) ?_
  refine lv_iconst (v := nI 1) hx hb xd_Mo_work_2 (by decide) ?_
  have hPc := hP.sub (ws' := [(mo, .inr (8, [.int th, .ref ms, .ref mk, .ref mv, .int (nI mm), .int (nI ml), .int (nI cnt), .ref mt, .int mp, .int mn, .int (nI mu), .ref ma, .int (nI at_), .int (nI b), .int le, .int ob, .ref m1, .ref m2, .ref m3, .ref m4, .int (nI rn), .int (nI pw), .ref mc])), (ms, .inl (cA 0, 720, .inl sa)), (mk, .inl (cA 0, 18720, .inl kd)), (mv, .inl (cA 0, 18720, .inl vl))]) [0, 1, 2, 3] rfl
  have hDc := hD.sub (ws' := [(mo, .inr (8, [.int th, .ref ms, .ref mk, .ref mv, .int (nI mm), .int (nI ml), .int (nI cnt), .ref mt, .int mp, .int mn, .int (nI mu), .ref ma, .int (nI at_), .int (nI b), .int le, .int ob, .ref m1, .ref m2, .ref m3, .ref m4, .int (nI rn), .int (nI pw), .ref mc])), (ms, .inl (cA 0, 720, .inl sa)), (mk, .inl (cA 0, 18720, .inl kd)), (mv, .inl (cA 0, 18720, .inl vl))]) [0, 1, 2, 3] (by decide) rfl
  have hFc := va_free (wc := [(mo, .inr (8, [.int th, .ref ms, .ref mk, .ref mv, .int (nI mm), .int (nI ml), .int (nI cnt), .ref mt, .int mp, .int mn, .int (nI mu), .ref ma, .int (nI at_), .int (nI b), .int le, .int ob, .ref m1, .ref m2, .ref m3, .ref m4, .int (nI rn), .int (nI pw), .ref mc])), (ms, .inl (cA 0, 720, .inl sa)), (mk, .inl (cA 0, 18720, .inl kd)), (mv, .inl (cA 0, 18720, .inl vl))]) hD hS hA [0, 1, 2, 3] rfl
  refine va_callv (va_runV (As := [.int (nI 0), .int (nI 1)]) (rest := []) ⟨hx, hb, hml, hown, hts⟩ (ct_Mo_copy l G cA s.heap.size mo th ms mk mv mm ml cnt mt mp mn mu ma at_ (nI b) le ob m1 m2 m3 m4 rn pw mc sa kd vl 0 1 (by omega) (by omega) (by decide)) (cwV 2 hts (gi_v xm_704 xm_706 xs_Mo_copy xm_9 xm_707) rfl rfl rfl ⟨rfl, xh_Mo_copy⟩ ⟨Nat.le_of_ble_eq_true rfl, Nat.le_of_ble_eq_true rfl⟩) (pv_w hK hPc hDc (ci := 8) (q0 := 0) rfl rfl) rfl rfl hl.1 rfl (lv_room (Nat.le_of_ble_eq_true rfl)) xd_Mo_work_3 ⟨Nat.le_of_ble_eq_true rfl, Nat.le_of_ble_eq_true rfl⟩) hS (fun q _ h => hFc q h) hFc (fun u9 t9 H1 locs ht hvm q_2 hB hz1 hk1 hS => ?_)
  obtain ⟨hP1, hD1⟩ := hB
  rw [ht] at hP1
  obtain ⟨hP, hD⟩ := va_join (wr := [(mt, .inl (cA 0, 300, .inl (tx_A tn))), (m1, .inl (cA 0, 2, .inl (tx_A pa))), (m2, .inl (cA 0, 2, .inl (tx_A ps))), (m3, .inl (cA 0, 2, .inl tk)), (m4, .inl (cA 0, 2, .inl tv))]) (w1 := [(mo, .inr (8, [.int th, .ref ms, .ref mk, .ref mv, .int (nI mm), .int (nI ml), .int (nI cnt), .ref mt, .int mp, .int mn, .int (nI mu), .ref ma, .int (nI at_), .int (nI b), .int le, .int ob, .ref m1, .ref m2, .ref m3, .ref m4, .int (nI rn), .int (nI pw), .ref mc])), (ms, .inl (cA 0, 720, .inl (cp_A 40 0 1 sa 40))), (mk, .inl (cA 0, 18720, .inl (cp_A 1040 0 1 kd 1040))), (mv, .inl (cA 0, 18720, .inl (cp_A 1040 0 1 vl 1040)))]) hP hD [0, 1, 2, 3] [4, 5, 6, 7, 8] rfl rfl (by decide) (by decide) hk1 hFc hP1 hD1
  generalize H1 = H at hP hS ⊢
  have hP : va_P G xk_cl [(mt, .inl (cA 0, 300, .inl (tx_A tn))), (m1, .inl (cA 0, 2, .inl (tx_A pa))), (m2, .inl (cA 0, 2, .inl (tx_A ps))), (m3, .inl (cA 0, 2, .inl tk)), (m4, .inl (cA 0, 2, .inl tv)), (mo, .inr (8, [.int th, .ref ms, .ref mk, .ref mv, .int (nI mm), .int (nI ml), .int (nI cnt), .ref mt, .int mp, .int mn, .int (nI mu), .ref ma, .int (nI at_), .int (nI b), .int le, .int ob, .ref m1, .ref m2, .ref m3, .ref m4, .int (nI rn), .int (nI pw), .ref mc])), (ms, .inl (cA 0, 720, .inl (cp_A 40 0 1 sa 40))), (mk, .inl (cA 0, 18720, .inl (cp_A 1040 0 1 kd 1040))), (mv, .inl (cA 0, 18720, .inl (cp_A 1040 0 1 vl 1040)))] H := hP
  have hD : va_D A [(mt, .inl (cA 0, 300, .inl (tx_A tn))), (m1, .inl (cA 0, 2, .inl (tx_A pa))), (m2, .inl (cA 0, 2, .inl (tx_A ps))), (m3, .inl (cA 0, 2, .inl tk)), (m4, .inl (cA 0, 2, .inl tv)), (mo, .inr (8, [.int th, .ref ms, .ref mk, .ref mv, .int (nI mm), .int (nI ml), .int (nI cnt), .ref mt, .int mp, .int mn, .int (nI mu), .ref ma, .int (nI at_), .int (nI b), .int le, .int ob, .ref m1, .ref m2, .ref m3, .ref m4, .int (nI rn), .int (nI pw), .ref mc])), (ms, .inl (cA 0, 720, .inl (cp_A 40 0 1 sa 40))), (mk, .inl (cA 0, 18720, .inl (cp_A 1040 0 1 kd 1040))), (mv, .inl (cA 0, 18720, .inl (cp_A 1040 0 1 vl 1040)))] := hD
  refine lv_aload_n hx hb xd_Mo_work_6 rfl (lv_at hl 0 rfl) ?_
  refine lv_iconst (v := nI 0) hx hb xd_Mo_work_7 (by decide) ?_
  refine va_put (D := G) (ci := 8) (v := .int (nI 0)) (ty := .int) (C := xc_Mo) (T := xf_Mo) (N := 23) hx hb hts xw_Mo xt_Mo xt_Mo_ok xn_Mo hown hK.1 hP hD hS 5 rfl rfl 12 (by decide) (hts _ xm_631) (fun _ h9 => h9) rfl (by decide +kernel) rfl rfl (Nat.le_of_ble_eq_true rfl) xd_Mo_work_8 (fun H locs hP hD hS => ?_)
  have hP : va_P G xk_cl [(mt, .inl (cA 0, 300, .inl (tx_A tn))), (m1, .inl (cA 0, 2, .inl (tx_A pa))), (m2, .inl (cA 0, 2, .inl (tx_A ps))), (m3, .inl (cA 0, 2, .inl tk)), (m4, .inl (cA 0, 2, .inl tv)), (mo, .inr (8, [.int th, .ref ms, .ref mk, .ref mv, .int (nI mm), .int (nI ml), .int (nI cnt), .ref mt, .int mp, .int mn, .int (nI mu), .ref ma, .int (nI 0), .int (nI b), .int le, .int ob, .ref m1, .ref m2, .ref m3, .ref m4, .int (nI rn), .int (nI pw), .ref mc])), (ms, .inl (cA 0, 720, .inl (cp_A 40 0 1 sa 40))), (mk, .inl (cA 0, 18720, .inl (cp_A 1040 0 1 kd 1040))), (mv, .inl (cA 0, 18720, .inl (cp_A 1040 0 1 vl 1040)))] H := hP
  have hD : va_D A [(mt, .inl (cA 0, 300, .inl (tx_A tn))), (m1, .inl (cA 0, 2, .inl (tx_A pa))), (m2, .inl (cA 0, 2, .inl (tx_A ps))), (m3, .inl (cA 0, 2, .inl tk)), (m4, .inl (cA 0, 2, .inl tv)), (mo, .inr (8, [.int th, .ref ms, .ref mk, .ref mv, .int (nI mm), .int (nI ml), .int (nI cnt), .ref mt, .int mp, .int mn, .int (nI mu), .ref ma, .int (nI 0), .int (nI b), .int le, .int ob, .ref m1, .ref m2, .ref m3, .ref m4, .int (nI rn), .int (nI pw), .ref mc])), (ms, .inl (cA 0, 720, .inl (cp_A 40 0 1 sa 40))), (mk, .inl (cA 0, 18720, .inl (cp_A 1040 0 1 kd 1040))), (mv, .inl (cA 0, 18720, .inl (cp_A 1040 0 1 vl 1040)))] := hD
  refine lv_aload_n hx hb xd_Mo_work_11 rfl (lv_at hl 0 rfl) ?_
  refine lv_iconst (v := nI 0) hx hb xd_Mo_work_12 (by decide) ?_
  refine va_put (D := G) (ci := 8) (v := .int (nI 0)) (ty := .int) (C := xc_Mo) (T := xf_Mo) (N := 23) hx hb hts xw_Mo xt_Mo xt_Mo_ok xn_Mo hown hK.1 hP hD hS 5 rfl rfl 20 (by decide) (hts _ xm_639) (fun _ h9 => h9) rfl (by decide +kernel) rfl rfl (Nat.le_of_ble_eq_true rfl) xd_Mo_work_13 (fun H locs hP hD hS => ?_)
  have hP : va_P G xk_cl [(mt, .inl (cA 0, 300, .inl (tx_A tn))), (m1, .inl (cA 0, 2, .inl (tx_A pa))), (m2, .inl (cA 0, 2, .inl (tx_A ps))), (m3, .inl (cA 0, 2, .inl tk)), (m4, .inl (cA 0, 2, .inl tv)), (mo, .inr (8, [.int th, .ref ms, .ref mk, .ref mv, .int (nI mm), .int (nI ml), .int (nI cnt), .ref mt, .int mp, .int mn, .int (nI mu), .ref ma, .int (nI 0), .int (nI b), .int le, .int ob, .ref m1, .ref m2, .ref m3, .ref m4, .int (nI 0), .int (nI pw), .ref mc])), (ms, .inl (cA 0, 720, .inl (cp_A 40 0 1 sa 40))), (mk, .inl (cA 0, 18720, .inl (cp_A 1040 0 1 kd 1040))), (mv, .inl (cA 0, 18720, .inl (cp_A 1040 0 1 vl 1040)))] H := hP
  have hD : va_D A [(mt, .inl (cA 0, 300, .inl (tx_A tn))), (m1, .inl (cA 0, 2, .inl (tx_A pa))), (m2, .inl (cA 0, 2, .inl (tx_A ps))), (m3, .inl (cA 0, 2, .inl tk)), (m4, .inl (cA 0, 2, .inl tv)), (mo, .inr (8, [.int th, .ref ms, .ref mk, .ref mv, .int (nI mm), .int (nI ml), .int (nI cnt), .ref mt, .int mp, .int mn, .int (nI mu), .ref ma, .int (nI 0), .int (nI b), .int le, .int ob, .ref m1, .ref m2, .ref m3, .ref m4, .int (nI 0), .int (nI pw), .ref mc])), (ms, .inl (cA 0, 720, .inl (cp_A 40 0 1 sa 40))), (mk, .inl (cA 0, 18720, .inl (cp_A 1040 0 1 kd 1040))), (mv, .inl (cA 0, 18720, .inl (cp_A 1040 0 1 vl 1040)))] := hD
  refine lv_aload_n hx hb xd_Mo_work_16 rfl (lv_at hl 0 rfl) ?_
  refine lv_iconst (v := nI 0) hx hb xd_Mo_work_17 (by decide) ?_
  refine va_put (D := G) (ci := 8) (v := .int (nI 0)) (ty := .int) (C := xc_Mo) (T := xf_Mo) (N := 23) hx hb hts xw_Mo xt_Mo xt_Mo_ok xn_Mo hown hK.1 hP hD hS 5 rfl rfl 21 (by decide) (hts _ xm_640) (fun _ h9 => h9) rfl (by decide +kernel) rfl rfl (Nat.le_of_ble_eq_true rfl) xd_Mo_work_18 (fun H locs hP hD hS => ?_)
  have hP : va_P G xk_cl [(mt, .inl (cA 0, 300, .inl (tx_A tn))), (m1, .inl (cA 0, 2, .inl (tx_A pa))), (m2, .inl (cA 0, 2, .inl (tx_A ps))), (m3, .inl (cA 0, 2, .inl tk)), (m4, .inl (cA 0, 2, .inl tv)), (mo, .inr (8, [.int th, .ref ms, .ref mk, .ref mv, .int (nI mm), .int (nI ml), .int (nI cnt), .ref mt, .int mp, .int mn, .int (nI mu), .ref ma, .int (nI 0), .int (nI b), .int le, .int ob, .ref m1, .ref m2, .ref m3, .ref m4, .int (nI 0), .int (nI 0), .ref mc])), (ms, .inl (cA 0, 720, .inl (cp_A 40 0 1 sa 40))), (mk, .inl (cA 0, 18720, .inl (cp_A 1040 0 1 kd 1040))), (mv, .inl (cA 0, 18720, .inl (cp_A 1040 0 1 vl 1040)))] H := hP
  have hD : va_D A [(mt, .inl (cA 0, 300, .inl (tx_A tn))), (m1, .inl (cA 0, 2, .inl (tx_A pa))), (m2, .inl (cA 0, 2, .inl (tx_A ps))), (m3, .inl (cA 0, 2, .inl tk)), (m4, .inl (cA 0, 2, .inl tv)), (mo, .inr (8, [.int th, .ref ms, .ref mk, .ref mv, .int (nI mm), .int (nI ml), .int (nI cnt), .ref mt, .int mp, .int mn, .int (nI mu), .ref ma, .int (nI 0), .int (nI b), .int le, .int ob, .ref m1, .ref m2, .ref m3, .ref m4, .int (nI 0), .int (nI 0), .ref mc])), (ms, .inl (cA 0, 720, .inl (cp_A 40 0 1 sa 40))), (mk, .inl (cA 0, 18720, .inl (cp_A 1040 0 1 kd 1040))), (mv, .inl (cA 0, 18720, .inl (cp_A 1040 0 1 vl 1040)))] := hD
  have lp : ∀ (k_lp : Nat) (f : Nat) (a : Nat) (k : Nat) (pp : Nat) (s1 : Nat → Int32) (c1 : Nat → Int32) (sa1 : Nat → Int32) (kd1 : Nat → Int32) (vl1 : Nat → Int32) (b : Nat) (le : Int32) (ob : Int32) (pa : Nat → Nat) (ps : Nat → Nat) (tk : Nat → Int32) (tv : Nat → Int32), (a ≤ cnt) → (4 * k ≤ a) → (wv_O c1) → (wz_O c1) → (cnt < f + a) → (tx_F fo tn cnt (cnt + 1) 0 st ce 0 0 = tx_F fo tn cnt f a s1 c1 k pp) → (sn_R sa1 kd1 vl1 s1 c1) → (bf_R sa kd vl sa1 kd1 vl1) → (b ≤ 1) → cnt - a < k_lp → ∀ (H : Heap) (locs : List Loc), va_P G xk_cl [(mo, .inr (8, [.int th, .ref ms, .ref mk, .ref mv, .int (nI mm), .int (nI ml), .int (nI cnt), .ref mt, .int mp, .int mn, .int (nI mu), .ref ma, .int (nI a), .int (nI b), .int le, .int ob, .ref m1, .ref m2, .ref m3, .ref m4, .int (nI k), .int (nI pp), .ref mc])), (ms, .inl (cA 0, 720, .inl sa1)), (mk, .inl (cA 0, 18720, .inl kd1)), (mv, .inl (cA 0, 18720, .inl vl1)), (mt, .inl (cA 0, 300, .inl (tx_A tn))), (m1, .inl (cA 0, 2, .inl (tx_A pa))), (m2, .inl (cA 0, 2, .inl (tx_A ps))), (m3, .inl (cA 0, 2, .inl tk)), (m4, .inl (cA 0, 2, .inl tv))] H → va_D A [(mo, .inr (8, [.int th, .ref ms, .ref mk, .ref mv, .int (nI mm), .int (nI ml), .int (nI cnt), .ref mt, .int mp, .int mn, .int (nI mu), .ref ma, .int (nI a), .int (nI b), .int le, .int ob, .ref m1, .ref m2, .ref m3, .ref m4, .int (nI k), .int (nI pp), .ref mc])), (ms, .inl (cA 0, 720, .inl sa1)), (mk, .inl (cA 0, 18720, .inl kd1)), (mv, .inl (cA 0, 18720, .inl vl1)), (mt, .inl (cA 0, 300, .inl (tx_A tn))), (m1, .inl (cA 0, 2, .inl (tx_A pa))), (m2, .inl (cA 0, 2, .inl (tx_A ps))), (m3, .inl (cA 0, 2, .inl tk)), (m4, .inl (cA 0, 2, .inl tv))] → va_S A s.heap H locs → ∀ (ls : Array Slot), lv_has ls 3 [(0, .ref mo), (1, .int fo)] → W p l e (headSpec (.code xy_Mo_work xb_Mo_work 3 (some .int) :: tw_W) ({ frames := 4, cells := 0, slots := 0, locals := 87 })).room s m ([.ref mo, .int fo] : List Value).toArray below meth c H locs 0 0 (MQ below (va_Qi (fun (r : Int32) (u9 : Nat × Nat × Int32 × Int32 × (Nat → Nat) × (Nat → Nat) × (Nat → Int32) × (Nat → Int32) × (Nat → Int32) × (Nat → Int32) × (Nat → Int32) × Nat × Nat) => match u9 with | (b2, a2, le2, ob2, pa2, ps2, tk2, tv2, sa2, kd2, vl2, rn2, pw2) => b2 ≤ 1 ∧ wq_Q (tx_F fo tn cnt (cnt + 1) 0 st ce 0 0) st ce sa kd vl r sa2 kd2 vl2 rn2 pw2) (fun u9 T9 => match u9 with | (b2, a2, le2, ob2, pa2, ps2, tk2, tv2, sa2, kd2, vl2, rn2, pw2) => at_w G A [(mo, .inr (8, [.int th, .ref ms, .ref mk, .ref mv, .int (nI mm), .int (nI ml), .int (nI cnt), .ref mt, .int mp, .int mn, .int (nI mu), .ref ma, .int (nI a2), .int (nI b2), .int le2, .int ob2, .ref m1, .ref m2, .ref m3, .ref m4, .int (nI rn2), .int (nI pw2), .ref mc])), (ms, .inl (cA 0, 720, .inl sa2)), (mk, .inl (cA 0, 18720, .inl kd2)), (mv, .inl (cA 0, 18720, .inl vl2)), (mt, .inl (cA 0, 300, .inl (tx_A tn))), (m1, .inl (cA 0, 2, .inl (tx_A pa2))), (m2, .inl (cA 0, 2, .inl (tx_A ps2))), (m3, .inl (cA 0, 2, .inl tk2)), (m4, .inl (cA 0, 2, .inl tv2))] T9) A) ([.ref mo, .int fo] : List Value).toArray s 0 0 A) (F0 m 21 ls []) := by
    intro k_lp
    induction k_lp with
    | zero =>
      intro f a k pp s1 c1 sa1 kd1 vl1 b le ob pa ps tk tv ha hk hw1 hwz1 hf hT hR1 hB1 hb1 hk_lp
      exact absurd hk_lp (Nat.not_lt_zero _)
    | succ k_lp ih_lp =>
      intro f a k pp s1 c1 sa1 kd1 vl1 b le ob pa ps tk tv ha hk hw1 hwz1 hf hT hR1 hB1 hb1 hk_lp H locs hP hD hS ls hl
      refine lv_aload_n hx hb xd_Mo_work_21 rfl (lv_at hl 0 rfl) ?_
      obtain ⟨f, rfl⟩ : ∃ g, f = g + 1 := ⟨f - 1, by omega⟩
      have hPc := hP.sub (ws' := [(mo, .inr (8, [.int th, .ref ms, .ref mk, .ref mv, .int (nI mm), .int (nI ml), .int (nI cnt), .ref mt, .int mp, .int mn, .int (nI mu), .ref ma, .int (nI a), .int (nI b), .int le, .int ob, .ref m1, .ref m2, .ref m3, .ref m4, .int (nI k), .int (nI pp), .ref mc])), (mt, .inl (cA 0, 300, .inl (tx_A tn)))]) [0, 4] rfl
      refine vp_callSi (va_Run.run (va_runV (As := []) (rest := []) ⟨hx, hb, hml, hown, hts⟩ (ct_Mo_look l G cA mo th ms mk mv mm ml cnt mt mp mn mu ma a (nI b) le ob m1 m2 m3 m4 k pp mc tn hc (by omega)) (cwV 0 hts (gi_v xm_708 xm_710 xs_Mo_look xm_9 xm_711) rfl rfl rfl ⟨rfl, xh_Mo_look⟩ ⟨Nat.le_of_ble_eq_true rfl, Nat.le_of_ble_eq_true rfl⟩) (pv_r hK hPc (ci := 8) (q0 := 0) rfl rfl) rfl rfl hl.1 rfl (lv_room (Nat.le_of_ble_eq_true rfl)) xd_Mo_work_22 ⟨Nat.le_of_ble_eq_true rfl, Nat.le_of_ble_eq_true rfl⟩)) (fun r_3 q_4 => ?_)
      refine lx_top (z := sp_pk tn cnt a) (q_4) ?_
      refine lv_bipush (v := nI 32) hx hb xd_Mo_work_25 (by decide) ?_
      refine lv_icmp_ne (tgt := 43) hx hb xd_Mo_work_27 (by decide) (fun c_27_4 => ?_) (fun c_27_4 => ?_)
      · have q_s : ¬ tk_P tn cnt a 32 := pk_nt c_27_4
        have hsk : sp_sk tn cnt a = a := sp_sk_f q_s
        refine lv_aload_n hx hb xd_Mo_work_43 rfl (lv_at hl 0 rfl) ?_
        refine va_get (D := G) (ci := 8) (v := .int (nI a)) (C := xc_Mo) (T := xf_Mo) (N := 23) hx hb hts xw_Mo hown hK.1 hP 0 rfl rfl 12 (by decide) (hts _ xm_631) (fun _ h9 => h9) rfl xd_Mo_work_44 ?_
        refine lv_aload_n hx hb xd_Mo_work_47 rfl (lv_at hl 0 rfl) ?_
        refine va_get (D := G) (ci := 8) (v := .int (nI cnt)) (C := xc_Mo) (T := xf_Mo) (N := 23) hx hb hts xw_Mo hown hK.1 hP 0 rfl rfl 6 (by decide) (hts _ xm_625) (fun _ h9 => h9) rfl xd_Mo_work_48 ?_
        refine lv_icmp_lt (tgt := 56) hx hb xd_Mo_work_51 (by decide) (fun c_51_5 => ?_) (fun c_51_5 => ?_)
        · have q_a := nI_gl (by omega) (by omega) c_51_5
          refine lv_aload_n hx hb xd_Mo_work_56 rfl (lv_at hl 0 rfl) ?_
          have hPc := hP.sub (ws' := [(mo, .inr (8, [.int th, .ref ms, .ref mk, .ref mv, .int (nI mm), .int (nI ml), .int (nI cnt), .ref mt, .int mp, .int mn, .int (nI mu), .ref ma, .int (nI a), .int (nI b), .int le, .int ob, .ref m1, .ref m2, .ref m3, .ref m4, .int (nI k), .int (nI pp), .ref mc])), (mt, .inl (cA 0, 300, .inl (tx_A tn))), (m1, .inl (cA 0, 2, .inl (tx_A pa))), (m2, .inl (cA 0, 2, .inl (tx_A ps))), (m3, .inl (cA 0, 2, .inl tk)), (m4, .inl (cA 0, 2, .inl tv))]) [0, 4, 5, 6, 7, 8] rfl
          have hDc := hD.sub (ws' := [(mo, .inr (8, [.int th, .ref ms, .ref mk, .ref mv, .int (nI mm), .int (nI ml), .int (nI cnt), .ref mt, .int mp, .int mn, .int (nI mu), .ref ma, .int (nI a), .int (nI b), .int le, .int ob, .ref m1, .ref m2, .ref m3, .ref m4, .int (nI k), .int (nI pp), .ref mc])), (mt, .inl (cA 0, 300, .inl (tx_A tn))), (m1, .inl (cA 0, 2, .inl (tx_A pa))), (m2, .inl (cA 0, 2, .inl (tx_A ps))), (m3, .inl (cA 0, 2, .inl tk)), (m4, .inl (cA 0, 2, .inl tv))]) [0, 4, 5, 6, 7, 8] (by decide) rfl
          have hFc := va_free (wc := [(mo, .inr (8, [.int th, .ref ms, .ref mk, .ref mv, .int (nI mm), .int (nI ml), .int (nI cnt), .ref mt, .int mp, .int mn, .int (nI mu), .ref ma, .int (nI a), .int (nI b), .int le, .int ob, .ref m1, .ref m2, .ref m3, .ref m4, .int (nI k), .int (nI pp), .ref mc])), (mt, .inl (cA 0, 300, .inl (tx_A tn))), (m1, .inl (cA 0, 2, .inl (tx_A pa))), (m2, .inl (cA 0, 2, .inl (tx_A ps))), (m3, .inl (cA 0, 2, .inl tk)), (m4, .inl (cA 0, 2, .inl tv))]) hD hS hA [0, 4, 5, 6, 7, 8] rfl
          refine va_calli (va_runV (As := []) (rest := []) ⟨hx, hb, hml, hown, hts⟩ (ct_Mo_reads l G cA H.size mo th ms mk mv mm ml cnt mt mp mn mu ma a le ob m1 m2 m3 m4 k pp mc b tn hc (by omega) hv hb1 tk tv pa ps q_a) (cwV 0 hts (gi_v xm_712 xm_714 xs_Mo_reads xm_9 xm_715) rfl rfl rfl ⟨rfl, xh_Mo_reads⟩ ⟨Nat.le_of_ble_eq_true rfl, Nat.le_of_ble_eq_true rfl⟩) (pv_w hK hPc hDc (ci := 8) (q0 := 0) rfl rfl) rfl rfl hl.1 rfl (lv_room (Nat.le_of_ble_eq_true rfl)) xd_Mo_work_57 ⟨Nat.le_of_ble_eq_true rfl, Nat.le_of_ble_eq_true rfl⟩) hS (fun q _ h => hFc q h) hFc (fun r_7 u9 t9 H1 locs ht hvm q_8 hB hz1 hk1 hS => ?_)
          obtain ⟨u_b2_9, u_a2_10, u_le2_11, u_ob2_12, u_pa2_13, u_ps2_14, u_tk2_15, u_tv2_16⟩ := u9
          try dsimp only at q_8 hB
          obtain ⟨hP1, hD1⟩ := hB
          rw [ht] at hP1
          obtain ⟨hP, hD⟩ := va_join (wr := [(ms, .inl (cA 0, 720, .inl sa1)), (mk, .inl (cA 0, 18720, .inl kd1)), (mv, .inl (cA 0, 18720, .inl vl1))]) (w1 := [(mo, .inr (8, [.int th, .ref ms, .ref mk, .ref mv, .int (nI mm), .int (nI ml), .int (nI cnt), .ref mt, .int mp, .int mn, .int (nI mu), .ref ma, .int (nI u_a2_10), .int (nI u_b2_9), .int u_le2_11, .int u_ob2_12, .ref m1, .ref m2, .ref m3, .ref m4, .int (nI k), .int (nI pp), .ref mc])), (mt, .inl (cA 0, 300, .inl (tx_A tn))), (m1, .inl (cA 0, 2, .inl (tx_A u_pa2_13))), (m2, .inl (cA 0, 2, .inl (tx_A u_ps2_14))), (m3, .inl (cA 0, 2, .inl u_tk2_15)), (m4, .inl (cA 0, 2, .inl u_tv2_16))]) hP hD [0, 4, 5, 6, 7, 8] [1, 2, 3] rfl rfl (by decide) (by decide) hk1 hFc hP1 hD1
          generalize H1 = H at hP hS ⊢
          have hP : va_P G xk_cl [(ms, .inl (cA 0, 720, .inl sa1)), (mk, .inl (cA 0, 18720, .inl kd1)), (mv, .inl (cA 0, 18720, .inl vl1)), (mo, .inr (8, [.int th, .ref ms, .ref mk, .ref mv, .int (nI mm), .int (nI ml), .int (nI cnt), .ref mt, .int mp, .int mn, .int (nI mu), .ref ma, .int (nI u_a2_10), .int (nI u_b2_9), .int u_le2_11, .int u_ob2_12, .ref m1, .ref m2, .ref m3, .ref m4, .int (nI k), .int (nI pp), .ref mc])), (mt, .inl (cA 0, 300, .inl (tx_A tn))), (m1, .inl (cA 0, 2, .inl (tx_A u_pa2_13))), (m2, .inl (cA 0, 2, .inl (tx_A u_ps2_14))), (m3, .inl (cA 0, 2, .inl u_tk2_15)), (m4, .inl (cA 0, 2, .inl u_tv2_16))] H := hP
          have hD : va_D A [(ms, .inl (cA 0, 720, .inl sa1)), (mk, .inl (cA 0, 18720, .inl kd1)), (mv, .inl (cA 0, 18720, .inl vl1)), (mo, .inr (8, [.int th, .ref ms, .ref mk, .ref mv, .int (nI mm), .int (nI ml), .int (nI cnt), .ref mt, .int mp, .int mn, .int (nI mu), .ref ma, .int (nI u_a2_10), .int (nI u_b2_9), .int u_le2_11, .int u_ob2_12, .ref m1, .ref m2, .ref m3, .ref m4, .int (nI k), .int (nI pp), .ref mc])), (mt, .inl (cA 0, 300, .inl (tx_A tn))), (m1, .inl (cA 0, 2, .inl (tx_A u_pa2_13))), (m2, .inl (cA 0, 2, .inl (tx_A u_ps2_14))), (m3, .inl (cA 0, 2, .inl u_tk2_15)), (m4, .inl (cA 0, 2, .inl u_tv2_16))] := hD
          unfold rd_Q at q_8
          obtain ⟨q_l1, hb6, qm⟩ := q_8
          rcases op_l (ln_P tn cnt a) with hP0 | ⟨v0, n0, fs, fl, gs, gl, w0, g0, b0, hP0⟩
          · rw [hP0] at qm
            refine lx_top (z := nI 0) (qm) ?_
            refine lv_if_ne (tgt := 67) hx hb xd_Mo_work_60 (by decide) (fun c_60_16 => absurd (by decide) c_60_16) (fun c_60_16 => ?_)
            refine lv_iconst (v := nI 1) hx hb xd_Mo_work_63 (by decide) ?_
            refine lv_goto (tgt := 107) hx hb xd_Mo_work_64 (by decide) ?_
            refine lv_istore_n (lv' := [(2, .int (nI 1)), (0, .ref mo), (1, .int fo)]) hx hb xd_Mo_work_107 rfl hl (by decide) rfl (fun ls hl => ?_)
            refine lv_iload_n hx hb xd_Mo_work_108 rfl (lv_at hl 0 rfl) ?_
            refine lv_if_le (tgt := 128) hx hb xd_Mo_work_109 (by decide) (fun c_109_17 => absurd c_109_17 (by decide)) (fun c_109_17 => ?_)
            refine lv_aload_n hx hb xd_Mo_work_112 rfl (lv_at hl 1 rfl) ?_
            refine lv_iconst (v := nI 1) hx hb xd_Mo_work_113 (by decide) ?_
            refine lv_iconst (v := nI 0) hx hb xd_Mo_work_114 (by decide) ?_
            have hPc := hP.sub (ws' := [(mo, .inr (8, [.int th, .ref ms, .ref mk, .ref mv, .int (nI mm), .int (nI ml), .int (nI cnt), .ref mt, .int mp, .int mn, .int (nI mu), .ref ma, .int (nI u_a2_10), .int (nI u_b2_9), .int u_le2_11, .int u_ob2_12, .ref m1, .ref m2, .ref m3, .ref m4, .int (nI k), .int (nI pp), .ref mc])), (ms, .inl (cA 0, 720, .inl sa1)), (mk, .inl (cA 0, 18720, .inl kd1)), (mv, .inl (cA 0, 18720, .inl vl1))]) [3, 0, 1, 2] rfl
            have hDc := hD.sub (ws' := [(mo, .inr (8, [.int th, .ref ms, .ref mk, .ref mv, .int (nI mm), .int (nI ml), .int (nI cnt), .ref mt, .int mp, .int mn, .int (nI mu), .ref ma, .int (nI u_a2_10), .int (nI u_b2_9), .int u_le2_11, .int u_ob2_12, .ref m1, .ref m2, .ref m3, .ref m4, .int (nI k), .int (nI pp), .ref mc])), (ms, .inl (cA 0, 720, .inl sa1)), (mk, .inl (cA 0, 18720, .inl kd1)), (mv, .inl (cA 0, 18720, .inl vl1))]) [3, 0, 1, 2] (by decide) rfl
            have hFc := va_free (wc := [(mo, .inr (8, [.int th, .ref ms, .ref mk, .ref mv, .int (nI mm), .int (nI ml), .int (nI cnt), .ref mt, .int mp, .int mn, .int (nI mu), .ref ma, .int (nI u_a2_10), .int (nI u_b2_9), .int u_le2_11, .int u_ob2_12, .ref m1, .ref m2, .ref m3, .ref m4, .int (nI k), .int (nI pp), .ref mc])), (ms, .inl (cA 0, 720, .inl sa1)), (mk, .inl (cA 0, 18720, .inl kd1)), (mv, .inl (cA 0, 18720, .inl vl1))]) hD hS hA [3, 0, 1, 2] rfl
            refine va_callv (va_runV (As := [.int (nI 1), .int (nI 0)]) (rest := []) ⟨hx, hb, hml, hown, hts⟩ (ct_Mo_copy l G cA H.size mo th ms mk mv mm ml cnt mt mp mn mu ma u_a2_10 (nI u_b2_9) u_le2_11 u_ob2_12 m1 m2 m3 m4 k pp mc sa1 kd1 vl1 1 0 (by omega) (by omega) (by decide)) (cwV 2 hts (gi_v xm_704 xm_706 xs_Mo_copy xm_9 xm_707) rfl rfl rfl ⟨rfl, xh_Mo_copy⟩ ⟨Nat.le_of_ble_eq_true rfl, Nat.le_of_ble_eq_true rfl⟩) (pv_w hK hPc hDc (ci := 8) (q0 := 0) rfl rfl) rfl rfl hl.1 rfl (lv_room (Nat.le_of_ble_eq_true rfl)) xd_Mo_work_115 ⟨Nat.le_of_ble_eq_true rfl, Nat.le_of_ble_eq_true rfl⟩) hS (fun q _ h => hFc q h) hFc (fun u9 t9 H1 locs ht hvm q_20 hB hz1 hk1 hS => ?_)
            obtain ⟨hP1, hD1⟩ := hB
            rw [ht] at hP1
            obtain ⟨hP, hD⟩ := va_join (wr := [(mt, .inl (cA 0, 300, .inl (tx_A tn))), (m1, .inl (cA 0, 2, .inl (tx_A u_pa2_13))), (m2, .inl (cA 0, 2, .inl (tx_A u_ps2_14))), (m3, .inl (cA 0, 2, .inl u_tk2_15)), (m4, .inl (cA 0, 2, .inl u_tv2_16))]) (w1 := [(mo, .inr (8, [.int th, .ref ms, .ref mk, .ref mv, .int (nI mm), .int (nI ml), .int (nI cnt), .ref mt, .int mp, .int mn, .int (nI mu), .ref ma, .int (nI u_a2_10), .int (nI u_b2_9), .int u_le2_11, .int u_ob2_12, .ref m1, .ref m2, .ref m3, .ref m4, .int (nI k), .int (nI pp), .ref mc])), (ms, .inl (cA 0, 720, .inl (cp_A 40 1 0 sa1 40))), (mk, .inl (cA 0, 18720, .inl (cp_A 1040 1 0 kd1 1040))), (mv, .inl (cA 0, 18720, .inl (cp_A 1040 1 0 vl1 1040)))]) hP hD [3, 0, 1, 2] [4, 5, 6, 7, 8] rfl rfl (by decide) (by decide) hk1 hFc hP1 hD1
            generalize H1 = H at hP hS ⊢
            have hP : va_P G xk_cl [(mt, .inl (cA 0, 300, .inl (tx_A tn))), (m1, .inl (cA 0, 2, .inl (tx_A u_pa2_13))), (m2, .inl (cA 0, 2, .inl (tx_A u_ps2_14))), (m3, .inl (cA 0, 2, .inl u_tk2_15)), (m4, .inl (cA 0, 2, .inl u_tv2_16)), (mo, .inr (8, [.int th, .ref ms, .ref mk, .ref mv, .int (nI mm), .int (nI ml), .int (nI cnt), .ref mt, .int mp, .int mn, .int (nI mu), .ref ma, .int (nI u_a2_10), .int (nI u_b2_9), .int u_le2_11, .int u_ob2_12, .ref m1, .ref m2, .ref m3, .ref m4, .int (nI k), .int (nI pp), .ref mc])), (ms, .inl (cA 0, 720, .inl (cp_A 40 1 0 sa1 40))), (mk, .inl (cA 0, 18720, .inl (cp_A 1040 1 0 kd1 1040))), (mv, .inl (cA 0, 18720, .inl (cp_A 1040 1 0 vl1 1040)))] H := hP
            have hD : va_D A [(mt, .inl (cA 0, 300, .inl (tx_A tn))), (m1, .inl (cA 0, 2, .inl (tx_A u_pa2_13))), (m2, .inl (cA 0, 2, .inl (tx_A u_ps2_14))), (m3, .inl (cA 0, 2, .inl u_tk2_15)), (m4, .inl (cA 0, 2, .inl u_tv2_16)), (mo, .inr (8, [.int th, .ref ms, .ref mk, .ref mv, .int (nI mm), .int (nI ml), .int (nI cnt), .ref mt, .int mp, .int mn, .int (nI mu), .ref ma, .int (nI u_a2_10), .int (nI u_b2_9), .int u_le2_11, .int u_ob2_12, .ref m1, .ref m2, .ref m3, .ref m4, .int (nI k), .int (nI pp), .ref mc])), (ms, .inl (cA 0, 720, .inl (cp_A 40 1 0 sa1 40))), (mk, .inl (cA 0, 18720, .inl (cp_A 1040 1 0 kd1 1040))), (mv, .inl (cA 0, 18720, .inl (cp_A 1040 1 0 vl1 1040)))] := hD
            refine lv_bipush (v := nI 10) hx hb xd_Mo_work_118 (by decide) ?_
            refine lv_aload_n hx hb xd_Mo_work_120 rfl (lv_at hl 1 rfl) ?_
            refine va_get (D := G) (ci := 8) (v := .int (nI k)) (C := xc_Mo) (T := xf_Mo) (N := 23) hx hb hts xw_Mo hown hK.1 hP 5 rfl rfl 20 (by decide) (hts _ xm_639) (fun _ h9 => h9) rfl xd_Mo_work_121 ?_
            refine lx_imul (z := nI (10 * k)) hx hb xd_Mo_work_124 (pk_mul _ _) ?_
            refine lv_iload_n hx hb xd_Mo_work_125 rfl (lv_at hl 0 rfl) ?_
            refine lx_iadd (z := nI (10 * k + 1)) hx hb xd_Mo_work_126 (nI_add _ _) ?_
            have hP9 : va_P G xk_cl [(mo, .inr (8, [.int th, .ref ms, .ref mk, .ref mv, .int (nI mm), .int (nI ml), .int (nI cnt), .ref mt, .int mp, .int mn, .int (nI mu), .ref ma, .int (nI u_a2_10), .int (nI u_b2_9), .int u_le2_11, .int u_ob2_12, .ref m1, .ref m2, .ref m3, .ref m4, .int (nI k), .int (nI pp), .ref mc])), (ms, .inl (cA 0, 720, .inl (cp_A 40 1 0 sa1 40))), (mk, .inl (cA 0, 18720, .inl (cp_A 1040 1 0 kd1 1040))), (mv, .inl (cA 0, 18720, .inl (cp_A 1040 1 0 vl1 1040))), (mt, .inl (cA 0, 300, .inl (tx_A tn))), (m1, .inl (cA 0, 2, .inl (tx_A u_pa2_13))), (m2, .inl (cA 0, 2, .inl (tx_A u_ps2_14))), (m3, .inl (cA 0, 2, .inl u_tk2_15)), (m4, .inl (cA 0, 2, .inl u_tv2_16))] _ := hP.sub [5, 6, 7, 8, 0, 1, 2, 3, 4] rfl
            have hD9 : va_D A [(mo, .inr (8, [.int th, .ref ms, .ref mk, .ref mv, .int (nI mm), .int (nI ml), .int (nI cnt), .ref mt, .int mp, .int mn, .int (nI mu), .ref ma, .int (nI u_a2_10), .int (nI u_b2_9), .int u_le2_11, .int u_ob2_12, .ref m1, .ref m2, .ref m3, .ref m4, .int (nI k), .int (nI pp), .ref mc])), (ms, .inl (cA 0, 720, .inl (cp_A 40 1 0 sa1 40))), (mk, .inl (cA 0, 18720, .inl (cp_A 1040 1 0 kd1 1040))), (mv, .inl (cA 0, 18720, .inl (cp_A 1040 1 0 vl1 1040))), (mt, .inl (cA 0, 300, .inl (tx_A tn))), (m1, .inl (cA 0, 2, .inl (tx_A u_pa2_13))), (m2, .inl (cA 0, 2, .inl (tx_A u_ps2_14))), (m3, .inl (cA 0, 2, .inl u_tk2_15)), (m4, .inl (cA 0, 2, .inl u_tv2_16))] := hD.sub [5, 6, 7, 8, 0, 1, 2, 3, 4] (by decide) rfl
            exact W.iret (v := nI (10 * k + 1)) hx hb hr (fun T9 ht hW => ⟨⟨_, (u_b2_9, u_a2_10, u_le2_11, u_ob2_12, u_pa2_13, u_ps2_14, u_tk2_15, u_tv2_16, cp_A 40 1 0 sa1 40, cp_A 1040 1 0 kd1 1040, cp_A 1040 1 0 vl1 1040, k, pp), rfl, ⟨hb6, wq_f (bf_f hB1 (fr_c _ _ _ 1)) (by omega) (by omega) rfl (by rw [hT, tx_F_n (by rw [hsk]; exact q_a) (by rw [hsk]; exact hP0)]) (sn_b hR hB1)⟩, by rw [ht]; exact hP9, hD9⟩, hS.F ht⟩) hS.2.2 xd_Mo_work_127
          · rw [hP0] at qm
            have hok := ln_ok hP0
            have hsh := ln_sh hP0
            unfold ln_V at hok
            dsimp only at hok
            have hb4 := hok.2.2.2.2.1
            have hb5 := hok.2.2.2.2.2
            obtain ⟨qr, qv, qe, qo, qp⟩ := qm
            refine lx_top (z := nI 1) (qr) ?_
            rw [qv, qe] at hP hD
            have hP : va_P G xk_cl [(ms, .inl (cA 0, 720, .inl sa1)), (mk, .inl (cA 0, 18720, .inl kd1)), (mv, .inl (cA 0, 18720, .inl vl1)), (mo, .inr (8, [.int th, .ref ms, .ref mk, .ref mv, .int (nI mm), .int (nI ml), .int (nI cnt), .ref mt, .int mp, .int mn, .int (nI mu), .ref ma, .int (nI b0), .int (nI u_b2_9), .int (nI v0), .int u_ob2_12, .ref m1, .ref m2, .ref m3, .ref m4, .int (nI k), .int (nI pp), .ref mc])), (mt, .inl (cA 0, 300, .inl (tx_A tn))), (m1, .inl (cA 0, 2, .inl (tx_A u_pa2_13))), (m2, .inl (cA 0, 2, .inl (tx_A u_ps2_14))), (m3, .inl (cA 0, 2, .inl u_tk2_15)), (m4, .inl (cA 0, 2, .inl u_tv2_16))] H := hP
            have hD : va_D A [(ms, .inl (cA 0, 720, .inl sa1)), (mk, .inl (cA 0, 18720, .inl kd1)), (mv, .inl (cA 0, 18720, .inl vl1)), (mo, .inr (8, [.int th, .ref ms, .ref mk, .ref mv, .int (nI mm), .int (nI ml), .int (nI cnt), .ref mt, .int mp, .int mn, .int (nI mu), .ref ma, .int (nI b0), .int (nI u_b2_9), .int (nI v0), .int u_ob2_12, .ref m1, .ref m2, .ref m3, .ref m4, .int (nI k), .int (nI pp), .ref mc])), (mt, .inl (cA 0, 300, .inl (tx_A tn))), (m1, .inl (cA 0, 2, .inl (tx_A u_pa2_13))), (m2, .inl (cA 0, 2, .inl (tx_A u_ps2_14))), (m3, .inl (cA 0, 2, .inl u_tk2_15)), (m4, .inl (cA 0, 2, .inl u_tv2_16))] := hD
            have hwv2 : wv_O (ex_L fo s1 c1 tn (v0, n0, fs, fl, gs, gl, w0, g0, b0)).2.2 := ex_l_wv hw1 (fun z => ⟨fun j hj => by have := (hok.2.2.1 z).2.2 j hj; unfold pk_t; omega, (hok.2.2.1 z).1, (hok.2.2.1 z).2.1⟩)
            have hwz2 : wz_O (ex_L fo s1 c1 tn (v0, n0, fs, fl, gs, gl, w0, g0, b0)).2.2 := ex_l_wz hwz1 hw1 hsh.2.1.1 (fun z => ⟨fun j hj => by have := (hok.2.2.1 z).2.2 j hj; unfold pk_t; omega, (hok.2.2.1 z).1, (hok.2.2.1 z).2.1⟩) hok.1
            have hrr : er_P (ex_L fo s1 c1 tn (v0, n0, fs, fl, gs, gl, w0, g0, b0)).1 := ex_l_r _ _ _ _ _ _ _ _ _ _ _
            refine lv_if_ne (tgt := 67) hx hb xd_Mo_work_60 (by decide) (fun c_60_20 => ?_) (fun c_60_20 => absurd c_60_20 (by decide))
            refine lv_aload_n hx hb xd_Mo_work_67 rfl (lv_at hl 0 rfl) ?_
            refine va_get (D := G) (ci := 8) (v := .int (nI v0)) (C := xc_Mo) (T := xf_Mo) (N := 23) hx hb hts xw_Mo hown hK.1 hP 3 rfl rfl 14 (by decide) (hts _ xm_633) (fun _ h9 => h9) rfl xd_Mo_work_68 ?_
            refine lv_bipush (v := nI 65) hx hb xd_Mo_work_71 (by decide) ?_
            refine lv_icmp_eq (tgt := 94) hx hb xd_Mo_work_73 (by decide) (fun c_73_21 => ?_) (fun c_73_21 => ?_)
            · have q_v : v0 = 65 ∨ v0 = 82 ∨ v0 = 71 := Or.inl (nI_ge' (by have := hok.1; omega) (by decide) c_73_21)
              have qo1 := qo q_v
              rw [qo1] at hP hD
              have hP : va_P G xk_cl [(ms, .inl (cA 0, 720, .inl sa1)), (mk, .inl (cA 0, 18720, .inl kd1)), (mv, .inl (cA 0, 18720, .inl vl1)), (mo, .inr (8, [.int th, .ref ms, .ref mk, .ref mv, .int (nI mm), .int (nI ml), .int (nI cnt), .ref mt, .int mp, .int mn, .int (nI mu), .ref ma, .int (nI b0), .int (nI u_b2_9), .int (nI v0), .int (nI n0), .ref m1, .ref m2, .ref m3, .ref m4, .int (nI k), .int (nI pp), .ref mc])), (mt, .inl (cA 0, 300, .inl (tx_A tn))), (m1, .inl (cA 0, 2, .inl (tx_A u_pa2_13))), (m2, .inl (cA 0, 2, .inl (tx_A u_ps2_14))), (m3, .inl (cA 0, 2, .inl u_tk2_15)), (m4, .inl (cA 0, 2, .inl u_tv2_16))] H := hP
              have hD : va_D A [(ms, .inl (cA 0, 720, .inl sa1)), (mk, .inl (cA 0, 18720, .inl kd1)), (mv, .inl (cA 0, 18720, .inl vl1)), (mo, .inr (8, [.int th, .ref ms, .ref mk, .ref mv, .int (nI mm), .int (nI ml), .int (nI cnt), .ref mt, .int mp, .int mn, .int (nI mu), .ref ma, .int (nI b0), .int (nI u_b2_9), .int (nI v0), .int (nI n0), .ref m1, .ref m2, .ref m3, .ref m4, .int (nI k), .int (nI pp), .ref mc])), (mt, .inl (cA 0, 300, .inl (tx_A tn))), (m1, .inl (cA 0, 2, .inl (tx_A u_pa2_13))), (m2, .inl (cA 0, 2, .inl (tx_A u_ps2_14))), (m3, .inl (cA 0, 2, .inl u_tk2_15)), (m4, .inl (cA 0, 2, .inl u_tv2_16))] := hD
              refine lv_aload_n hx hb xd_Mo_work_94 rfl (lv_at hl 0 rfl) ?_
              refine lv_iload_n hx hb xd_Mo_work_95 rfl (lv_at hl 1 rfl) ?_
              have hPc := hP.sub (ws' := [(mo, .inr (8, [.int th, .ref ms, .ref mk, .ref mv, .int (nI mm), .int (nI ml), .int (nI cnt), .ref mt, .int mp, .int mn, .int (nI mu), .ref ma, .int (nI b0), .int (nI u_b2_9), .int (nI v0), .int (nI n0), .ref m1, .ref m2, .ref m3, .ref m4, .int (nI k), .int (nI pp), .ref mc])), (ms, .inl (cA 0, 720, .inl sa1)), (mk, .inl (cA 0, 18720, .inl kd1)), (mv, .inl (cA 0, 18720, .inl vl1))]) [3, 0, 1, 2] rfl
              have hDc := hD.sub (ws' := [(mo, .inr (8, [.int th, .ref ms, .ref mk, .ref mv, .int (nI mm), .int (nI ml), .int (nI cnt), .ref mt, .int mp, .int mn, .int (nI mu), .ref ma, .int (nI b0), .int (nI u_b2_9), .int (nI v0), .int (nI n0), .ref m1, .ref m2, .ref m3, .ref m4, .int (nI k), .int (nI pp), .ref mc])), (ms, .inl (cA 0, 720, .inl sa1)), (mk, .inl (cA 0, 18720, .inl kd1)), (mv, .inl (cA 0, 18720, .inl vl1))]) [3, 0, 1, 2] (by decide) rfl
              have hFc := va_free (wc := [(mo, .inr (8, [.int th, .ref ms, .ref mk, .ref mv, .int (nI mm), .int (nI ml), .int (nI cnt), .ref mt, .int mp, .int mn, .int (nI mu), .ref ma, .int (nI b0), .int (nI u_b2_9), .int (nI v0), .int (nI n0), .ref m1, .ref m2, .ref m3, .ref m4, .int (nI k), .int (nI pp), .ref mc])), (ms, .inl (cA 0, 720, .inl sa1)), (mk, .inl (cA 0, 18720, .inl kd1)), (mv, .inl (cA 0, 18720, .inl vl1))]) hD hS hA [3, 0, 1, 2] rfl
              refine va_calli (va_runV (As := [.int fo]) (rest := []) ⟨hx, hb, hml, hown, hts⟩ (ct_Mo_doObject l G cA H.size mo th ms mk mv mm ml cnt mt mp mn mu ma b0 m1 m2 m3 m4 k pp mc u_b2_9 tn hc (by omega) hv hb6 sa1 kd1 vl1 s1 c1 fo v0 n0 (pk_t tn fs) fl (pk_t tn gs) gl hR1 q_v hok.2.1) (cwV 1 hts (gi_v xm_735 xm_737 xs_Mo_doObject xm_9 xm_738) rfl rfl rfl ⟨rfl, xh_Mo_doObject⟩ ⟨Nat.le_of_ble_eq_true rfl, Nat.le_of_ble_eq_true rfl⟩) (pv_w hK hPc hDc (ci := 8) (q0 := 0) rfl rfl) rfl rfl hl.1 rfl (lv_room (Nat.le_of_ble_eq_true rfl)) xd_Mo_work_96 ⟨Nat.le_of_ble_eq_true rfl, Nat.le_of_ble_eq_true rfl⟩) hS (fun q _ h => hFc q h) hFc (fun r_23 u9 t9 H1 locs ht hvm q_24 hB hz1 hk1 hS => ?_)
              obtain ⟨u_sa2_25, u_kd2_26, u_vl2_27⟩ := u9
              try dsimp only at q_24 hB
              obtain ⟨hP1, hD1⟩ := hB
              rw [ht] at hP1
              obtain ⟨hP, hD⟩ := va_join (wr := [(mt, .inl (cA 0, 300, .inl (tx_A tn))), (m1, .inl (cA 0, 2, .inl (tx_A u_pa2_13))), (m2, .inl (cA 0, 2, .inl (tx_A u_ps2_14))), (m3, .inl (cA 0, 2, .inl u_tk2_15)), (m4, .inl (cA 0, 2, .inl u_tv2_16))]) (w1 := [(mo, .inr (8, [.int th, .ref ms, .ref mk, .ref mv, .int (nI mm), .int (nI ml), .int (nI cnt), .ref mt, .int mp, .int mn, .int (nI mu), .ref ma, .int (nI b0), .int (nI u_b2_9), .int (nI v0), .int (nI n0), .ref m1, .ref m2, .ref m3, .ref m4, .int (nI k), .int (nI pp), .ref mc])), (ms, .inl (cA 0, 720, .inl u_sa2_25)), (mk, .inl (cA 0, 18720, .inl u_kd2_26)), (mv, .inl (cA 0, 18720, .inl u_vl2_27))]) hP hD [3, 0, 1, 2] [4, 5, 6, 7, 8] rfl rfl (by decide) (by decide) hk1 hFc hP1 hD1
              generalize H1 = H at hP hS ⊢
              have hP : va_P G xk_cl [(mt, .inl (cA 0, 300, .inl (tx_A tn))), (m1, .inl (cA 0, 2, .inl (tx_A u_pa2_13))), (m2, .inl (cA 0, 2, .inl (tx_A u_ps2_14))), (m3, .inl (cA 0, 2, .inl u_tk2_15)), (m4, .inl (cA 0, 2, .inl u_tv2_16)), (mo, .inr (8, [.int th, .ref ms, .ref mk, .ref mv, .int (nI mm), .int (nI ml), .int (nI cnt), .ref mt, .int mp, .int mn, .int (nI mu), .ref ma, .int (nI b0), .int (nI u_b2_9), .int (nI v0), .int (nI n0), .ref m1, .ref m2, .ref m3, .ref m4, .int (nI k), .int (nI pp), .ref mc])), (ms, .inl (cA 0, 720, .inl u_sa2_25)), (mk, .inl (cA 0, 18720, .inl u_kd2_26)), (mv, .inl (cA 0, 18720, .inl u_vl2_27))] H := hP
              have hD : va_D A [(mt, .inl (cA 0, 300, .inl (tx_A tn))), (m1, .inl (cA 0, 2, .inl (tx_A u_pa2_13))), (m2, .inl (cA 0, 2, .inl (tx_A u_ps2_14))), (m3, .inl (cA 0, 2, .inl u_tk2_15)), (m4, .inl (cA 0, 2, .inl u_tv2_16)), (mo, .inr (8, [.int th, .ref ms, .ref mk, .ref mv, .int (nI mm), .int (nI ml), .int (nI cnt), .ref mt, .int mp, .int mn, .int (nI mu), .ref ma, .int (nI b0), .int (nI u_b2_9), .int (nI v0), .int (nI n0), .ref m1, .ref m2, .ref m3, .ref m4, .int (nI k), .int (nI pp), .ref mc])), (ms, .inl (cA 0, 720, .inl u_sa2_25)), (mk, .inl (cA 0, 18720, .inl u_kd2_26)), (mv, .inl (cA 0, 18720, .inl u_vl2_27))] := hD
              have hE : ex_l fo s1 c1 v0 n0 (pk_t tn fs) fl (pk_t tn gs) gl (nI 0) (nI 0) = ex_L fo s1 c1 tn (v0, n0, fs, fl, gs, gl, w0, g0, b0) := by have := hsh.2.2.1 q_v; rw [this.1, this.2]; rfl
              rw [hE] at q_24
              obtain ⟨r_1, r_2, r_3⟩ := q_24
              refine lx_top (z := (ex_L fo s1 c1 tn (v0, n0, fs, fl, gs, gl, w0, g0, b0)).1) (r_1) ?_
              refine lv_goto (tgt := 107) hx hb xd_Mo_work_99 (by decide) ?_
              refine lv_istore_n (lv' := [(2, .int ((ex_L fo s1 c1 tn (v0, n0, fs, fl, gs, gl, w0, g0, b0)).1)), (0, .ref mo), (1, .int fo)]) hx hb xd_Mo_work_107 rfl hl (by decide) rfl (fun ls hl => ?_)
              refine lv_iload_n hx hb xd_Mo_work_108 rfl (lv_at hl 0 rfl) ?_
              refine lv_if_le (tgt := 128) hx hb xd_Mo_work_109 (by decide) (fun c_109_27 => ?_) (fun c_109_27 => ?_)
              · refine lv_aload_n hx hb xd_Mo_work_128 rfl (lv_at hl 1 rfl) ?_
                refine lv_dup hx hb xd_Mo_work_129 rfl ?_
                refine va_get (D := G) (ci := 8) (v := .int (nI k)) (C := xc_Mo) (T := xf_Mo) (N := 23) hx hb hts xw_Mo hown hK.1 hP 5 rfl rfl 20 (by decide) (hts _ xm_639) (fun _ h9 => h9) rfl xd_Mo_work_130 ?_
                refine lv_iconst (v := nI 1) hx hb xd_Mo_work_133 (by decide) ?_
                refine lx_iadd (z := nI (k + 1)) hx hb xd_Mo_work_134 (nI_add _ _) ?_
                refine va_put (D := G) (ci := 8) (v := .int (nI (k + 1))) (ty := .int) (C := xc_Mo) (T := xf_Mo) (N := 23) hx hb hts xw_Mo xt_Mo xt_Mo_ok xn_Mo hown hK.1 hP hD hS 5 rfl rfl 20 (by decide) (hts _ xm_639) (fun _ h9 => h9) rfl (by decide +kernel) rfl rfl (Nat.le_of_ble_eq_true rfl) xd_Mo_work_135 (fun H locs hP hD hS => ?_)
                have hP : va_P G xk_cl [(mt, .inl (cA 0, 300, .inl (tx_A tn))), (m1, .inl (cA 0, 2, .inl (tx_A u_pa2_13))), (m2, .inl (cA 0, 2, .inl (tx_A u_ps2_14))), (m3, .inl (cA 0, 2, .inl u_tk2_15)), (m4, .inl (cA 0, 2, .inl u_tv2_16)), (mo, .inr (8, [.int th, .ref ms, .ref mk, .ref mv, .int (nI mm), .int (nI ml), .int (nI cnt), .ref mt, .int mp, .int mn, .int (nI mu), .ref ma, .int (nI b0), .int (nI u_b2_9), .int (nI v0), .int (nI n0), .ref m1, .ref m2, .ref m3, .ref m4, .int (nI (k + 1)), .int (nI pp), .ref mc])), (ms, .inl (cA 0, 720, .inl u_sa2_25)), (mk, .inl (cA 0, 18720, .inl u_kd2_26)), (mv, .inl (cA 0, 18720, .inl u_vl2_27))] H := hP
                have hD : va_D A [(mt, .inl (cA 0, 300, .inl (tx_A tn))), (m1, .inl (cA 0, 2, .inl (tx_A u_pa2_13))), (m2, .inl (cA 0, 2, .inl (tx_A u_ps2_14))), (m3, .inl (cA 0, 2, .inl u_tk2_15)), (m4, .inl (cA 0, 2, .inl u_tv2_16)), (mo, .inr (8, [.int th, .ref ms, .ref mk, .ref mv, .int (nI mm), .int (nI ml), .int (nI cnt), .ref mt, .int mp, .int mn, .int (nI mu), .ref ma, .int (nI b0), .int (nI u_b2_9), .int (nI v0), .int (nI n0), .ref m1, .ref m2, .ref m3, .ref m4, .int (nI (k + 1)), .int (nI pp), .ref mc])), (ms, .inl (cA 0, 720, .inl u_sa2_25)), (mk, .inl (cA 0, 18720, .inl u_kd2_26)), (mv, .inl (cA 0, 18720, .inl u_vl2_27))] := hD
                refine lv_goto (tgt := 21) hx hb xd_Mo_work_138 (by decide) ?_
                exact ih_lp f b0 (k + 1) pp ((ex_L fo s1 c1 tn (v0, n0, fs, fl, gs, gl, w0, g0, b0)).2.1) ((ex_L fo s1 c1 tn (v0, n0, fs, fl, gs, gl, w0, g0, b0)).2.2) u_sa2_25 u_kd2_26 u_vl2_27 u_b2_9 (nI v0) (nI n0) u_pa2_13 u_ps2_14 u_tk2_15 u_tv2_16 hb5 (by omega) hwv2 hwz2 (by omega) (by rw [hT, tx_F_s (by rw [hsk]; exact q_a) (by rw [hsk]; exact hP0) rfl c_109_27, if_neg (show ¬ (ex_L fo s1 c1 tn (v0, n0, fs, fl, gs, gl, w0, g0, b0)).1 = -1 from ex_l_n q_v)]) r_2 (bf_f hB1 r_3) hb6 (by omega) _ _ (hP.sub [5, 6, 7, 8, 0, 1, 2, 3, 4] rfl) (hD.sub [5, 6, 7, 8, 0, 1, 2, 3, 4] (by decide) rfl) hS ls (lv_sub hl [1, 2] rfl)
              · refine lv_aload_n hx hb xd_Mo_work_112 rfl (lv_at hl 1 rfl) ?_
                refine lv_iconst (v := nI 1) hx hb xd_Mo_work_113 (by decide) ?_
                refine lv_iconst (v := nI 0) hx hb xd_Mo_work_114 (by decide) ?_
                have hPc := hP.sub (ws' := [(mo, .inr (8, [.int th, .ref ms, .ref mk, .ref mv, .int (nI mm), .int (nI ml), .int (nI cnt), .ref mt, .int mp, .int mn, .int (nI mu), .ref ma, .int (nI b0), .int (nI u_b2_9), .int (nI v0), .int (nI n0), .ref m1, .ref m2, .ref m3, .ref m4, .int (nI k), .int (nI pp), .ref mc])), (ms, .inl (cA 0, 720, .inl u_sa2_25)), (mk, .inl (cA 0, 18720, .inl u_kd2_26)), (mv, .inl (cA 0, 18720, .inl u_vl2_27))]) [5, 6, 7, 8] rfl
                have hDc := hD.sub (ws' := [(mo, .inr (8, [.int th, .ref ms, .ref mk, .ref mv, .int (nI mm), .int (nI ml), .int (nI cnt), .ref mt, .int mp, .int mn, .int (nI mu), .ref ma, .int (nI b0), .int (nI u_b2_9), .int (nI v0), .int (nI n0), .ref m1, .ref m2, .ref m3, .ref m4, .int (nI k), .int (nI pp), .ref mc])), (ms, .inl (cA 0, 720, .inl u_sa2_25)), (mk, .inl (cA 0, 18720, .inl u_kd2_26)), (mv, .inl (cA 0, 18720, .inl u_vl2_27))]) [5, 6, 7, 8] (by decide) rfl
                have hFc := va_free (wc := [(mo, .inr (8, [.int th, .ref ms, .ref mk, .ref mv, .int (nI mm), .int (nI ml), .int (nI cnt), .ref mt, .int mp, .int mn, .int (nI mu), .ref ma, .int (nI b0), .int (nI u_b2_9), .int (nI v0), .int (nI n0), .ref m1, .ref m2, .ref m3, .ref m4, .int (nI k), .int (nI pp), .ref mc])), (ms, .inl (cA 0, 720, .inl u_sa2_25)), (mk, .inl (cA 0, 18720, .inl u_kd2_26)), (mv, .inl (cA 0, 18720, .inl u_vl2_27))]) hD hS hA [5, 6, 7, 8] rfl
                refine va_callv (va_runV (As := [.int (nI 1), .int (nI 0)]) (rest := []) ⟨hx, hb, hml, hown, hts⟩ (ct_Mo_copy l G cA H.size mo th ms mk mv mm ml cnt mt mp mn mu ma b0 (nI u_b2_9) (nI v0) (nI n0) m1 m2 m3 m4 k pp mc u_sa2_25 u_kd2_26 u_vl2_27 1 0 (by omega) (by omega) (by decide)) (cwV 2 hts (gi_v xm_704 xm_706 xs_Mo_copy xm_9 xm_707) rfl rfl rfl ⟨rfl, xh_Mo_copy⟩ ⟨Nat.le_of_ble_eq_true rfl, Nat.le_of_ble_eq_true rfl⟩) (pv_w hK hPc hDc (ci := 8) (q0 := 0) rfl rfl) rfl rfl hl.1 rfl (lv_room (Nat.le_of_ble_eq_true rfl)) xd_Mo_work_115 ⟨Nat.le_of_ble_eq_true rfl, Nat.le_of_ble_eq_true rfl⟩) hS (fun q _ h => hFc q h) hFc (fun u9 t9 H1 locs ht hvm q_30 hB hz1 hk1 hS => ?_)
                obtain ⟨hP1, hD1⟩ := hB
                rw [ht] at hP1
                obtain ⟨hP, hD⟩ := va_join (wr := [(mt, .inl (cA 0, 300, .inl (tx_A tn))), (m1, .inl (cA 0, 2, .inl (tx_A u_pa2_13))), (m2, .inl (cA 0, 2, .inl (tx_A u_ps2_14))), (m3, .inl (cA 0, 2, .inl u_tk2_15)), (m4, .inl (cA 0, 2, .inl u_tv2_16))]) (w1 := [(mo, .inr (8, [.int th, .ref ms, .ref mk, .ref mv, .int (nI mm), .int (nI ml), .int (nI cnt), .ref mt, .int mp, .int mn, .int (nI mu), .ref ma, .int (nI b0), .int (nI u_b2_9), .int (nI v0), .int (nI n0), .ref m1, .ref m2, .ref m3, .ref m4, .int (nI k), .int (nI pp), .ref mc])), (ms, .inl (cA 0, 720, .inl (cp_A 40 1 0 u_sa2_25 40))), (mk, .inl (cA 0, 18720, .inl (cp_A 1040 1 0 u_kd2_26 1040))), (mv, .inl (cA 0, 18720, .inl (cp_A 1040 1 0 u_vl2_27 1040)))]) hP hD [5, 6, 7, 8] [0, 1, 2, 3, 4] rfl rfl (by decide) (by decide) hk1 hFc hP1 hD1
                generalize H1 = H at hP hS ⊢
                have hP : va_P G xk_cl [(mt, .inl (cA 0, 300, .inl (tx_A tn))), (m1, .inl (cA 0, 2, .inl (tx_A u_pa2_13))), (m2, .inl (cA 0, 2, .inl (tx_A u_ps2_14))), (m3, .inl (cA 0, 2, .inl u_tk2_15)), (m4, .inl (cA 0, 2, .inl u_tv2_16)), (mo, .inr (8, [.int th, .ref ms, .ref mk, .ref mv, .int (nI mm), .int (nI ml), .int (nI cnt), .ref mt, .int mp, .int mn, .int (nI mu), .ref ma, .int (nI b0), .int (nI u_b2_9), .int (nI v0), .int (nI n0), .ref m1, .ref m2, .ref m3, .ref m4, .int (nI k), .int (nI pp), .ref mc])), (ms, .inl (cA 0, 720, .inl (cp_A 40 1 0 u_sa2_25 40))), (mk, .inl (cA 0, 18720, .inl (cp_A 1040 1 0 u_kd2_26 1040))), (mv, .inl (cA 0, 18720, .inl (cp_A 1040 1 0 u_vl2_27 1040)))] H := hP
                have hD : va_D A [(mt, .inl (cA 0, 300, .inl (tx_A tn))), (m1, .inl (cA 0, 2, .inl (tx_A u_pa2_13))), (m2, .inl (cA 0, 2, .inl (tx_A u_ps2_14))), (m3, .inl (cA 0, 2, .inl u_tk2_15)), (m4, .inl (cA 0, 2, .inl u_tv2_16)), (mo, .inr (8, [.int th, .ref ms, .ref mk, .ref mv, .int (nI mm), .int (nI ml), .int (nI cnt), .ref mt, .int mp, .int mn, .int (nI mu), .ref ma, .int (nI b0), .int (nI u_b2_9), .int (nI v0), .int (nI n0), .ref m1, .ref m2, .ref m3, .ref m4, .int (nI k), .int (nI pp), .ref mc])), (ms, .inl (cA 0, 720, .inl (cp_A 40 1 0 u_sa2_25 40))), (mk, .inl (cA 0, 18720, .inl (cp_A 1040 1 0 u_kd2_26 1040))), (mv, .inl (cA 0, 18720, .inl (cp_A 1040 1 0 u_vl2_27 1040)))] := hD
                refine lv_bipush (v := nI 10) hx hb xd_Mo_work_118 (by decide) ?_
                refine lv_aload_n hx hb xd_Mo_work_120 rfl (lv_at hl 1 rfl) ?_
                refine va_get (D := G) (ci := 8) (v := .int (nI k)) (C := xc_Mo) (T := xf_Mo) (N := 23) hx hb hts xw_Mo hown hK.1 hP 5 rfl rfl 20 (by decide) (hts _ xm_639) (fun _ h9 => h9) rfl xd_Mo_work_121 ?_
                refine lx_imul (z := nI (10 * k)) hx hb xd_Mo_work_124 (pk_mul _ _) ?_
                refine lv_iload_n hx hb xd_Mo_work_125 rfl (lv_at hl 0 rfl) ?_
                refine lx_iadd (z := (nI (10 * k)) + ((ex_L fo s1 c1 tn (v0, n0, fs, fl, gs, gl, w0, g0, b0)).1)) hx hb xd_Mo_work_126 (rfl) ?_
                obtain ⟨e, he0, he, hy⟩ := er_g hrr c_109_27
                have hP9 : va_P G xk_cl [(mo, .inr (8, [.int th, .ref ms, .ref mk, .ref mv, .int (nI mm), .int (nI ml), .int (nI cnt), .ref mt, .int mp, .int mn, .int (nI mu), .ref ma, .int (nI b0), .int (nI u_b2_9), .int (nI v0), .int (nI n0), .ref m1, .ref m2, .ref m3, .ref m4, .int (nI k), .int (nI pp), .ref mc])), (ms, .inl (cA 0, 720, .inl (cp_A 40 1 0 u_sa2_25 40))), (mk, .inl (cA 0, 18720, .inl (cp_A 1040 1 0 u_kd2_26 1040))), (mv, .inl (cA 0, 18720, .inl (cp_A 1040 1 0 u_vl2_27 1040))), (mt, .inl (cA 0, 300, .inl (tx_A tn))), (m1, .inl (cA 0, 2, .inl (tx_A u_pa2_13))), (m2, .inl (cA 0, 2, .inl (tx_A u_ps2_14))), (m3, .inl (cA 0, 2, .inl u_tk2_15)), (m4, .inl (cA 0, 2, .inl u_tv2_16))] _ := hP.sub [5, 6, 7, 8, 0, 1, 2, 3, 4] rfl
                have hD9 : va_D A [(mo, .inr (8, [.int th, .ref ms, .ref mk, .ref mv, .int (nI mm), .int (nI ml), .int (nI cnt), .ref mt, .int mp, .int mn, .int (nI mu), .ref ma, .int (nI b0), .int (nI u_b2_9), .int (nI v0), .int (nI n0), .ref m1, .ref m2, .ref m3, .ref m4, .int (nI k), .int (nI pp), .ref mc])), (ms, .inl (cA 0, 720, .inl (cp_A 40 1 0 u_sa2_25 40))), (mk, .inl (cA 0, 18720, .inl (cp_A 1040 1 0 u_kd2_26 1040))), (mv, .inl (cA 0, 18720, .inl (cp_A 1040 1 0 u_vl2_27 1040))), (mt, .inl (cA 0, 300, .inl (tx_A tn))), (m1, .inl (cA 0, 2, .inl (tx_A u_pa2_13))), (m2, .inl (cA 0, 2, .inl (tx_A u_ps2_14))), (m3, .inl (cA 0, 2, .inl u_tk2_15)), (m4, .inl (cA 0, 2, .inl u_tv2_16))] := hD.sub [5, 6, 7, 8, 0, 1, 2, 3, 4] (by decide) rfl
                exact W.iret (v := (nI (10 * k)) + ((ex_L fo s1 c1 tn (v0, n0, fs, fl, gs, gl, w0, g0, b0)).1)) hx hb hr (fun T9 ht hW => ⟨⟨_, (u_b2_9, b0, nI v0, nI n0, u_pa2_13, u_ps2_14, u_tk2_15, u_tv2_16, cp_A 40 1 0 u_sa2_25 40, cp_A 1040 1 0 u_kd2_26 1040, cp_A 1040 1 0 u_vl2_27 1040, k, pp), rfl, ⟨hb6, wq_f (bf_f (bf_f hB1 r_3) (fr_c _ _ _ 1)) (e := 10 * k + e) (by omega) (by omega) (by rw [hy, nI_pl he]) (by rw [hT, tx_F_x (by rw [hsk]; exact q_a) (by rw [hsk]; exact hP0) rfl c_109_27, hy, nI_pl he]) (sn_b hR (bf_f hB1 r_3))⟩, by rw [ht]; exact hP9, hD9⟩, hS.F ht⟩) hS.2.2 xd_Mo_work_127
            · have n_65 : ¬ v0 = 65 := fun z => c_73_21 (by rw [z])
              refine lv_aload_n hx hb xd_Mo_work_76 rfl (lv_at hl 0 rfl) ?_
              refine va_get (D := G) (ci := 8) (v := .int (nI v0)) (C := xc_Mo) (T := xf_Mo) (N := 23) hx hb hts xw_Mo hown hK.1 hP 3 rfl rfl 14 (by decide) (hts _ xm_633) (fun _ h9 => h9) rfl xd_Mo_work_77 ?_
              refine lv_bipush (v := nI 82) hx hb xd_Mo_work_80 (by decide) ?_
              refine lv_icmp_eq (tgt := 94) hx hb xd_Mo_work_82 (by decide) (fun c_82_30 => ?_) (fun c_82_30 => ?_)
              · have q_v : v0 = 65 ∨ v0 = 82 ∨ v0 = 71 := Or.inr (Or.inl (nI_ge' (by have := hok.1; omega) (by decide) c_82_30))
                have qo1 := qo q_v
                rw [qo1] at hP hD
                have hP : va_P G xk_cl [(ms, .inl (cA 0, 720, .inl sa1)), (mk, .inl (cA 0, 18720, .inl kd1)), (mv, .inl (cA 0, 18720, .inl vl1)), (mo, .inr (8, [.int th, .ref ms, .ref mk, .ref mv, .int (nI mm), .int (nI ml), .int (nI cnt), .ref mt, .int mp, .int mn, .int (nI mu), .ref ma, .int (nI b0), .int (nI u_b2_9), .int (nI v0), .int (nI n0), .ref m1, .ref m2, .ref m3, .ref m4, .int (nI k), .int (nI pp), .ref mc])), (mt, .inl (cA 0, 300, .inl (tx_A tn))), (m1, .inl (cA 0, 2, .inl (tx_A u_pa2_13))), (m2, .inl (cA 0, 2, .inl (tx_A u_ps2_14))), (m3, .inl (cA 0, 2, .inl u_tk2_15)), (m4, .inl (cA 0, 2, .inl u_tv2_16))] H := hP
                have hD : va_D A [(ms, .inl (cA 0, 720, .inl sa1)), (mk, .inl (cA 0, 18720, .inl kd1)), (mv, .inl (cA 0, 18720, .inl vl1)), (mo, .inr (8, [.int th, .ref ms, .ref mk, .ref mv, .int (nI mm), .int (nI ml), .int (nI cnt), .ref mt, .int mp, .int mn, .int (nI mu), .ref ma, .int (nI b0), .int (nI u_b2_9), .int (nI v0), .int (nI n0), .ref m1, .ref m2, .ref m3, .ref m4, .int (nI k), .int (nI pp), .ref mc])), (mt, .inl (cA 0, 300, .inl (tx_A tn))), (m1, .inl (cA 0, 2, .inl (tx_A u_pa2_13))), (m2, .inl (cA 0, 2, .inl (tx_A u_ps2_14))), (m3, .inl (cA 0, 2, .inl u_tk2_15)), (m4, .inl (cA 0, 2, .inl u_tv2_16))] := hD
                refine lv_aload_n hx hb xd_Mo_work_94 rfl (lv_at hl 0 rfl) ?_
                refine lv_iload_n hx hb xd_Mo_work_95 rfl (lv_at hl 1 rfl) ?_
                have hPc := hP.sub (ws' := [(mo, .inr (8, [.int th, .ref ms, .ref mk, .ref mv, .int (nI mm), .int (nI ml), .int (nI cnt), .ref mt, .int mp, .int mn, .int (nI mu), .ref ma, .int (nI b0), .int (nI u_b2_9), .int (nI v0), .int (nI n0), .ref m1, .ref m2, .ref m3, .ref m4, .int (nI k), .int (nI pp), .ref mc])), (ms, .inl (cA 0, 720, .inl sa1)), (mk, .inl (cA 0, 18720, .inl kd1)), (mv, .inl (cA 0, 18720, .inl vl1))]) [3, 0, 1, 2] rfl
                have hDc := hD.sub (ws' := [(mo, .inr (8, [.int th, .ref ms, .ref mk, .ref mv, .int (nI mm), .int (nI ml), .int (nI cnt), .ref mt, .int mp, .int mn, .int (nI mu), .ref ma, .int (nI b0), .int (nI u_b2_9), .int (nI v0), .int (nI n0), .ref m1, .ref m2, .ref m3, .ref m4, .int (nI k), .int (nI pp), .ref mc])), (ms, .inl (cA 0, 720, .inl sa1)), (mk, .inl (cA 0, 18720, .inl kd1)), (mv, .inl (cA 0, 18720, .inl vl1))]) [3, 0, 1, 2] (by decide) rfl
                have hFc := va_free (wc := [(mo, .inr (8, [.int th, .ref ms, .ref mk, .ref mv, .int (nI mm), .int (nI ml), .int (nI cnt), .ref mt, .int mp, .int mn, .int (nI mu), .ref ma, .int (nI b0), .int (nI u_b2_9), .int (nI v0), .int (nI n0), .ref m1, .ref m2, .ref m3, .ref m4, .int (nI k), .int (nI pp), .ref mc])), (ms, .inl (cA 0, 720, .inl sa1)), (mk, .inl (cA 0, 18720, .inl kd1)), (mv, .inl (cA 0, 18720, .inl vl1))]) hD hS hA [3, 0, 1, 2] rfl
                refine va_calli (va_runV (As := [.int fo]) (rest := []) ⟨hx, hb, hml, hown, hts⟩ (ct_Mo_doObject l G cA H.size mo th ms mk mv mm ml cnt mt mp mn mu ma b0 m1 m2 m3 m4 k pp mc u_b2_9 tn hc (by omega) hv hb6 sa1 kd1 vl1 s1 c1 fo v0 n0 (pk_t tn fs) fl (pk_t tn gs) gl hR1 q_v hok.2.1) (cwV 1 hts (gi_v xm_735 xm_737 xs_Mo_doObject xm_9 xm_738) rfl rfl rfl ⟨rfl, xh_Mo_doObject⟩ ⟨Nat.le_of_ble_eq_true rfl, Nat.le_of_ble_eq_true rfl⟩) (pv_w hK hPc hDc (ci := 8) (q0 := 0) rfl rfl) rfl rfl hl.1 rfl (lv_room (Nat.le_of_ble_eq_true rfl)) xd_Mo_work_96 ⟨Nat.le_of_ble_eq_true rfl, Nat.le_of_ble_eq_true rfl⟩) hS (fun q _ h => hFc q h) hFc (fun r_32 u9 t9 H1 locs ht hvm q_33 hB hz1 hk1 hS => ?_)
                obtain ⟨u_sa2_34, u_kd2_35, u_vl2_36⟩ := u9
                try dsimp only at q_33 hB
                obtain ⟨hP1, hD1⟩ := hB
                rw [ht] at hP1
                obtain ⟨hP, hD⟩ := va_join (wr := [(mt, .inl (cA 0, 300, .inl (tx_A tn))), (m1, .inl (cA 0, 2, .inl (tx_A u_pa2_13))), (m2, .inl (cA 0, 2, .inl (tx_A u_ps2_14))), (m3, .inl (cA 0, 2, .inl u_tk2_15)), (m4, .inl (cA 0, 2, .inl u_tv2_16))]) (w1 := [(mo, .inr (8, [.int th, .ref ms, .ref mk, .ref mv, .int (nI mm), .int (nI ml), .int (nI cnt), .ref mt, .int mp, .int mn, .int (nI mu), .ref ma, .int (nI b0), .int (nI u_b2_9), .int (nI v0), .int (nI n0), .ref m1, .ref m2, .ref m3, .ref m4, .int (nI k), .int (nI pp), .ref mc])), (ms, .inl (cA 0, 720, .inl u_sa2_34)), (mk, .inl (cA 0, 18720, .inl u_kd2_35)), (mv, .inl (cA 0, 18720, .inl u_vl2_36))]) hP hD [3, 0, 1, 2] [4, 5, 6, 7, 8] rfl rfl (by decide) (by decide) hk1 hFc hP1 hD1
                generalize H1 = H at hP hS ⊢
                have hP : va_P G xk_cl [(mt, .inl (cA 0, 300, .inl (tx_A tn))), (m1, .inl (cA 0, 2, .inl (tx_A u_pa2_13))), (m2, .inl (cA 0, 2, .inl (tx_A u_ps2_14))), (m3, .inl (cA 0, 2, .inl u_tk2_15)), (m4, .inl (cA 0, 2, .inl u_tv2_16)), (mo, .inr (8, [.int th, .ref ms, .ref mk, .ref mv, .int (nI mm), .int (nI ml), .int (nI cnt), .ref mt, .int mp, .int mn, .int (nI mu), .ref ma, .int (nI b0), .int (nI u_b2_9), .int (nI v0), .int (nI n0), .ref m1, .ref m2, .ref m3, .ref m4, .int (nI k), .int (nI pp), .ref mc])), (ms, .inl (cA 0, 720, .inl u_sa2_34)), (mk, .inl (cA 0, 18720, .inl u_kd2_35)), (mv, .inl (cA 0, 18720, .inl u_vl2_36))] H := hP
                have hD : va_D A [(mt, .inl (cA 0, 300, .inl (tx_A tn))), (m1, .inl (cA 0, 2, .inl (tx_A u_pa2_13))), (m2, .inl (cA 0, 2, .inl (tx_A u_ps2_14))), (m3, .inl (cA 0, 2, .inl u_tk2_15)), (m4, .inl (cA 0, 2, .inl u_tv2_16)), (mo, .inr (8, [.int th, .ref ms, .ref mk, .ref mv, .int (nI mm), .int (nI ml), .int (nI cnt), .ref mt, .int mp, .int mn, .int (nI mu), .ref ma, .int (nI b0), .int (nI u_b2_9), .int (nI v0), .int (nI n0), .ref m1, .ref m2, .ref m3, .ref m4, .int (nI k), .int (nI pp), .ref mc])), (ms, .inl (cA 0, 720, .inl u_sa2_34)), (mk, .inl (cA 0, 18720, .inl u_kd2_35)), (mv, .inl (cA 0, 18720, .inl u_vl2_36))] := hD
                have hE : ex_l fo s1 c1 v0 n0 (pk_t tn fs) fl (pk_t tn gs) gl (nI 0) (nI 0) = ex_L fo s1 c1 tn (v0, n0, fs, fl, gs, gl, w0, g0, b0) := by have := hsh.2.2.1 q_v; rw [this.1, this.2]; rfl
                rw [hE] at q_33
                obtain ⟨r_1, r_2, r_3⟩ := q_33
                refine lx_top (z := (ex_L fo s1 c1 tn (v0, n0, fs, fl, gs, gl, w0, g0, b0)).1) (r_1) ?_
                refine lv_goto (tgt := 107) hx hb xd_Mo_work_99 (by decide) ?_
                refine lv_istore_n (lv' := [(2, .int ((ex_L fo s1 c1 tn (v0, n0, fs, fl, gs, gl, w0, g0, b0)).1)), (0, .ref mo), (1, .int fo)]) hx hb xd_Mo_work_107 rfl hl (by decide) rfl (fun ls hl => ?_)
                refine lv_iload_n hx hb xd_Mo_work_108 rfl (lv_at hl 0 rfl) ?_
                refine lv_if_le (tgt := 128) hx hb xd_Mo_work_109 (by decide) (fun c_109_36 => ?_) (fun c_109_36 => ?_)
                · refine lv_aload_n hx hb xd_Mo_work_128 rfl (lv_at hl 1 rfl) ?_
                  refine lv_dup hx hb xd_Mo_work_129 rfl ?_
                  refine va_get (D := G) (ci := 8) (v := .int (nI k)) (C := xc_Mo) (T := xf_Mo) (N := 23) hx hb hts xw_Mo hown hK.1 hP 5 rfl rfl 20 (by decide) (hts _ xm_639) (fun _ h9 => h9) rfl xd_Mo_work_130 ?_
                  refine lv_iconst (v := nI 1) hx hb xd_Mo_work_133 (by decide) ?_
                  refine lx_iadd (z := nI (k + 1)) hx hb xd_Mo_work_134 (nI_add _ _) ?_
                  refine va_put (D := G) (ci := 8) (v := .int (nI (k + 1))) (ty := .int) (C := xc_Mo) (T := xf_Mo) (N := 23) hx hb hts xw_Mo xt_Mo xt_Mo_ok xn_Mo hown hK.1 hP hD hS 5 rfl rfl 20 (by decide) (hts _ xm_639) (fun _ h9 => h9) rfl (by decide +kernel) rfl rfl (Nat.le_of_ble_eq_true rfl) xd_Mo_work_135 (fun H locs hP hD hS => ?_)
                  have hP : va_P G xk_cl [(mt, .inl (cA 0, 300, .inl (tx_A tn))), (m1, .inl (cA 0, 2, .inl (tx_A u_pa2_13))), (m2, .inl (cA 0, 2, .inl (tx_A u_ps2_14))), (m3, .inl (cA 0, 2, .inl u_tk2_15)), (m4, .inl (cA 0, 2, .inl u_tv2_16)), (mo, .inr (8, [.int th, .ref ms, .ref mk, .ref mv, .int (nI mm), .int (nI ml), .int (nI cnt), .ref mt, .int mp, .int mn, .int (nI mu), .ref ma, .int (nI b0), .int (nI u_b2_9), .int (nI v0), .int (nI n0), .ref m1, .ref m2, .ref m3, .ref m4, .int (nI (k + 1)), .int (nI pp), .ref mc])), (ms, .inl (cA 0, 720, .inl u_sa2_34)), (mk, .inl (cA 0, 18720, .inl u_kd2_35)), (mv, .inl (cA 0, 18720, .inl u_vl2_36))] H := hP
                  have hD : va_D A [(mt, .inl (cA 0, 300, .inl (tx_A tn))), (m1, .inl (cA 0, 2, .inl (tx_A u_pa2_13))), (m2, .inl (cA 0, 2, .inl (tx_A u_ps2_14))), (m3, .inl (cA 0, 2, .inl u_tk2_15)), (m4, .inl (cA 0, 2, .inl u_tv2_16)), (mo, .inr (8, [.int th, .ref ms, .ref mk, .ref mv, .int (nI mm), .int (nI ml), .int (nI cnt), .ref mt, .int mp, .int mn, .int (nI mu), .ref ma, .int (nI b0), .int (nI u_b2_9), .int (nI v0), .int (nI n0), .ref m1, .ref m2, .ref m3, .ref m4, .int (nI (k + 1)), .int (nI pp), .ref mc])), (ms, .inl (cA 0, 720, .inl u_sa2_34)), (mk, .inl (cA 0, 18720, .inl u_kd2_35)), (mv, .inl (cA 0, 18720, .inl u_vl2_36))] := hD
                  refine lv_goto (tgt := 21) hx hb xd_Mo_work_138 (by decide) ?_
                  exact ih_lp f b0 (k + 1) pp ((ex_L fo s1 c1 tn (v0, n0, fs, fl, gs, gl, w0, g0, b0)).2.1) ((ex_L fo s1 c1 tn (v0, n0, fs, fl, gs, gl, w0, g0, b0)).2.2) u_sa2_34 u_kd2_35 u_vl2_36 u_b2_9 (nI v0) (nI n0) u_pa2_13 u_ps2_14 u_tk2_15 u_tv2_16 hb5 (by omega) hwv2 hwz2 (by omega) (by rw [hT, tx_F_s (by rw [hsk]; exact q_a) (by rw [hsk]; exact hP0) rfl c_109_36, if_neg (show ¬ (ex_L fo s1 c1 tn (v0, n0, fs, fl, gs, gl, w0, g0, b0)).1 = -1 from ex_l_n q_v)]) r_2 (bf_f hB1 r_3) hb6 (by omega) _ _ (hP.sub [5, 6, 7, 8, 0, 1, 2, 3, 4] rfl) (hD.sub [5, 6, 7, 8, 0, 1, 2, 3, 4] (by decide) rfl) hS ls (lv_sub hl [1, 2] rfl)
                · refine lv_aload_n hx hb xd_Mo_work_112 rfl (lv_at hl 1 rfl) ?_
                  refine lv_iconst (v := nI 1) hx hb xd_Mo_work_113 (by decide) ?_
                  refine lv_iconst (v := nI 0) hx hb xd_Mo_work_114 (by decide) ?_
                  have hPc := hP.sub (ws' := [(mo, .inr (8, [.int th, .ref ms, .ref mk, .ref mv, .int (nI mm), .int (nI ml), .int (nI cnt), .ref mt, .int mp, .int mn, .int (nI mu), .ref ma, .int (nI b0), .int (nI u_b2_9), .int (nI v0), .int (nI n0), .ref m1, .ref m2, .ref m3, .ref m4, .int (nI k), .int (nI pp), .ref mc])), (ms, .inl (cA 0, 720, .inl u_sa2_34)), (mk, .inl (cA 0, 18720, .inl u_kd2_35)), (mv, .inl (cA 0, 18720, .inl u_vl2_36))]) [5, 6, 7, 8] rfl
                  have hDc := hD.sub (ws' := [(mo, .inr (8, [.int th, .ref ms, .ref mk, .ref mv, .int (nI mm), .int (nI ml), .int (nI cnt), .ref mt, .int mp, .int mn, .int (nI mu), .ref ma, .int (nI b0), .int (nI u_b2_9), .int (nI v0), .int (nI n0), .ref m1, .ref m2, .ref m3, .ref m4, .int (nI k), .int (nI pp), .ref mc])), (ms, .inl (cA 0, 720, .inl u_sa2_34)), (mk, .inl (cA 0, 18720, .inl u_kd2_35)), (mv, .inl (cA 0, 18720, .inl u_vl2_36))]) [5, 6, 7, 8] (by decide) rfl
                  have hFc := va_free (wc := [(mo, .inr (8, [.int th, .ref ms, .ref mk, .ref mv, .int (nI mm), .int (nI ml), .int (nI cnt), .ref mt, .int mp, .int mn, .int (nI mu), .ref ma, .int (nI b0), .int (nI u_b2_9), .int (nI v0), .int (nI n0), .ref m1, .ref m2, .ref m3, .ref m4, .int (nI k), .int (nI pp), .ref mc])), (ms, .inl (cA 0, 720, .inl u_sa2_34)), (mk, .inl (cA 0, 18720, .inl u_kd2_35)), (mv, .inl (cA 0, 18720, .inl u_vl2_36))]) hD hS hA [5, 6, 7, 8] rfl
                  refine va_callv (va_runV (As := [.int (nI 1), .int (nI 0)]) (rest := []) ⟨hx, hb, hml, hown, hts⟩ (ct_Mo_copy l G cA H.size mo th ms mk mv mm ml cnt mt mp mn mu ma b0 (nI u_b2_9) (nI v0) (nI n0) m1 m2 m3 m4 k pp mc u_sa2_34 u_kd2_35 u_vl2_36 1 0 (by omega) (by omega) (by decide)) (cwV 2 hts (gi_v xm_704 xm_706 xs_Mo_copy xm_9 xm_707) rfl rfl rfl ⟨rfl, xh_Mo_copy⟩ ⟨Nat.le_of_ble_eq_true rfl, Nat.le_of_ble_eq_true rfl⟩) (pv_w hK hPc hDc (ci := 8) (q0 := 0) rfl rfl) rfl rfl hl.1 rfl (lv_room (Nat.le_of_ble_eq_true rfl)) xd_Mo_work_115 ⟨Nat.le_of_ble_eq_true rfl, Nat.le_of_ble_eq_true rfl⟩) hS (fun q _ h => hFc q h) hFc (fun u9 t9 H1 locs ht hvm q_39 hB hz1 hk1 hS => ?_)
                  obtain ⟨hP1, hD1⟩ := hB
                  rw [ht] at hP1
                  obtain ⟨hP, hD⟩ := va_join (wr := [(mt, .inl (cA 0, 300, .inl (tx_A tn))), (m1, .inl (cA 0, 2, .inl (tx_A u_pa2_13))), (m2, .inl (cA 0, 2, .inl (tx_A u_ps2_14))), (m3, .inl (cA 0, 2, .inl u_tk2_15)), (m4, .inl (cA 0, 2, .inl u_tv2_16))]) (w1 := [(mo, .inr (8, [.int th, .ref ms, .ref mk, .ref mv, .int (nI mm), .int (nI ml), .int (nI cnt), .ref mt, .int mp, .int mn, .int (nI mu), .ref ma, .int (nI b0), .int (nI u_b2_9), .int (nI v0), .int (nI n0), .ref m1, .ref m2, .ref m3, .ref m4, .int (nI k), .int (nI pp), .ref mc])), (ms, .inl (cA 0, 720, .inl (cp_A 40 1 0 u_sa2_34 40))), (mk, .inl (cA 0, 18720, .inl (cp_A 1040 1 0 u_kd2_35 1040))), (mv, .inl (cA 0, 18720, .inl (cp_A 1040 1 0 u_vl2_36 1040)))]) hP hD [5, 6, 7, 8] [0, 1, 2, 3, 4] rfl rfl (by decide) (by decide) hk1 hFc hP1 hD1
                  generalize H1 = H at hP hS ⊢
                  have hP : va_P G xk_cl [(mt, .inl (cA 0, 300, .inl (tx_A tn))), (m1, .inl (cA 0, 2, .inl (tx_A u_pa2_13))), (m2, .inl (cA 0, 2, .inl (tx_A u_ps2_14))), (m3, .inl (cA 0, 2, .inl u_tk2_15)), (m4, .inl (cA 0, 2, .inl u_tv2_16)), (mo, .inr (8, [.int th, .ref ms, .ref mk, .ref mv, .int (nI mm), .int (nI ml), .int (nI cnt), .ref mt, .int mp, .int mn, .int (nI mu), .ref ma, .int (nI b0), .int (nI u_b2_9), .int (nI v0), .int (nI n0), .ref m1, .ref m2, .ref m3, .ref m4, .int (nI k), .int (nI pp), .ref mc])), (ms, .inl (cA 0, 720, .inl (cp_A 40 1 0 u_sa2_34 40))), (mk, .inl (cA 0, 18720, .inl (cp_A 1040 1 0 u_kd2_35 1040))), (mv, .inl (cA 0, 18720, .inl (cp_A 1040 1 0 u_vl2_36 1040)))] H := hP
                  have hD : va_D A [(mt, .inl (cA 0, 300, .inl (tx_A tn))), (m1, .inl (cA 0, 2, .inl (tx_A u_pa2_13))), (m2, .inl (cA 0, 2, .inl (tx_A u_ps2_14))), (m3, .inl (cA 0, 2, .inl u_tk2_15)), (m4, .inl (cA 0, 2, .inl u_tv2_16)), (mo, .inr (8, [.int th, .ref ms, .ref mk, .ref mv, .int (nI mm), .int (nI ml), .int (nI cnt), .ref mt, .int mp, .int mn, .int (nI mu), .ref ma, .int (nI b0), .int (nI u_b2_9), .int (nI v0), .int (nI n0), .ref m1, .ref m2, .ref m3, .ref m4, .int (nI k), .int (nI pp), .ref mc])), (ms, .inl (cA 0, 720, .inl (cp_A 40 1 0 u_sa2_34 40))), (mk, .inl (cA 0, 18720, .inl (cp_A 1040 1 0 u_kd2_35 1040))), (mv, .inl (cA 0, 18720, .inl (cp_A 1040 1 0 u_vl2_36 1040)))] := hD
                  refine lv_bipush (v := nI 10) hx hb xd_Mo_work_118 (by decide) ?_
                  refine lv_aload_n hx hb xd_Mo_work_120 rfl (lv_at hl 1 rfl) ?_
                  refine va_get (D := G) (ci := 8) (v := .int (nI k)) (C := xc_Mo) (T := xf_Mo) (N := 23) hx hb hts xw_Mo hown hK.1 hP 5 rfl rfl 20 (by decide) (hts _ xm_639) (fun _ h9 => h9) rfl xd_Mo_work_121 ?_
                  refine lx_imul (z := nI (10 * k)) hx hb xd_Mo_work_124 (pk_mul _ _) ?_
                  refine lv_iload_n hx hb xd_Mo_work_125 rfl (lv_at hl 0 rfl) ?_
                  refine lx_iadd (z := (nI (10 * k)) + ((ex_L fo s1 c1 tn (v0, n0, fs, fl, gs, gl, w0, g0, b0)).1)) hx hb xd_Mo_work_126 (rfl) ?_
                  obtain ⟨e, he0, he, hy⟩ := er_g hrr c_109_36
                  have hP9 : va_P G xk_cl [(mo, .inr (8, [.int th, .ref ms, .ref mk, .ref mv, .int (nI mm), .int (nI ml), .int (nI cnt), .ref mt, .int mp, .int mn, .int (nI mu), .ref ma, .int (nI b0), .int (nI u_b2_9), .int (nI v0), .int (nI n0), .ref m1, .ref m2, .ref m3, .ref m4, .int (nI k), .int (nI pp), .ref mc])), (ms, .inl (cA 0, 720, .inl (cp_A 40 1 0 u_sa2_34 40))), (mk, .inl (cA 0, 18720, .inl (cp_A 1040 1 0 u_kd2_35 1040))), (mv, .inl (cA 0, 18720, .inl (cp_A 1040 1 0 u_vl2_36 1040))), (mt, .inl (cA 0, 300, .inl (tx_A tn))), (m1, .inl (cA 0, 2, .inl (tx_A u_pa2_13))), (m2, .inl (cA 0, 2, .inl (tx_A u_ps2_14))), (m3, .inl (cA 0, 2, .inl u_tk2_15)), (m4, .inl (cA 0, 2, .inl u_tv2_16))] _ := hP.sub [5, 6, 7, 8, 0, 1, 2, 3, 4] rfl
                  have hD9 : va_D A [(mo, .inr (8, [.int th, .ref ms, .ref mk, .ref mv, .int (nI mm), .int (nI ml), .int (nI cnt), .ref mt, .int mp, .int mn, .int (nI mu), .ref ma, .int (nI b0), .int (nI u_b2_9), .int (nI v0), .int (nI n0), .ref m1, .ref m2, .ref m3, .ref m4, .int (nI k), .int (nI pp), .ref mc])), (ms, .inl (cA 0, 720, .inl (cp_A 40 1 0 u_sa2_34 40))), (mk, .inl (cA 0, 18720, .inl (cp_A 1040 1 0 u_kd2_35 1040))), (mv, .inl (cA 0, 18720, .inl (cp_A 1040 1 0 u_vl2_36 1040))), (mt, .inl (cA 0, 300, .inl (tx_A tn))), (m1, .inl (cA 0, 2, .inl (tx_A u_pa2_13))), (m2, .inl (cA 0, 2, .inl (tx_A u_ps2_14))), (m3, .inl (cA 0, 2, .inl u_tk2_15)), (m4, .inl (cA 0, 2, .inl u_tv2_16))] := hD.sub [5, 6, 7, 8, 0, 1, 2, 3, 4] (by decide) rfl
                  exact W.iret (v := (nI (10 * k)) + ((ex_L fo s1 c1 tn (v0, n0, fs, fl, gs, gl, w0, g0, b0)).1)) hx hb hr (fun T9 ht hW => ⟨⟨_, (u_b2_9, b0, nI v0, nI n0, u_pa2_13, u_ps2_14, u_tk2_15, u_tv2_16, cp_A 40 1 0 u_sa2_34 40, cp_A 1040 1 0 u_kd2_35 1040, cp_A 1040 1 0 u_vl2_36 1040, k, pp), rfl, ⟨hb6, wq_f (bf_f (bf_f hB1 r_3) (fr_c _ _ _ 1)) (e := 10 * k + e) (by omega) (by omega) (by rw [hy, nI_pl he]) (by rw [hT, tx_F_x (by rw [hsk]; exact q_a) (by rw [hsk]; exact hP0) rfl c_109_36, hy, nI_pl he]) (sn_b hR (bf_f hB1 r_3))⟩, by rw [ht]; exact hP9, hD9⟩, hS.F ht⟩) hS.2.2 xd_Mo_work_127
              · have n_82 : ¬ v0 = 82 := fun z => c_82_30 (by rw [z])
                refine lv_aload_n hx hb xd_Mo_work_85 rfl (lv_at hl 0 rfl) ?_
                refine va_get (D := G) (ci := 8) (v := .int (nI v0)) (C := xc_Mo) (T := xf_Mo) (N := 23) hx hb hts xw_Mo hown hK.1 hP 3 rfl rfl 14 (by decide) (hts _ xm_633) (fun _ h9 => h9) rfl xd_Mo_work_86 ?_
                refine lv_bipush (v := nI 71) hx hb xd_Mo_work_89 (by decide) ?_
                refine lv_icmp_ne (tgt := 102) hx hb xd_Mo_work_91 (by decide) (fun c_91_39 => ?_) (fun c_91_39 => ?_)
                · have n_71 : ¬ v0 = 71 := fun z => c_91_39 (by rw [z])
                  have q_4 : v0 = 83 ∨ v0 = 68 ∨ v0 = 77 ∨ v0 = 67 := by have := hok.1; omega
                  obtain ⟨e_0, e_1, e_2, e_3, e_4, e_5⟩ := qp q_4
                  refine lv_aload_n hx hb xd_Mo_work_102 rfl (lv_at hl 0 rfl) ?_
                  refine lv_iload_n hx hb xd_Mo_work_103 rfl (lv_at hl 1 rfl) ?_
                  have hPc := hP.sub (ws' := [(mo, .inr (8, [.int th, .ref ms, .ref mk, .ref mv, .int (nI mm), .int (nI ml), .int (nI cnt), .ref mt, .int mp, .int mn, .int (nI mu), .ref ma, .int (nI b0), .int (nI u_b2_9), .int (nI v0), .int u_ob2_12, .ref m1, .ref m2, .ref m3, .ref m4, .int (nI k), .int (nI pp), .ref mc])), (ms, .inl (cA 0, 720, .inl sa1)), (mk, .inl (cA 0, 18720, .inl kd1)), (mv, .inl (cA 0, 18720, .inl vl1)), (mt, .inl (cA 0, 300, .inl (tx_A tn))), (m1, .inl (cA 0, 2, .inl (tx_A u_pa2_13))), (m2, .inl (cA 0, 2, .inl (tx_A u_ps2_14))), (m3, .inl (cA 0, 2, .inl u_tk2_15)), (m4, .inl (cA 0, 2, .inl u_tv2_16))]) [3, 0, 1, 2, 4, 5, 6, 7, 8] rfl
                  have hDc := hD.sub (ws' := [(mo, .inr (8, [.int th, .ref ms, .ref mk, .ref mv, .int (nI mm), .int (nI ml), .int (nI cnt), .ref mt, .int mp, .int mn, .int (nI mu), .ref ma, .int (nI b0), .int (nI u_b2_9), .int (nI v0), .int u_ob2_12, .ref m1, .ref m2, .ref m3, .ref m4, .int (nI k), .int (nI pp), .ref mc])), (ms, .inl (cA 0, 720, .inl sa1)), (mk, .inl (cA 0, 18720, .inl kd1)), (mv, .inl (cA 0, 18720, .inl vl1)), (mt, .inl (cA 0, 300, .inl (tx_A tn))), (m1, .inl (cA 0, 2, .inl (tx_A u_pa2_13))), (m2, .inl (cA 0, 2, .inl (tx_A u_ps2_14))), (m3, .inl (cA 0, 2, .inl u_tk2_15)), (m4, .inl (cA 0, 2, .inl u_tv2_16))]) [3, 0, 1, 2, 4, 5, 6, 7, 8] (by decide) rfl
                  have hFc := va_free (wc := [(mo, .inr (8, [.int th, .ref ms, .ref mk, .ref mv, .int (nI mm), .int (nI ml), .int (nI cnt), .ref mt, .int mp, .int mn, .int (nI mu), .ref ma, .int (nI b0), .int (nI u_b2_9), .int (nI v0), .int u_ob2_12, .ref m1, .ref m2, .ref m3, .ref m4, .int (nI k), .int (nI pp), .ref mc])), (ms, .inl (cA 0, 720, .inl sa1)), (mk, .inl (cA 0, 18720, .inl kd1)), (mv, .inl (cA 0, 18720, .inl vl1)), (mt, .inl (cA 0, 300, .inl (tx_A tn))), (m1, .inl (cA 0, 2, .inl (tx_A u_pa2_13))), (m2, .inl (cA 0, 2, .inl (tx_A u_ps2_14))), (m3, .inl (cA 0, 2, .inl u_tk2_15)), (m4, .inl (cA 0, 2, .inl u_tv2_16))]) hD hS hA [3, 0, 1, 2, 4, 5, 6, 7, 8] rfl
                  refine va_calli (va_runV (As := [.int fo]) (rest := []) ⟨hx, hb, hml, hown, hts⟩ (ct_Mo_doPath l G cA H.size mo th ms mk mv mm ml cnt mt mp mn mu ma b0 u_ob2_12 m1 m2 m3 m4 k pp mc u_b2_9 tn hc (by omega) hv hb6 sa1 kd1 vl1 s1 c1 u_pa2_13 u_ps2_14 u_tk2_15 u_tv2_16 fo v0 w0 g0 hR1 hw1 hwz1 q_4 (by rw [e_0, e_1]; exact hok.2.2.1 q_4) (fun z => by rw [(e_2 z).1, (e_2 z).2]; exact hok.2.2.2.1 z) (fun z => ⟨(e_3 z).1, (e_3 z).2.1, (e_3 z).2.2, hsh.2.2.2.2.1 z⟩) e_4 (fun z => ⟨(e_5 z).1, (e_5 z).2, (hsh.2.2.2.2.2 z).1, (hsh.2.2.2.2.2 z).2⟩) hsh.2.1.2 hsh.1.2) (cwV 1 hts (gi_v xm_747 xm_749 xs_Mo_doPath xm_9 xm_750) rfl rfl rfl ⟨rfl, xh_Mo_doPath⟩ ⟨Nat.le_of_ble_eq_true rfl, Nat.le_of_ble_eq_true rfl⟩) (pv_w hK hPc hDc (ci := 8) (q0 := 0) rfl rfl) rfl rfl hl.1 rfl (lv_room (Nat.le_of_ble_eq_true rfl)) xd_Mo_work_104 ⟨Nat.le_of_ble_eq_true rfl, Nat.le_of_ble_eq_true rfl⟩) hS (fun q _ h => hFc q h) hFc (fun r_41 u9 t9 H1 locs ht hvm q_42 hB hz1 hk1 hS => ?_)
                  obtain ⟨u_pw2_43, u_kd2_44, u_vl2_45⟩ := u9
                  try dsimp only at q_42 hB
                  obtain ⟨hP1, hD1⟩ := hB
                  rw [ht] at hP1
                  obtain ⟨hP, hD⟩ := va_join (wr := []) (w1 := [(mo, .inr (8, [.int th, .ref ms, .ref mk, .ref mv, .int (nI mm), .int (nI ml), .int (nI cnt), .ref mt, .int mp, .int mn, .int (nI mu), .ref ma, .int (nI b0), .int (nI u_b2_9), .int (nI v0), .int u_ob2_12, .ref m1, .ref m2, .ref m3, .ref m4, .int (nI k), .int (nI u_pw2_43), .ref mc])), (ms, .inl (cA 0, 720, .inl sa1)), (mk, .inl (cA 0, 18720, .inl u_kd2_44)), (mv, .inl (cA 0, 18720, .inl u_vl2_45)), (mt, .inl (cA 0, 300, .inl (tx_A tn))), (m1, .inl (cA 0, 2, .inl (tx_A u_pa2_13))), (m2, .inl (cA 0, 2, .inl (tx_A u_ps2_14))), (m3, .inl (cA 0, 2, .inl u_tk2_15)), (m4, .inl (cA 0, 2, .inl u_tv2_16))]) hP hD [3, 0, 1, 2, 4, 5, 6, 7, 8] [] rfl rfl (by decide) (by decide) hk1 hFc hP1 hD1
                  generalize H1 = H at hP hS ⊢
                  have hP : va_P G xk_cl [(mo, .inr (8, [.int th, .ref ms, .ref mk, .ref mv, .int (nI mm), .int (nI ml), .int (nI cnt), .ref mt, .int mp, .int mn, .int (nI mu), .ref ma, .int (nI b0), .int (nI u_b2_9), .int (nI v0), .int u_ob2_12, .ref m1, .ref m2, .ref m3, .ref m4, .int (nI k), .int (nI u_pw2_43), .ref mc])), (ms, .inl (cA 0, 720, .inl sa1)), (mk, .inl (cA 0, 18720, .inl u_kd2_44)), (mv, .inl (cA 0, 18720, .inl u_vl2_45)), (mt, .inl (cA 0, 300, .inl (tx_A tn))), (m1, .inl (cA 0, 2, .inl (tx_A u_pa2_13))), (m2, .inl (cA 0, 2, .inl (tx_A u_ps2_14))), (m3, .inl (cA 0, 2, .inl u_tk2_15)), (m4, .inl (cA 0, 2, .inl u_tv2_16))] H := hP
                  have hD : va_D A [(mo, .inr (8, [.int th, .ref ms, .ref mk, .ref mv, .int (nI mm), .int (nI ml), .int (nI cnt), .ref mt, .int mp, .int mn, .int (nI mu), .ref ma, .int (nI b0), .int (nI u_b2_9), .int (nI v0), .int u_ob2_12, .ref m1, .ref m2, .ref m3, .ref m4, .int (nI k), .int (nI u_pw2_43), .ref mc])), (ms, .inl (cA 0, 720, .inl sa1)), (mk, .inl (cA 0, 18720, .inl u_kd2_44)), (mv, .inl (cA 0, 18720, .inl u_vl2_45)), (mt, .inl (cA 0, 300, .inl (tx_A tn))), (m1, .inl (cA 0, 2, .inl (tx_A u_pa2_13))), (m2, .inl (cA 0, 2, .inl (tx_A u_ps2_14))), (m3, .inl (cA 0, 2, .inl u_tk2_15)), (m4, .inl (cA 0, 2, .inl u_tv2_16))] := hD
                  have hE : ex_l fo s1 c1 v0 0 (pk_t tn (u_pa2_13 0)) (u_ps2_14 0) (pk_t tn (u_pa2_13 1)) (u_ps2_14 1) w0 g0 = ex_L fo s1 c1 tn (v0, n0, fs, fl, gs, gl, w0, g0, b0) := by
                    rw [e_0, e_1]
                    have hn0 := hsh.2.2.2.1 q_4
                    subst hn0
                    exact ex_l_cg hok.1 (fun z => ⟨(hok.2.2.1 z).1, rfl, fun _ _ => rfl⟩) (fun z => ⟨by rw [(e_2 z).2]; exact (hok.2.2.2.1 z).1, (e_2 z).2, fun i _ => by rw [(e_2 z).1]⟩)
                  rw [hE] at q_42
                  obtain ⟨r_1, r_4, r_2, r_3⟩ := q_42
                  by_cases q_m : (ex_L fo s1 c1 tn (v0, n0, fs, fl, gs, gl, w0, g0, b0)).1 = -1
                  · rw [if_pos q_m] at r_1 r_4
                    rw [r_4] at hP hD
                    have hP : va_P G xk_cl [(mo, .inr (8, [.int th, .ref ms, .ref mk, .ref mv, .int (nI mm), .int (nI ml), .int (nI cnt), .ref mt, .int mp, .int mn, .int (nI mu), .ref ma, .int (nI b0), .int (nI u_b2_9), .int (nI v0), .int u_ob2_12, .ref m1, .ref m2, .ref m3, .ref m4, .int (nI k), .int (nI (pp + 1)), .ref mc])), (ms, .inl (cA 0, 720, .inl sa1)), (mk, .inl (cA 0, 18720, .inl u_kd2_44)), (mv, .inl (cA 0, 18720, .inl u_vl2_45)), (mt, .inl (cA 0, 300, .inl (tx_A tn))), (m1, .inl (cA 0, 2, .inl (tx_A u_pa2_13))), (m2, .inl (cA 0, 2, .inl (tx_A u_ps2_14))), (m3, .inl (cA 0, 2, .inl u_tk2_15)), (m4, .inl (cA 0, 2, .inl u_tv2_16))] H := hP
                    have hD : va_D A [(mo, .inr (8, [.int th, .ref ms, .ref mk, .ref mv, .int (nI mm), .int (nI ml), .int (nI cnt), .ref mt, .int mp, .int mn, .int (nI mu), .ref ma, .int (nI b0), .int (nI u_b2_9), .int (nI v0), .int u_ob2_12, .ref m1, .ref m2, .ref m3, .ref m4, .int (nI k), .int (nI (pp + 1)), .ref mc])), (ms, .inl (cA 0, 720, .inl sa1)), (mk, .inl (cA 0, 18720, .inl u_kd2_44)), (mv, .inl (cA 0, 18720, .inl u_vl2_45)), (mt, .inl (cA 0, 300, .inl (tx_A tn))), (m1, .inl (cA 0, 2, .inl (tx_A u_pa2_13))), (m2, .inl (cA 0, 2, .inl (tx_A u_ps2_14))), (m3, .inl (cA 0, 2, .inl u_tk2_15)), (m4, .inl (cA 0, 2, .inl u_tv2_16))] := hD
                    refine lx_top (z := nI 0) (r_1) ?_
                    refine lv_istore_n (lv' := [(2, .int (nI 0)), (0, .ref mo), (1, .int fo)]) hx hb xd_Mo_work_107 rfl hl (by decide) rfl (fun ls hl => ?_)
                    refine lv_iload_n hx hb xd_Mo_work_108 rfl (lv_at hl 0 rfl) ?_
                    refine lv_if_le (tgt := 128) hx hb xd_Mo_work_109 (by decide) (fun c_109_45 => ?_) (fun c_109_45 => absurd (by decide) c_109_45)
                    refine lv_aload_n hx hb xd_Mo_work_128 rfl (lv_at hl 1 rfl) ?_
                    refine lv_dup hx hb xd_Mo_work_129 rfl ?_
                    refine va_get (D := G) (ci := 8) (v := .int (nI k)) (C := xc_Mo) (T := xf_Mo) (N := 23) hx hb hts xw_Mo hown hK.1 hP 0 rfl rfl 20 (by decide) (hts _ xm_639) (fun _ h9 => h9) rfl xd_Mo_work_130 ?_
                    refine lv_iconst (v := nI 1) hx hb xd_Mo_work_133 (by decide) ?_
                    refine lx_iadd (z := nI (k + 1)) hx hb xd_Mo_work_134 (nI_add _ _) ?_
                    refine va_put (D := G) (ci := 8) (v := .int (nI (k + 1))) (ty := .int) (C := xc_Mo) (T := xf_Mo) (N := 23) hx hb hts xw_Mo xt_Mo xt_Mo_ok xn_Mo hown hK.1 hP hD hS 0 rfl rfl 20 (by decide) (hts _ xm_639) (fun _ h9 => h9) rfl (by decide +kernel) rfl rfl (Nat.le_of_ble_eq_true rfl) xd_Mo_work_135 (fun H locs hP hD hS => ?_)
                    have hP : va_P G xk_cl [(mo, .inr (8, [.int th, .ref ms, .ref mk, .ref mv, .int (nI mm), .int (nI ml), .int (nI cnt), .ref mt, .int mp, .int mn, .int (nI mu), .ref ma, .int (nI b0), .int (nI u_b2_9), .int (nI v0), .int u_ob2_12, .ref m1, .ref m2, .ref m3, .ref m4, .int (nI (k + 1)), .int (nI (pp + 1)), .ref mc])), (ms, .inl (cA 0, 720, .inl sa1)), (mk, .inl (cA 0, 18720, .inl u_kd2_44)), (mv, .inl (cA 0, 18720, .inl u_vl2_45)), (mt, .inl (cA 0, 300, .inl (tx_A tn))), (m1, .inl (cA 0, 2, .inl (tx_A u_pa2_13))), (m2, .inl (cA 0, 2, .inl (tx_A u_ps2_14))), (m3, .inl (cA 0, 2, .inl u_tk2_15)), (m4, .inl (cA 0, 2, .inl u_tv2_16))] H := hP
                    have hD : va_D A [(mo, .inr (8, [.int th, .ref ms, .ref mk, .ref mv, .int (nI mm), .int (nI ml), .int (nI cnt), .ref mt, .int mp, .int mn, .int (nI mu), .ref ma, .int (nI b0), .int (nI u_b2_9), .int (nI v0), .int u_ob2_12, .ref m1, .ref m2, .ref m3, .ref m4, .int (nI (k + 1)), .int (nI (pp + 1)), .ref mc])), (ms, .inl (cA 0, 720, .inl sa1)), (mk, .inl (cA 0, 18720, .inl u_kd2_44)), (mv, .inl (cA 0, 18720, .inl u_vl2_45)), (mt, .inl (cA 0, 300, .inl (tx_A tn))), (m1, .inl (cA 0, 2, .inl (tx_A u_pa2_13))), (m2, .inl (cA 0, 2, .inl (tx_A u_ps2_14))), (m3, .inl (cA 0, 2, .inl u_tk2_15)), (m4, .inl (cA 0, 2, .inl u_tv2_16))] := hD
                    refine lv_goto (tgt := 21) hx hb xd_Mo_work_138 (by decide) ?_
                    exact ih_lp f b0 (k + 1) (pp + 1) ((ex_L fo s1 c1 tn (v0, n0, fs, fl, gs, gl, w0, g0, b0)).2.1) ((ex_L fo s1 c1 tn (v0, n0, fs, fl, gs, gl, w0, g0, b0)).2.2) sa1 u_kd2_44 u_vl2_45 u_b2_9 (nI v0) u_ob2_12 u_pa2_13 u_ps2_14 u_tk2_15 u_tv2_16 hb5 (by omega) hwv2 hwz2 (by omega) (by rw [hT, tx_F_s (by rw [hsk]; exact q_a) (by rw [hsk]; exact hP0) rfl (by rw [q_m]; decide), if_pos q_m]) r_2 (bf_f hB1 r_3) hb6 (by omega) _ _ (hP.sub [0, 1, 2, 3, 4, 5, 6, 7, 8] rfl) (hD.sub [0, 1, 2, 3, 4, 5, 6, 7, 8] (by decide) rfl) hS ls (lv_sub hl [1, 2] rfl)
                  · rw [if_neg q_m] at r_1 r_4
                    rw [r_4] at hP hD
                    have hP : va_P G xk_cl [(mo, .inr (8, [.int th, .ref ms, .ref mk, .ref mv, .int (nI mm), .int (nI ml), .int (nI cnt), .ref mt, .int mp, .int mn, .int (nI mu), .ref ma, .int (nI b0), .int (nI u_b2_9), .int (nI v0), .int u_ob2_12, .ref m1, .ref m2, .ref m3, .ref m4, .int (nI k), .int (nI pp), .ref mc])), (ms, .inl (cA 0, 720, .inl sa1)), (mk, .inl (cA 0, 18720, .inl u_kd2_44)), (mv, .inl (cA 0, 18720, .inl u_vl2_45)), (mt, .inl (cA 0, 300, .inl (tx_A tn))), (m1, .inl (cA 0, 2, .inl (tx_A u_pa2_13))), (m2, .inl (cA 0, 2, .inl (tx_A u_ps2_14))), (m3, .inl (cA 0, 2, .inl u_tk2_15)), (m4, .inl (cA 0, 2, .inl u_tv2_16))] H := hP
                    have hD : va_D A [(mo, .inr (8, [.int th, .ref ms, .ref mk, .ref mv, .int (nI mm), .int (nI ml), .int (nI cnt), .ref mt, .int mp, .int mn, .int (nI mu), .ref ma, .int (nI b0), .int (nI u_b2_9), .int (nI v0), .int u_ob2_12, .ref m1, .ref m2, .ref m3, .ref m4, .int (nI k), .int (nI pp), .ref mc])), (ms, .inl (cA 0, 720, .inl sa1)), (mk, .inl (cA 0, 18720, .inl u_kd2_44)), (mv, .inl (cA 0, 18720, .inl u_vl2_45)), (mt, .inl (cA 0, 300, .inl (tx_A tn))), (m1, .inl (cA 0, 2, .inl (tx_A u_pa2_13))), (m2, .inl (cA 0, 2, .inl (tx_A u_ps2_14))), (m3, .inl (cA 0, 2, .inl u_tk2_15)), (m4, .inl (cA 0, 2, .inl u_tv2_16))] := hD
                    refine lx_top (z := (ex_L fo s1 c1 tn (v0, n0, fs, fl, gs, gl, w0, g0, b0)).1) (r_1) ?_
                    refine lv_istore_n (lv' := [(2, .int ((ex_L fo s1 c1 tn (v0, n0, fs, fl, gs, gl, w0, g0, b0)).1)), (0, .ref mo), (1, .int fo)]) hx hb xd_Mo_work_107 rfl hl (by decide) rfl (fun ls hl => ?_)
                    refine lv_iload_n hx hb xd_Mo_work_108 rfl (lv_at hl 0 rfl) ?_
                    refine lv_if_le (tgt := 128) hx hb xd_Mo_work_109 (by decide) (fun c_109_46 => ?_) (fun c_109_46 => ?_)
                    · refine lv_aload_n hx hb xd_Mo_work_128 rfl (lv_at hl 1 rfl) ?_
                      refine lv_dup hx hb xd_Mo_work_129 rfl ?_
                      refine va_get (D := G) (ci := 8) (v := .int (nI k)) (C := xc_Mo) (T := xf_Mo) (N := 23) hx hb hts xw_Mo hown hK.1 hP 0 rfl rfl 20 (by decide) (hts _ xm_639) (fun _ h9 => h9) rfl xd_Mo_work_130 ?_
                      refine lv_iconst (v := nI 1) hx hb xd_Mo_work_133 (by decide) ?_
                      refine lx_iadd (z := nI (k + 1)) hx hb xd_Mo_work_134 (nI_add _ _) ?_
                      refine va_put (D := G) (ci := 8) (v := .int (nI (k + 1))) (ty := .int) (C := xc_Mo) (T := xf_Mo) (N := 23) hx hb hts xw_Mo xt_Mo xt_Mo_ok xn_Mo hown hK.1 hP hD hS 0 rfl rfl 20 (by decide) (hts _ xm_639) (fun _ h9 => h9) rfl (by decide +kernel) rfl rfl (Nat.le_of_ble_eq_true rfl) xd_Mo_work_135 (fun H locs hP hD hS => ?_)
                      have hP : va_P G xk_cl [(mo, .inr (8, [.int th, .ref ms, .ref mk, .ref mv, .int (nI mm), .int (nI ml), .int (nI cnt), .ref mt, .int mp, .int mn, .int (nI mu), .ref ma, .int (nI b0), .int (nI u_b2_9), .int (nI v0), .int u_ob2_12, .ref m1, .ref m2, .ref m3, .ref m4, .int (nI (k + 1)), .int (nI pp), .ref mc])), (ms, .inl (cA 0, 720, .inl sa1)), (mk, .inl (cA 0, 18720, .inl u_kd2_44)), (mv, .inl (cA 0, 18720, .inl u_vl2_45)), (mt, .inl (cA 0, 300, .inl (tx_A tn))), (m1, .inl (cA 0, 2, .inl (tx_A u_pa2_13))), (m2, .inl (cA 0, 2, .inl (tx_A u_ps2_14))), (m3, .inl (cA 0, 2, .inl u_tk2_15)), (m4, .inl (cA 0, 2, .inl u_tv2_16))] H := hP
                      have hD : va_D A [(mo, .inr (8, [.int th, .ref ms, .ref mk, .ref mv, .int (nI mm), .int (nI ml), .int (nI cnt), .ref mt, .int mp, .int mn, .int (nI mu), .ref ma, .int (nI b0), .int (nI u_b2_9), .int (nI v0), .int u_ob2_12, .ref m1, .ref m2, .ref m3, .ref m4, .int (nI (k + 1)), .int (nI pp), .ref mc])), (ms, .inl (cA 0, 720, .inl sa1)), (mk, .inl (cA 0, 18720, .inl u_kd2_44)), (mv, .inl (cA 0, 18720, .inl u_vl2_45)), (mt, .inl (cA 0, 300, .inl (tx_A tn))), (m1, .inl (cA 0, 2, .inl (tx_A u_pa2_13))), (m2, .inl (cA 0, 2, .inl (tx_A u_ps2_14))), (m3, .inl (cA 0, 2, .inl u_tk2_15)), (m4, .inl (cA 0, 2, .inl u_tv2_16))] := hD
                      refine lv_goto (tgt := 21) hx hb xd_Mo_work_138 (by decide) ?_
                      exact ih_lp f b0 (k + 1) pp ((ex_L fo s1 c1 tn (v0, n0, fs, fl, gs, gl, w0, g0, b0)).2.1) ((ex_L fo s1 c1 tn (v0, n0, fs, fl, gs, gl, w0, g0, b0)).2.2) sa1 u_kd2_44 u_vl2_45 u_b2_9 (nI v0) u_ob2_12 u_pa2_13 u_ps2_14 u_tk2_15 u_tv2_16 hb5 (by omega) hwv2 hwz2 (by omega) (by rw [hT, tx_F_s (by rw [hsk]; exact q_a) (by rw [hsk]; exact hP0) rfl c_109_46, if_neg q_m]) r_2 (bf_f hB1 r_3) hb6 (by omega) _ _ (hP.sub [0, 1, 2, 3, 4, 5, 6, 7, 8] rfl) (hD.sub [0, 1, 2, 3, 4, 5, 6, 7, 8] (by decide) rfl) hS ls (lv_sub hl [1, 2] rfl)
                    · refine lv_aload_n hx hb xd_Mo_work_112 rfl (lv_at hl 1 rfl) ?_
                      refine lv_iconst (v := nI 1) hx hb xd_Mo_work_113 (by decide) ?_
                      refine lv_iconst (v := nI 0) hx hb xd_Mo_work_114 (by decide) ?_
                      have hPc := hP.sub (ws' := [(mo, .inr (8, [.int th, .ref ms, .ref mk, .ref mv, .int (nI mm), .int (nI ml), .int (nI cnt), .ref mt, .int mp, .int mn, .int (nI mu), .ref ma, .int (nI b0), .int (nI u_b2_9), .int (nI v0), .int u_ob2_12, .ref m1, .ref m2, .ref m3, .ref m4, .int (nI k), .int (nI pp), .ref mc])), (ms, .inl (cA 0, 720, .inl sa1)), (mk, .inl (cA 0, 18720, .inl u_kd2_44)), (mv, .inl (cA 0, 18720, .inl u_vl2_45))]) [0, 1, 2, 3] rfl
                      have hDc := hD.sub (ws' := [(mo, .inr (8, [.int th, .ref ms, .ref mk, .ref mv, .int (nI mm), .int (nI ml), .int (nI cnt), .ref mt, .int mp, .int mn, .int (nI mu), .ref ma, .int (nI b0), .int (nI u_b2_9), .int (nI v0), .int u_ob2_12, .ref m1, .ref m2, .ref m3, .ref m4, .int (nI k), .int (nI pp), .ref mc])), (ms, .inl (cA 0, 720, .inl sa1)), (mk, .inl (cA 0, 18720, .inl u_kd2_44)), (mv, .inl (cA 0, 18720, .inl u_vl2_45))]) [0, 1, 2, 3] (by decide) rfl
                      have hFc := va_free (wc := [(mo, .inr (8, [.int th, .ref ms, .ref mk, .ref mv, .int (nI mm), .int (nI ml), .int (nI cnt), .ref mt, .int mp, .int mn, .int (nI mu), .ref ma, .int (nI b0), .int (nI u_b2_9), .int (nI v0), .int u_ob2_12, .ref m1, .ref m2, .ref m3, .ref m4, .int (nI k), .int (nI pp), .ref mc])), (ms, .inl (cA 0, 720, .inl sa1)), (mk, .inl (cA 0, 18720, .inl u_kd2_44)), (mv, .inl (cA 0, 18720, .inl u_vl2_45))]) hD hS hA [0, 1, 2, 3] rfl
                      refine va_callv (va_runV (As := [.int (nI 1), .int (nI 0)]) (rest := []) ⟨hx, hb, hml, hown, hts⟩ (ct_Mo_copy l G cA H.size mo th ms mk mv mm ml cnt mt mp mn mu ma b0 (nI u_b2_9) (nI v0) u_ob2_12 m1 m2 m3 m4 k pp mc sa1 u_kd2_44 u_vl2_45 1 0 (by omega) (by omega) (by decide)) (cwV 2 hts (gi_v xm_704 xm_706 xs_Mo_copy xm_9 xm_707) rfl rfl rfl ⟨rfl, xh_Mo_copy⟩ ⟨Nat.le_of_ble_eq_true rfl, Nat.le_of_ble_eq_true rfl⟩) (pv_w hK hPc hDc (ci := 8) (q0 := 0) rfl rfl) rfl rfl hl.1 rfl (lv_room (Nat.le_of_ble_eq_true rfl)) xd_Mo_work_115 ⟨Nat.le_of_ble_eq_true rfl, Nat.le_of_ble_eq_true rfl⟩) hS (fun q _ h => hFc q h) hFc (fun u9 t9 H1 locs ht hvm q_49 hB hz1 hk1 hS => ?_)
                      obtain ⟨hP1, hD1⟩ := hB
                      rw [ht] at hP1
                      obtain ⟨hP, hD⟩ := va_join (wr := [(mt, .inl (cA 0, 300, .inl (tx_A tn))), (m1, .inl (cA 0, 2, .inl (tx_A u_pa2_13))), (m2, .inl (cA 0, 2, .inl (tx_A u_ps2_14))), (m3, .inl (cA 0, 2, .inl u_tk2_15)), (m4, .inl (cA 0, 2, .inl u_tv2_16))]) (w1 := [(mo, .inr (8, [.int th, .ref ms, .ref mk, .ref mv, .int (nI mm), .int (nI ml), .int (nI cnt), .ref mt, .int mp, .int mn, .int (nI mu), .ref ma, .int (nI b0), .int (nI u_b2_9), .int (nI v0), .int u_ob2_12, .ref m1, .ref m2, .ref m3, .ref m4, .int (nI k), .int (nI pp), .ref mc])), (ms, .inl (cA 0, 720, .inl (cp_A 40 1 0 sa1 40))), (mk, .inl (cA 0, 18720, .inl (cp_A 1040 1 0 u_kd2_44 1040))), (mv, .inl (cA 0, 18720, .inl (cp_A 1040 1 0 u_vl2_45 1040)))]) hP hD [0, 1, 2, 3] [4, 5, 6, 7, 8] rfl rfl (by decide) (by decide) hk1 hFc hP1 hD1
                      generalize H1 = H at hP hS ⊢
                      have hP : va_P G xk_cl [(mt, .inl (cA 0, 300, .inl (tx_A tn))), (m1, .inl (cA 0, 2, .inl (tx_A u_pa2_13))), (m2, .inl (cA 0, 2, .inl (tx_A u_ps2_14))), (m3, .inl (cA 0, 2, .inl u_tk2_15)), (m4, .inl (cA 0, 2, .inl u_tv2_16)), (mo, .inr (8, [.int th, .ref ms, .ref mk, .ref mv, .int (nI mm), .int (nI ml), .int (nI cnt), .ref mt, .int mp, .int mn, .int (nI mu), .ref ma, .int (nI b0), .int (nI u_b2_9), .int (nI v0), .int u_ob2_12, .ref m1, .ref m2, .ref m3, .ref m4, .int (nI k), .int (nI pp), .ref mc])), (ms, .inl (cA 0, 720, .inl (cp_A 40 1 0 sa1 40))), (mk, .inl (cA 0, 18720, .inl (cp_A 1040 1 0 u_kd2_44 1040))), (mv, .inl (cA 0, 18720, .inl (cp_A 1040 1 0 u_vl2_45 1040)))] H := hP
                      have hD : va_D A [(mt, .inl (cA 0, 300, .inl (tx_A tn))), (m1, .inl (cA 0, 2, .inl (tx_A u_pa2_13))), (m2, .inl (cA 0, 2, .inl (tx_A u_ps2_14))), (m3, .inl (cA 0, 2, .inl u_tk2_15)), (m4, .inl (cA 0, 2, .inl u_tv2_16)), (mo, .inr (8, [.int th, .ref ms, .ref mk, .ref mv, .int (nI mm), .int (nI ml), .int (nI cnt), .ref mt, .int mp, .int mn, .int (nI mu), .ref ma, .int (nI b0), .int (nI u_b2_9), .int (nI v0), .int u_ob2_12, .ref m1, .ref m2, .ref m3, .ref m4, .int (nI k), .int (nI pp), .ref mc])), (ms, .inl (cA 0, 720, .inl (cp_A 40 1 0 sa1 40))), (mk, .inl (cA 0, 18720, .inl (cp_A 1040 1 0 u_kd2_44 1040))), (mv, .inl (cA 0, 18720, .inl (cp_A 1040 1 0 u_vl2_45 1040)))] := hD
                      refine lv_bipush (v := nI 10) hx hb xd_Mo_work_118 (by decide) ?_
                      refine lv_aload_n hx hb xd_Mo_work_120 rfl (lv_at hl 1 rfl) ?_
                      refine va_get (D := G) (ci := 8) (v := .int (nI k)) (C := xc_Mo) (T := xf_Mo) (N := 23) hx hb hts xw_Mo hown hK.1 hP 5 rfl rfl 20 (by decide) (hts _ xm_639) (fun _ h9 => h9) rfl xd_Mo_work_121 ?_
                      refine lx_imul (z := nI (10 * k)) hx hb xd_Mo_work_124 (pk_mul _ _) ?_
                      refine lv_iload_n hx hb xd_Mo_work_125 rfl (lv_at hl 0 rfl) ?_
                      refine lx_iadd (z := (nI (10 * k)) + ((ex_L fo s1 c1 tn (v0, n0, fs, fl, gs, gl, w0, g0, b0)).1)) hx hb xd_Mo_work_126 (rfl) ?_
                      obtain ⟨e, he0, he, hy⟩ := er_g hrr c_109_46
                      have hP9 : va_P G xk_cl [(mo, .inr (8, [.int th, .ref ms, .ref mk, .ref mv, .int (nI mm), .int (nI ml), .int (nI cnt), .ref mt, .int mp, .int mn, .int (nI mu), .ref ma, .int (nI b0), .int (nI u_b2_9), .int (nI v0), .int u_ob2_12, .ref m1, .ref m2, .ref m3, .ref m4, .int (nI k), .int (nI pp), .ref mc])), (ms, .inl (cA 0, 720, .inl (cp_A 40 1 0 sa1 40))), (mk, .inl (cA 0, 18720, .inl (cp_A 1040 1 0 u_kd2_44 1040))), (mv, .inl (cA 0, 18720, .inl (cp_A 1040 1 0 u_vl2_45 1040))), (mt, .inl (cA 0, 300, .inl (tx_A tn))), (m1, .inl (cA 0, 2, .inl (tx_A u_pa2_13))), (m2, .inl (cA 0, 2, .inl (tx_A u_ps2_14))), (m3, .inl (cA 0, 2, .inl u_tk2_15)), (m4, .inl (cA 0, 2, .inl u_tv2_16))] _ := hP.sub [5, 6, 7, 8, 0, 1, 2, 3, 4] rfl
                      have hD9 : va_D A [(mo, .inr (8, [.int th, .ref ms, .ref mk, .ref mv, .int (nI mm), .int (nI ml), .int (nI cnt), .ref mt, .int mp, .int mn, .int (nI mu), .ref ma, .int (nI b0), .int (nI u_b2_9), .int (nI v0), .int u_ob2_12, .ref m1, .ref m2, .ref m3, .ref m4, .int (nI k), .int (nI pp), .ref mc])), (ms, .inl (cA 0, 720, .inl (cp_A 40 1 0 sa1 40))), (mk, .inl (cA 0, 18720, .inl (cp_A 1040 1 0 u_kd2_44 1040))), (mv, .inl (cA 0, 18720, .inl (cp_A 1040 1 0 u_vl2_45 1040))), (mt, .inl (cA 0, 300, .inl (tx_A tn))), (m1, .inl (cA 0, 2, .inl (tx_A u_pa2_13))), (m2, .inl (cA 0, 2, .inl (tx_A u_ps2_14))), (m3, .inl (cA 0, 2, .inl u_tk2_15)), (m4, .inl (cA 0, 2, .inl u_tv2_16))] := hD.sub [5, 6, 7, 8, 0, 1, 2, 3, 4] (by decide) rfl
                      exact W.iret (v := (nI (10 * k)) + ((ex_L fo s1 c1 tn (v0, n0, fs, fl, gs, gl, w0, g0, b0)).1)) hx hb hr (fun T9 ht hW => ⟨⟨_, (u_b2_9, b0, nI v0, u_ob2_12, u_pa2_13, u_ps2_14, u_tk2_15, u_tv2_16, cp_A 40 1 0 sa1 40, cp_A 1040 1 0 u_kd2_44 1040, cp_A 1040 1 0 u_vl2_45 1040, k, pp), rfl, ⟨hb6, wq_f (bf_f (bf_f hB1 r_3) (fr_c _ _ _ 1)) (e := 10 * k + e) (by omega) (by omega) (by rw [hy, nI_pl he]) (by rw [hT, tx_F_x (by rw [hsk]; exact q_a) (by rw [hsk]; exact hP0) rfl c_109_46, hy, nI_pl he]) (sn_b hR (bf_f hB1 r_3))⟩, by rw [ht]; exact hP9, hD9⟩, hS.F ht⟩) hS.2.2 xd_Mo_work_127
                · have q_v : v0 = 65 ∨ v0 = 82 ∨ v0 = 71 := Or.inr (Or.inr (nI_ge' (by have := hok.1; omega) (by decide) c_91_39))
                  have qo1 := qo q_v
                  rw [qo1] at hP hD
                  have hP : va_P G xk_cl [(ms, .inl (cA 0, 720, .inl sa1)), (mk, .inl (cA 0, 18720, .inl kd1)), (mv, .inl (cA 0, 18720, .inl vl1)), (mo, .inr (8, [.int th, .ref ms, .ref mk, .ref mv, .int (nI mm), .int (nI ml), .int (nI cnt), .ref mt, .int mp, .int mn, .int (nI mu), .ref ma, .int (nI b0), .int (nI u_b2_9), .int (nI v0), .int (nI n0), .ref m1, .ref m2, .ref m3, .ref m4, .int (nI k), .int (nI pp), .ref mc])), (mt, .inl (cA 0, 300, .inl (tx_A tn))), (m1, .inl (cA 0, 2, .inl (tx_A u_pa2_13))), (m2, .inl (cA 0, 2, .inl (tx_A u_ps2_14))), (m3, .inl (cA 0, 2, .inl u_tk2_15)), (m4, .inl (cA 0, 2, .inl u_tv2_16))] H := hP
                  have hD : va_D A [(ms, .inl (cA 0, 720, .inl sa1)), (mk, .inl (cA 0, 18720, .inl kd1)), (mv, .inl (cA 0, 18720, .inl vl1)), (mo, .inr (8, [.int th, .ref ms, .ref mk, .ref mv, .int (nI mm), .int (nI ml), .int (nI cnt), .ref mt, .int mp, .int mn, .int (nI mu), .ref ma, .int (nI b0), .int (nI u_b2_9), .int (nI v0), .int (nI n0), .ref m1, .ref m2, .ref m3, .ref m4, .int (nI k), .int (nI pp), .ref mc])), (mt, .inl (cA 0, 300, .inl (tx_A tn))), (m1, .inl (cA 0, 2, .inl (tx_A u_pa2_13))), (m2, .inl (cA 0, 2, .inl (tx_A u_ps2_14))), (m3, .inl (cA 0, 2, .inl u_tk2_15)), (m4, .inl (cA 0, 2, .inl u_tv2_16))] := hD
                  refine lv_aload_n hx hb xd_Mo_work_94 rfl (lv_at hl 0 rfl) ?_
                  refine lv_iload_n hx hb xd_Mo_work_95 rfl (lv_at hl 1 rfl) ?_
                  have hPc := hP.sub (ws' := [(mo, .inr (8, [.int th, .ref ms, .ref mk, .ref mv, .int (nI mm), .int (nI ml), .int (nI cnt), .ref mt, .int mp, .int mn, .int (nI mu), .ref ma, .int (nI b0), .int (nI u_b2_9), .int (nI v0), .int (nI n0), .ref m1, .ref m2, .ref m3, .ref m4, .int (nI k), .int (nI pp), .ref mc])), (ms, .inl (cA 0, 720, .inl sa1)), (mk, .inl (cA 0, 18720, .inl kd1)), (mv, .inl (cA 0, 18720, .inl vl1))]) [3, 0, 1, 2] rfl
                  have hDc := hD.sub (ws' := [(mo, .inr (8, [.int th, .ref ms, .ref mk, .ref mv, .int (nI mm), .int (nI ml), .int (nI cnt), .ref mt, .int mp, .int mn, .int (nI mu), .ref ma, .int (nI b0), .int (nI u_b2_9), .int (nI v0), .int (nI n0), .ref m1, .ref m2, .ref m3, .ref m4, .int (nI k), .int (nI pp), .ref mc])), (ms, .inl (cA 0, 720, .inl sa1)), (mk, .inl (cA 0, 18720, .inl kd1)), (mv, .inl (cA 0, 18720, .inl vl1))]) [3, 0, 1, 2] (by decide) rfl
                  have hFc := va_free (wc := [(mo, .inr (8, [.int th, .ref ms, .ref mk, .ref mv, .int (nI mm), .int (nI ml), .int (nI cnt), .ref mt, .int mp, .int mn, .int (nI mu), .ref ma, .int (nI b0), .int (nI u_b2_9), .int (nI v0), .int (nI n0), .ref m1, .ref m2, .ref m3, .ref m4, .int (nI k), .int (nI pp), .ref mc])), (ms, .inl (cA 0, 720, .inl sa1)), (mk, .inl (cA 0, 18720, .inl kd1)), (mv, .inl (cA 0, 18720, .inl vl1))]) hD hS hA [3, 0, 1, 2] rfl
                  refine va_calli (va_runV (As := [.int fo]) (rest := []) ⟨hx, hb, hml, hown, hts⟩ (ct_Mo_doObject l G cA H.size mo th ms mk mv mm ml cnt mt mp mn mu ma b0 m1 m2 m3 m4 k pp mc u_b2_9 tn hc (by omega) hv hb6 sa1 kd1 vl1 s1 c1 fo v0 n0 (pk_t tn fs) fl (pk_t tn gs) gl hR1 q_v hok.2.1) (cwV 1 hts (gi_v xm_735 xm_737 xs_Mo_doObject xm_9 xm_738) rfl rfl rfl ⟨rfl, xh_Mo_doObject⟩ ⟨Nat.le_of_ble_eq_true rfl, Nat.le_of_ble_eq_true rfl⟩) (pv_w hK hPc hDc (ci := 8) (q0 := 0) rfl rfl) rfl rfl hl.1 rfl (lv_room (Nat.le_of_ble_eq_true rfl)) xd_Mo_work_96 ⟨Nat.le_of_ble_eq_true rfl, Nat.le_of_ble_eq_true rfl⟩) hS (fun q _ h => hFc q h) hFc (fun r_50 u9 t9 H1 locs ht hvm q_51 hB hz1 hk1 hS => ?_)
                  obtain ⟨u_sa2_52, u_kd2_53, u_vl2_54⟩ := u9
                  try dsimp only at q_51 hB
                  obtain ⟨hP1, hD1⟩ := hB
                  rw [ht] at hP1
                  obtain ⟨hP, hD⟩ := va_join (wr := [(mt, .inl (cA 0, 300, .inl (tx_A tn))), (m1, .inl (cA 0, 2, .inl (tx_A u_pa2_13))), (m2, .inl (cA 0, 2, .inl (tx_A u_ps2_14))), (m3, .inl (cA 0, 2, .inl u_tk2_15)), (m4, .inl (cA 0, 2, .inl u_tv2_16))]) (w1 := [(mo, .inr (8, [.int th, .ref ms, .ref mk, .ref mv, .int (nI mm), .int (nI ml), .int (nI cnt), .ref mt, .int mp, .int mn, .int (nI mu), .ref ma, .int (nI b0), .int (nI u_b2_9), .int (nI v0), .int (nI n0), .ref m1, .ref m2, .ref m3, .ref m4, .int (nI k), .int (nI pp), .ref mc])), (ms, .inl (cA 0, 720, .inl u_sa2_52)), (mk, .inl (cA 0, 18720, .inl u_kd2_53)), (mv, .inl (cA 0, 18720, .inl u_vl2_54))]) hP hD [3, 0, 1, 2] [4, 5, 6, 7, 8] rfl rfl (by decide) (by decide) hk1 hFc hP1 hD1
                  generalize H1 = H at hP hS ⊢
                  have hP : va_P G xk_cl [(mt, .inl (cA 0, 300, .inl (tx_A tn))), (m1, .inl (cA 0, 2, .inl (tx_A u_pa2_13))), (m2, .inl (cA 0, 2, .inl (tx_A u_ps2_14))), (m3, .inl (cA 0, 2, .inl u_tk2_15)), (m4, .inl (cA 0, 2, .inl u_tv2_16)), (mo, .inr (8, [.int th, .ref ms, .ref mk, .ref mv, .int (nI mm), .int (nI ml), .int (nI cnt), .ref mt, .int mp, .int mn, .int (nI mu), .ref ma, .int (nI b0), .int (nI u_b2_9), .int (nI v0), .int (nI n0), .ref m1, .ref m2, .ref m3, .ref m4, .int (nI k), .int (nI pp), .ref mc])), (ms, .inl (cA 0, 720, .inl u_sa2_52)), (mk, .inl (cA 0, 18720, .inl u_kd2_53)), (mv, .inl (cA 0, 18720, .inl u_vl2_54))] H := hP
                  have hD : va_D A [(mt, .inl (cA 0, 300, .inl (tx_A tn))), (m1, .inl (cA 0, 2, .inl (tx_A u_pa2_13))), (m2, .inl (cA 0, 2, .inl (tx_A u_ps2_14))), (m3, .inl (cA 0, 2, .inl u_tk2_15)), (m4, .inl (cA 0, 2, .inl u_tv2_16)), (mo, .inr (8, [.int th, .ref ms, .ref mk, .ref mv, .int (nI mm), .int (nI ml), .int (nI cnt), .ref mt, .int mp, .int mn, .int (nI mu), .ref ma, .int (nI b0), .int (nI u_b2_9), .int (nI v0), .int (nI n0), .ref m1, .ref m2, .ref m3, .ref m4, .int (nI k), .int (nI pp), .ref mc])), (ms, .inl (cA 0, 720, .inl u_sa2_52)), (mk, .inl (cA 0, 18720, .inl u_kd2_53)), (mv, .inl (cA 0, 18720, .inl u_vl2_54))] := hD
                  have hE : ex_l fo s1 c1 v0 n0 (pk_t tn fs) fl (pk_t tn gs) gl (nI 0) (nI 0) = ex_L fo s1 c1 tn (v0, n0, fs, fl, gs, gl, w0, g0, b0) := by have := hsh.2.2.1 q_v; rw [this.1, this.2]; rfl
                  rw [hE] at q_51
                  obtain ⟨r_1, r_2, r_3⟩ := q_51
                  refine lx_top (z := (ex_L fo s1 c1 tn (v0, n0, fs, fl, gs, gl, w0, g0, b0)).1) (r_1) ?_
                  refine lv_goto (tgt := 107) hx hb xd_Mo_work_99 (by decide) ?_
                  refine lv_istore_n (lv' := [(2, .int ((ex_L fo s1 c1 tn (v0, n0, fs, fl, gs, gl, w0, g0, b0)).1)), (0, .ref mo), (1, .int fo)]) hx hb xd_Mo_work_107 rfl hl (by decide) rfl (fun ls hl => ?_)
                  refine lv_iload_n hx hb xd_Mo_work_108 rfl (lv_at hl 0 rfl) ?_
                  refine lv_if_le (tgt := 128) hx hb xd_Mo_work_109 (by decide) (fun c_109_54 => ?_) (fun c_109_54 => ?_)
                  · refine lv_aload_n hx hb xd_Mo_work_128 rfl (lv_at hl 1 rfl) ?_
                    refine lv_dup hx hb xd_Mo_work_129 rfl ?_
                    refine va_get (D := G) (ci := 8) (v := .int (nI k)) (C := xc_Mo) (T := xf_Mo) (N := 23) hx hb hts xw_Mo hown hK.1 hP 5 rfl rfl 20 (by decide) (hts _ xm_639) (fun _ h9 => h9) rfl xd_Mo_work_130 ?_
                    refine lv_iconst (v := nI 1) hx hb xd_Mo_work_133 (by decide) ?_
                    refine lx_iadd (z := nI (k + 1)) hx hb xd_Mo_work_134 (nI_add _ _) ?_
                    refine va_put (D := G) (ci := 8) (v := .int (nI (k + 1))) (ty := .int) (C := xc_Mo) (T := xf_Mo) (N := 23) hx hb hts xw_Mo xt_Mo xt_Mo_ok xn_Mo hown hK.1 hP hD hS 5 rfl rfl 20 (by decide) (hts _ xm_639) (fun _ h9 => h9) rfl (by decide +kernel) rfl rfl (Nat.le_of_ble_eq_true rfl) xd_Mo_work_135 (fun H locs hP hD hS => ?_)
                    have hP : va_P G xk_cl [(mt, .inl (cA 0, 300, .inl (tx_A tn))), (m1, .inl (cA 0, 2, .inl (tx_A u_pa2_13))), (m2, .inl (cA 0, 2, .inl (tx_A u_ps2_14))), (m3, .inl (cA 0, 2, .inl u_tk2_15)), (m4, .inl (cA 0, 2, .inl u_tv2_16)), (mo, .inr (8, [.int th, .ref ms, .ref mk, .ref mv, .int (nI mm), .int (nI ml), .int (nI cnt), .ref mt, .int mp, .int mn, .int (nI mu), .ref ma, .int (nI b0), .int (nI u_b2_9), .int (nI v0), .int (nI n0), .ref m1, .ref m2, .ref m3, .ref m4, .int (nI (k + 1)), .int (nI pp), .ref mc])), (ms, .inl (cA 0, 720, .inl u_sa2_52)), (mk, .inl (cA 0, 18720, .inl u_kd2_53)), (mv, .inl (cA 0, 18720, .inl u_vl2_54))] H := hP
                    have hD : va_D A [(mt, .inl (cA 0, 300, .inl (tx_A tn))), (m1, .inl (cA 0, 2, .inl (tx_A u_pa2_13))), (m2, .inl (cA 0, 2, .inl (tx_A u_ps2_14))), (m3, .inl (cA 0, 2, .inl u_tk2_15)), (m4, .inl (cA 0, 2, .inl u_tv2_16)), (mo, .inr (8, [.int th, .ref ms, .ref mk, .ref mv, .int (nI mm), .int (nI ml), .int (nI cnt), .ref mt, .int mp, .int mn, .int (nI mu), .ref ma, .int (nI b0), .int (nI u_b2_9), .int (nI v0), .int (nI n0), .ref m1, .ref m2, .ref m3, .ref m4, .int (nI (k + 1)), .int (nI pp), .ref mc])), (ms, .inl (cA 0, 720, .inl u_sa2_52)), (mk, .inl (cA 0, 18720, .inl u_kd2_53)), (mv, .inl (cA 0, 18720, .inl u_vl2_54))] := hD
                    refine lv_goto (tgt := 21) hx hb xd_Mo_work_138 (by decide) ?_
                    exact ih_lp f b0 (k + 1) pp ((ex_L fo s1 c1 tn (v0, n0, fs, fl, gs, gl, w0, g0, b0)).2.1) ((ex_L fo s1 c1 tn (v0, n0, fs, fl, gs, gl, w0, g0, b0)).2.2) u_sa2_52 u_kd2_53 u_vl2_54 u_b2_9 (nI v0) (nI n0) u_pa2_13 u_ps2_14 u_tk2_15 u_tv2_16 hb5 (by omega) hwv2 hwz2 (by omega) (by rw [hT, tx_F_s (by rw [hsk]; exact q_a) (by rw [hsk]; exact hP0) rfl c_109_54, if_neg (show ¬ (ex_L fo s1 c1 tn (v0, n0, fs, fl, gs, gl, w0, g0, b0)).1 = -1 from ex_l_n q_v)]) r_2 (bf_f hB1 r_3) hb6 (by omega) _ _ (hP.sub [5, 6, 7, 8, 0, 1, 2, 3, 4] rfl) (hD.sub [5, 6, 7, 8, 0, 1, 2, 3, 4] (by decide) rfl) hS ls (lv_sub hl [1, 2] rfl)
                  · refine lv_aload_n hx hb xd_Mo_work_112 rfl (lv_at hl 1 rfl) ?_
                    refine lv_iconst (v := nI 1) hx hb xd_Mo_work_113 (by decide) ?_
                    refine lv_iconst (v := nI 0) hx hb xd_Mo_work_114 (by decide) ?_
                    have hPc := hP.sub (ws' := [(mo, .inr (8, [.int th, .ref ms, .ref mk, .ref mv, .int (nI mm), .int (nI ml), .int (nI cnt), .ref mt, .int mp, .int mn, .int (nI mu), .ref ma, .int (nI b0), .int (nI u_b2_9), .int (nI v0), .int (nI n0), .ref m1, .ref m2, .ref m3, .ref m4, .int (nI k), .int (nI pp), .ref mc])), (ms, .inl (cA 0, 720, .inl u_sa2_52)), (mk, .inl (cA 0, 18720, .inl u_kd2_53)), (mv, .inl (cA 0, 18720, .inl u_vl2_54))]) [5, 6, 7, 8] rfl
                    have hDc := hD.sub (ws' := [(mo, .inr (8, [.int th, .ref ms, .ref mk, .ref mv, .int (nI mm), .int (nI ml), .int (nI cnt), .ref mt, .int mp, .int mn, .int (nI mu), .ref ma, .int (nI b0), .int (nI u_b2_9), .int (nI v0), .int (nI n0), .ref m1, .ref m2, .ref m3, .ref m4, .int (nI k), .int (nI pp), .ref mc])), (ms, .inl (cA 0, 720, .inl u_sa2_52)), (mk, .inl (cA 0, 18720, .inl u_kd2_53)), (mv, .inl (cA 0, 18720, .inl u_vl2_54))]) [5, 6, 7, 8] (by decide) rfl
                    have hFc := va_free (wc := [(mo, .inr (8, [.int th, .ref ms, .ref mk, .ref mv, .int (nI mm), .int (nI ml), .int (nI cnt), .ref mt, .int mp, .int mn, .int (nI mu), .ref ma, .int (nI b0), .int (nI u_b2_9), .int (nI v0), .int (nI n0), .ref m1, .ref m2, .ref m3, .ref m4, .int (nI k), .int (nI pp), .ref mc])), (ms, .inl (cA 0, 720, .inl u_sa2_52)), (mk, .inl (cA 0, 18720, .inl u_kd2_53)), (mv, .inl (cA 0, 18720, .inl u_vl2_54))]) hD hS hA [5, 6, 7, 8] rfl
                    refine va_callv (va_runV (As := [.int (nI 1), .int (nI 0)]) (rest := []) ⟨hx, hb, hml, hown, hts⟩ (ct_Mo_copy l G cA H.size mo th ms mk mv mm ml cnt mt mp mn mu ma b0 (nI u_b2_9) (nI v0) (nI n0) m1 m2 m3 m4 k pp mc u_sa2_52 u_kd2_53 u_vl2_54 1 0 (by omega) (by omega) (by decide)) (cwV 2 hts (gi_v xm_704 xm_706 xs_Mo_copy xm_9 xm_707) rfl rfl rfl ⟨rfl, xh_Mo_copy⟩ ⟨Nat.le_of_ble_eq_true rfl, Nat.le_of_ble_eq_true rfl⟩) (pv_w hK hPc hDc (ci := 8) (q0 := 0) rfl rfl) rfl rfl hl.1 rfl (lv_room (Nat.le_of_ble_eq_true rfl)) xd_Mo_work_115 ⟨Nat.le_of_ble_eq_true rfl, Nat.le_of_ble_eq_true rfl⟩) hS (fun q _ h => hFc q h) hFc (fun u9 t9 H1 locs ht hvm q_57 hB hz1 hk1 hS => ?_)
                    obtain ⟨hP1, hD1⟩ := hB
                    rw [ht] at hP1
                    obtain ⟨hP, hD⟩ := va_join (wr := [(mt, .inl (cA 0, 300, .inl (tx_A tn))), (m1, .inl (cA 0, 2, .inl (tx_A u_pa2_13))), (m2, .inl (cA 0, 2, .inl (tx_A u_ps2_14))), (m3, .inl (cA 0, 2, .inl u_tk2_15)), (m4, .inl (cA 0, 2, .inl u_tv2_16))]) (w1 := [(mo, .inr (8, [.int th, .ref ms, .ref mk, .ref mv, .int (nI mm), .int (nI ml), .int (nI cnt), .ref mt, .int mp, .int mn, .int (nI mu), .ref ma, .int (nI b0), .int (nI u_b2_9), .int (nI v0), .int (nI n0), .ref m1, .ref m2, .ref m3, .ref m4, .int (nI k), .int (nI pp), .ref mc])), (ms, .inl (cA 0, 720, .inl (cp_A 40 1 0 u_sa2_52 40))), (mk, .inl (cA 0, 18720, .inl (cp_A 1040 1 0 u_kd2_53 1040))), (mv, .inl (cA 0, 18720, .inl (cp_A 1040 1 0 u_vl2_54 1040)))]) hP hD [5, 6, 7, 8] [0, 1, 2, 3, 4] rfl rfl (by decide) (by decide) hk1 hFc hP1 hD1
                    generalize H1 = H at hP hS ⊢
                    have hP : va_P G xk_cl [(mt, .inl (cA 0, 300, .inl (tx_A tn))), (m1, .inl (cA 0, 2, .inl (tx_A u_pa2_13))), (m2, .inl (cA 0, 2, .inl (tx_A u_ps2_14))), (m3, .inl (cA 0, 2, .inl u_tk2_15)), (m4, .inl (cA 0, 2, .inl u_tv2_16)), (mo, .inr (8, [.int th, .ref ms, .ref mk, .ref mv, .int (nI mm), .int (nI ml), .int (nI cnt), .ref mt, .int mp, .int mn, .int (nI mu), .ref ma, .int (nI b0), .int (nI u_b2_9), .int (nI v0), .int (nI n0), .ref m1, .ref m2, .ref m3, .ref m4, .int (nI k), .int (nI pp), .ref mc])), (ms, .inl (cA 0, 720, .inl (cp_A 40 1 0 u_sa2_52 40))), (mk, .inl (cA 0, 18720, .inl (cp_A 1040 1 0 u_kd2_53 1040))), (mv, .inl (cA 0, 18720, .inl (cp_A 1040 1 0 u_vl2_54 1040)))] H := hP
                    have hD : va_D A [(mt, .inl (cA 0, 300, .inl (tx_A tn))), (m1, .inl (cA 0, 2, .inl (tx_A u_pa2_13))), (m2, .inl (cA 0, 2, .inl (tx_A u_ps2_14))), (m3, .inl (cA 0, 2, .inl u_tk2_15)), (m4, .inl (cA 0, 2, .inl u_tv2_16)), (mo, .inr (8, [.int th, .ref ms, .ref mk, .ref mv, .int (nI mm), .int (nI ml), .int (nI cnt), .ref mt, .int mp, .int mn, .int (nI mu), .ref ma, .int (nI b0), .int (nI u_b2_9), .int (nI v0), .int (nI n0), .ref m1, .ref m2, .ref m3, .ref m4, .int (nI k), .int (nI pp), .ref mc])), (ms, .inl (cA 0, 720, .inl (cp_A 40 1 0 u_sa2_52 40))), (mk, .inl (cA 0, 18720, .inl (cp_A 1040 1 0 u_kd2_53 1040))), (mv, .inl (cA 0, 18720, .inl (cp_A 1040 1 0 u_vl2_54 1040)))] := hD
                    refine lv_bipush (v := nI 10) hx hb xd_Mo_work_118 (by decide) ?_
                    refine lv_aload_n hx hb xd_Mo_work_120 rfl (lv_at hl 1 rfl) ?_
                    refine va_get (D := G) (ci := 8) (v := .int (nI k)) (C := xc_Mo) (T := xf_Mo) (N := 23) hx hb hts xw_Mo hown hK.1 hP 5 rfl rfl 20 (by decide) (hts _ xm_639) (fun _ h9 => h9) rfl xd_Mo_work_121 ?_
                    refine lx_imul (z := nI (10 * k)) hx hb xd_Mo_work_124 (pk_mul _ _) ?_
                    refine lv_iload_n hx hb xd_Mo_work_125 rfl (lv_at hl 0 rfl) ?_
                    refine lx_iadd (z := (nI (10 * k)) + ((ex_L fo s1 c1 tn (v0, n0, fs, fl, gs, gl, w0, g0, b0)).1)) hx hb xd_Mo_work_126 (rfl) ?_
                    obtain ⟨e, he0, he, hy⟩ := er_g hrr c_109_54
                    have hP9 : va_P G xk_cl [(mo, .inr (8, [.int th, .ref ms, .ref mk, .ref mv, .int (nI mm), .int (nI ml), .int (nI cnt), .ref mt, .int mp, .int mn, .int (nI mu), .ref ma, .int (nI b0), .int (nI u_b2_9), .int (nI v0), .int (nI n0), .ref m1, .ref m2, .ref m3, .ref m4, .int (nI k), .int (nI pp), .ref mc])), (ms, .inl (cA 0, 720, .inl (cp_A 40 1 0 u_sa2_52 40))), (mk, .inl (cA 0, 18720, .inl (cp_A 1040 1 0 u_kd2_53 1040))), (mv, .inl (cA 0, 18720, .inl (cp_A 1040 1 0 u_vl2_54 1040))), (mt, .inl (cA 0, 300, .inl (tx_A tn))), (m1, .inl (cA 0, 2, .inl (tx_A u_pa2_13))), (m2, .inl (cA 0, 2, .inl (tx_A u_ps2_14))), (m3, .inl (cA 0, 2, .inl u_tk2_15)), (m4, .inl (cA 0, 2, .inl u_tv2_16))] _ := hP.sub [5, 6, 7, 8, 0, 1, 2, 3, 4] rfl
                    have hD9 : va_D A [(mo, .inr (8, [.int th, .ref ms, .ref mk, .ref mv, .int (nI mm), .int (nI ml), .int (nI cnt), .ref mt, .int mp, .int mn, .int (nI mu), .ref ma, .int (nI b0), .int (nI u_b2_9), .int (nI v0), .int (nI n0), .ref m1, .ref m2, .ref m3, .ref m4, .int (nI k), .int (nI pp), .ref mc])), (ms, .inl (cA 0, 720, .inl (cp_A 40 1 0 u_sa2_52 40))), (mk, .inl (cA 0, 18720, .inl (cp_A 1040 1 0 u_kd2_53 1040))), (mv, .inl (cA 0, 18720, .inl (cp_A 1040 1 0 u_vl2_54 1040))), (mt, .inl (cA 0, 300, .inl (tx_A tn))), (m1, .inl (cA 0, 2, .inl (tx_A u_pa2_13))), (m2, .inl (cA 0, 2, .inl (tx_A u_ps2_14))), (m3, .inl (cA 0, 2, .inl u_tk2_15)), (m4, .inl (cA 0, 2, .inl u_tv2_16))] := hD.sub [5, 6, 7, 8, 0, 1, 2, 3, 4] (by decide) rfl
                    exact W.iret (v := (nI (10 * k)) + ((ex_L fo s1 c1 tn (v0, n0, fs, fl, gs, gl, w0, g0, b0)).1)) hx hb hr (fun T9 ht hW => ⟨⟨_, (u_b2_9, b0, nI v0, nI n0, u_pa2_13, u_ps2_14, u_tk2_15, u_tv2_16, cp_A 40 1 0 u_sa2_52 40, cp_A 1040 1 0 u_kd2_53 1040, cp_A 1040 1 0 u_vl2_54 1040, k, pp), rfl, ⟨hb6, wq_f (bf_f (bf_f hB1 r_3) (fr_c _ _ _ 1)) (e := 10 * k + e) (by omega) (by omega) (by rw [hy, nI_pl he]) (by rw [hT, tx_F_x (by rw [hsk]; exact q_a) (by rw [hsk]; exact hP0) rfl c_109_54, hy, nI_pl he]) (sn_b hR (bf_f hB1 r_3))⟩, by rw [ht]; exact hP9, hD9⟩, hS.F ht⟩) hS.2.2 xd_Mo_work_127
        · have q_a : ¬ a < cnt := fun z => c_51_5 (nI_lt z (by omega))
          refine lv_iconst (v := nI 0) hx hb xd_Mo_work_54 (by decide) ?_
          have hP9 : va_P G xk_cl [(mo, .inr (8, [.int th, .ref ms, .ref mk, .ref mv, .int (nI mm), .int (nI ml), .int (nI cnt), .ref mt, .int mp, .int mn, .int (nI mu), .ref ma, .int (nI a), .int (nI b), .int le, .int ob, .ref m1, .ref m2, .ref m3, .ref m4, .int (nI k), .int (nI pp), .ref mc])), (ms, .inl (cA 0, 720, .inl sa1)), (mk, .inl (cA 0, 18720, .inl kd1)), (mv, .inl (cA 0, 18720, .inl vl1)), (mt, .inl (cA 0, 300, .inl (tx_A tn))), (m1, .inl (cA 0, 2, .inl (tx_A pa))), (m2, .inl (cA 0, 2, .inl (tx_A ps))), (m3, .inl (cA 0, 2, .inl tk)), (m4, .inl (cA 0, 2, .inl tv))] _ := hP.sub [0, 1, 2, 3, 4, 5, 6, 7, 8] rfl
          have hD9 : va_D A [(mo, .inr (8, [.int th, .ref ms, .ref mk, .ref mv, .int (nI mm), .int (nI ml), .int (nI cnt), .ref mt, .int mp, .int mn, .int (nI mu), .ref ma, .int (nI a), .int (nI b), .int le, .int ob, .ref m1, .ref m2, .ref m3, .ref m4, .int (nI k), .int (nI pp), .ref mc])), (ms, .inl (cA 0, 720, .inl sa1)), (mk, .inl (cA 0, 18720, .inl kd1)), (mv, .inl (cA 0, 18720, .inl vl1)), (mt, .inl (cA 0, 300, .inl (tx_A tn))), (m1, .inl (cA 0, 2, .inl (tx_A pa))), (m2, .inl (cA 0, 2, .inl (tx_A ps))), (m3, .inl (cA 0, 2, .inl tk)), (m4, .inl (cA 0, 2, .inl tv))] := hD.sub [0, 1, 2, 3, 4, 5, 6, 7, 8] (by decide) rfl
          exact W.iret (v := nI 0) hx hb hr (fun T9 ht hW => ⟨⟨_, (b, a, le, ob, pa, ps, tk, tv, sa1, kd1, vl1, k, pp), rfl, ⟨hb1, wq_s hB1 (by rw [hT, tx_F_e (by rw [hsk]; exact q_a)]) hR1 hwz1 hw1⟩, by rw [ht]; exact hP9, hD9⟩, hS.F ht⟩) hS.2.2 xd_Mo_work_55
      · have q_s : tk_P tn cnt a 32 := pk_tk (by decide) hv c_27_4
        have q_a := q_s.1
        have q_32 := q_s.2
        refine lv_aload_n hx hb xd_Mo_work_30 rfl (lv_at hl 0 rfl) ?_
        refine lv_dup hx hb xd_Mo_work_31 rfl ?_
        refine va_get (D := G) (ci := 8) (v := .int (nI a)) (C := xc_Mo) (T := xf_Mo) (N := 23) hx hb hts xw_Mo hown hK.1 hP 0 rfl rfl 12 (by decide) (hts _ xm_631) (fun _ h9 => h9) rfl xd_Mo_work_32 ?_
        refine lv_iconst (v := nI 1) hx hb xd_Mo_work_35 (by decide) ?_
        refine lx_iadd (z := nI (a + 1)) hx hb xd_Mo_work_36 (nI_add _ _) ?_
        refine va_put (D := G) (ci := 8) (v := .int (nI (a + 1))) (ty := .int) (C := xc_Mo) (T := xf_Mo) (N := 23) hx hb hts xw_Mo xt_Mo xt_Mo_ok xn_Mo hown hK.1 hP hD hS 0 rfl rfl 12 (by decide) (hts _ xm_631) (fun _ h9 => h9) rfl (by decide +kernel) rfl rfl (Nat.le_of_ble_eq_true rfl) xd_Mo_work_37 (fun H locs hP hD hS => ?_)
        have hP : va_P G xk_cl [(mo, .inr (8, [.int th, .ref ms, .ref mk, .ref mv, .int (nI mm), .int (nI ml), .int (nI cnt), .ref mt, .int mp, .int mn, .int (nI mu), .ref ma, .int (nI (a + 1)), .int (nI b), .int le, .int ob, .ref m1, .ref m2, .ref m3, .ref m4, .int (nI k), .int (nI pp), .ref mc])), (ms, .inl (cA 0, 720, .inl sa1)), (mk, .inl (cA 0, 18720, .inl kd1)), (mv, .inl (cA 0, 18720, .inl vl1)), (mt, .inl (cA 0, 300, .inl (tx_A tn))), (m1, .inl (cA 0, 2, .inl (tx_A pa))), (m2, .inl (cA 0, 2, .inl (tx_A ps))), (m3, .inl (cA 0, 2, .inl tk)), (m4, .inl (cA 0, 2, .inl tv))] H := hP
        have hD : va_D A [(mo, .inr (8, [.int th, .ref ms, .ref mk, .ref mv, .int (nI mm), .int (nI ml), .int (nI cnt), .ref mt, .int mp, .int mn, .int (nI mu), .ref ma, .int (nI (a + 1)), .int (nI b), .int le, .int ob, .ref m1, .ref m2, .ref m3, .ref m4, .int (nI k), .int (nI pp), .ref mc])), (ms, .inl (cA 0, 720, .inl sa1)), (mk, .inl (cA 0, 18720, .inl kd1)), (mv, .inl (cA 0, 18720, .inl vl1)), (mt, .inl (cA 0, 300, .inl (tx_A tn))), (m1, .inl (cA 0, 2, .inl (tx_A pa))), (m2, .inl (cA 0, 2, .inl (tx_A ps))), (m3, .inl (cA 0, 2, .inl tk)), (m4, .inl (cA 0, 2, .inl tv))] := hD
        refine lv_goto (tgt := 21) hx hb xd_Mo_work_40 (by decide) ?_
        exact ih_lp (f + 1) (a + 1) k pp s1 c1 sa1 kd1 vl1 b le ob pa ps tk tv q_a (by omega) hw1 hwz1 (by omega) (by rw [hT]; exact tx_sk (sp_sk_t q_a q_32)) hR1 hB1 hb1 (by omega) _ _ (hP.sub [0, 1, 2, 3, 4, 5, 6, 7, 8] rfl) (hD.sub [0, 1, 2, 3, 4, 5, 6, 7, 8] (by decide) rfl) hS ls (lv_sub hl [0, 1] rfl)
  exact lp ((cnt - 0) + 1) (cnt + 1) 0 0 0 st ce (cp_A 40 0 1 sa 40) (cp_A 1040 0 1 kd 1040) (cp_A 1040 0 1 vl 1040) b le ob pa ps tk tv (by omega) (by omega) hO hZ (by omega) rfl (sn_c hR 1 (by decide)) (bf_c sa kd vl) hb9 (Nat.lt_succ_self _) _ _ (hP.sub [5, 6, 7, 8, 0, 1, 2, 3, 4] rfl) (hD.sub [5, 6, 7, 8, 0, 1, 2, 3, 4] (by decide) rfl) hS ls (lv_sub hl [0, 1] rfl)
