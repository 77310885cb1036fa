def bt (x : Int32) (i : Nat) : Bool := x.toBitVec.getLsbD i
theorem b_ext {x y : Int32} (h : ∀ i, i < 32 → bt x i = bt y i) : x = y := Int32.toBitVec_inj.mp (BitVec.eq_of_getLsbD_eq (fun i hi => h i hi))
theorem b_or (x y : Int32) (i : Nat) : bt (x ||| y) i = (bt x i || bt y i) := by unfold bt; rw [Int32.toBitVec_or, BitVec.getLsbD_or]
theorem b_and (x y : Int32) (i : Nat) : bt (x &&& y) i = (bt x i && bt y i) := by unfold bt; rw [Int32.toBitVec_and, BitVec.getLsbD_and]
theorem b_xor (x y : Int32) (i : Nat) : bt (x ^^^ y) i = (bt x i ^^ bt y i) := by unfold bt; rw [Int32.toBitVec_xor, BitVec.getLsbD_xor]
theorem b_big {x : Int32} {i : Nat} (h : 32 ≤ i) : bt x i = false := BitVec.getLsbD_of_ge _ _ h
theorem b_255 (i : Nat) : bt 255 i = decide (i < 8) := by
  rcases Nat.lt_or_ge i 32 with h | h
  · exact (by decide +kernel : ∀ i, i < 32 → bt 255 i = decide (i < 8)) i h
  · rw [b_big h, decide_eq_false (by omega)]
theorem b_65535 (i : Nat) : bt 65535 i = decide (i < 16) := by
  rcases Nat.lt_or_ge i 32 with h | h
  · exact (by decide +kernel : ∀ i, i < 32 → bt 65535 i = decide (i < 16)) i h
  · rw [b_big h, decide_eq_false (by omega)]
theorem b_m1 : ∀ i, i < 32 → bt (-1) i = true := by decide +kernel
theorem b_0 (i : Nat) : bt 0 i = false := BitVec.getLsbD_zero
theorem s_l : ∀ n, n < 32 → ((nI n &&& 31).toBitVec.smod 32).toNat = n := by decide +kernel
theorem s_u : ∀ n, n < 32 → (((nI n).toUInt32 &&& Int32.toUInt32 31).toBitVec % 32).toNat = n := by decide +kernel
theorem b_shl (n : Nat) (hn : n < 32) (x : Int32) {i : Nat} (hi : i < 32) : bt (x <<< (nI n &&& 31)) i = (decide (n ≤ i) && bt x (i - n)) := by
  unfold bt
  rw [Int32.toBitVec_shiftLeft]
  show (x.toBitVec <<< ((nI n &&& 31).toBitVec.smod 32).toNat).getLsbD i = _
  rw [s_l n hn, BitVec.getLsbD_shiftLeft]
  rcases Nat.lt_or_ge i n with h | h
  · simp [h, Nat.not_le.mpr h]
  · simp [hi, h, Nat.not_lt.mpr h]
theorem b_ushr (n : Nat) (hn : n < 32) (x : Int32) (i : Nat) : bt ((x.toUInt32 >>> ((nI n).toUInt32 &&& Int32.toUInt32 31)).toInt32) i = bt x (n + i) := by
  show (x.toUInt32 >>> ((nI n).toUInt32 &&& Int32.toUInt32 31)).toBitVec.getLsbD i = x.toUInt32.toBitVec.getLsbD (n + i)
  rw [UInt32.toBitVec_shiftRight]
  show (x.toUInt32.toBitVec >>> (((nI n).toUInt32 &&& Int32.toUInt32 31).toBitVec % 32).toNat).getLsbD i = _
  rw [s_u n hn, BitVec.getLsbD_ushiftRight]
theorem b_sshr (n : Nat) (hn : n < 32) (x : Int32) {i : Nat} (hi : i < 32) : bt (x >>> (nI n &&& 31)) i = if n + i < 32 then bt x (n + i) else bt x 31 := by
  unfold bt
  rw [Int32.toBitVec_shiftRight]
  show (x.toBitVec.sshiftRight ((nI n &&& 31).toBitVec.smod 32).toNat).getLsbD i = _
  rw [s_l n hn, BitVec.getLsbD_sshiftRight, BitVec.msb_eq_getLsbD_last]
  simp [hi]
theorem bt_C {k : Nat} (x : Int32) {i : Nat} (hi : i < 32) : bt (en_C (nI k) x) i = ((decide (2 ≤ i) && bt x (i - 2)) || bt (nI k) i) := by unfold en_C; rw [b_or, b_shl 2 (by decide) x hi]
theorem bt_k4 : ∀ k, k < 4 → ∀ i, i < 32 → 2 ≤ i → bt (nI k) i = false := by decide +kernel
theorem bt_k3 : ∀ i, i < 32 → bt (nI 3) i = decide (i < 2) := by decide +kernel
theorem en_KC {k : Nat} (hk : k < 4) (x : Int32) : en_K (en_C (nI k) x) = nI k := by
  refine b_ext fun i hi => ?_
  unfold en_K
  rw [b_and, bt_C x hi, bt_k3 i hi]
  by_cases h : i < 2
  · rw [decide_eq_true h, decide_eq_false (by omega : ¬ 2 ≤ i)]; simp
  · rw [decide_eq_false h, bt_k4 k hk i hi (by omega)]; simp
theorem en_VC {k : Nat} (hk : k < 4) {x : Int32} (h1 : bt x 29 = bt x 31) (h2 : bt x 30 = bt x 31) : en_V (en_C (nI k) x) = x := by
  refine b_ext fun i hi => ?_
  unfold en_V
  rw [b_sshr 2 (by decide) _ hi]
  by_cases h : 2 + i < 32
  · rw [if_pos h, bt_C x h, bt_k4 k hk _ h (by omega), decide_eq_true (by omega : 2 ≤ 2 + i), show 2 + i - 2 = i by omega]; simp
  · rw [if_neg h, bt_C x (by decide), bt_k4 k hk _ (by decide) (by decide)]
    have e : i = 30 ∨ i = 31 := by omega
    rcases e with rfl | rfl
    · simp [h1, h2]
    · simp [h1]
theorem en_CKV (c : Int32) : en_C (en_K c) (en_V c) = c := by
  refine b_ext fun i hi => ?_
  unfold en_C en_K en_V
  rw [b_or, b_shl 2 (by decide) _ hi, b_and, bt_k3 i hi]
  by_cases h : 2 ≤ i
  · rw [b_sshr 2 (by decide) _ (by omega), if_pos (by omega), decide_eq_true h, decide_eq_false (by omega : ¬ i < 2), show 2 + (i - 2) = i by omega]; simp
  · rw [decide_eq_false h, decide_eq_true (by omega : i < 2)]; simp
theorem en_nz1 (x : Int32) : ¬ en_C (nI 1) x = 0 := fun e => by
  have h := en_KC (k := 1) (by decide) x
  rw [e] at h
  exact absurd h (by decide)
theorem en_nz2 (x : Int32) : ¬ en_C (nI 2) x = 0 := fun e => by
  have h := en_KC (k := 2) (by decide) x
  rw [e] at h
  exact absurd h (by decide)
theorem bt_nI {n i : Nat} (hi : i < 32) : bt (nI n) i = n.testBit i := by
  show (BitVec.ofNat 32 n).getLsbD i = _
  rw [BitVec.getLsbD_ofNat]; simp [hi]
theorem bp_pos {n : Nat} (h : n < 536870912) {i : Nat} (h1 : 29 ≤ i) (h2 : i < 32) : bt (nI n) i = false := by
  rw [bt_nI h2]
  exact Nat.testBit_lt_two_pow (Nat.lt_of_lt_of_le (show n < 2 ^ 29 from h) (Nat.pow_le_pow_right (by decide) h1))
theorem bp_neg {n : Nat} (h0 : 0 < n) (h : n < 536870912) {i : Nat} (h1 : 29 ≤ i) (h2 : i < 32) : bt (-nI n) i = true := by
  show (-(nI n)).toBitVec.getLsbD i = true
  rw [Int32.toBitVec_neg]
  show (-(BitVec.ofNat 32 n)).getLsbD i = true
  rw [BitVec.getLsbD, BitVec.toNat_neg, BitVec.toNat_ofNat, Nat.mod_eq_of_lt (show n < 2 ^ 32 by omega), Nat.mod_eq_of_lt (by omega)]
  obtain ⟨k, rfl⟩ : ∃ k, n = k + 1 := ⟨n - 1, by omega⟩
  rw [Nat.testBit_two_pow_sub_succ (by omega)]
  rw [Nat.testBit_lt_two_pow (Nat.lt_of_lt_of_le (show k < 2 ^ 29 by omega) (Nat.pow_le_pow_right (by decide) h1))]
  simp [h2]
theorem en_Vp {k n : Nat} (hk : k < 4) (h : n < 536870912) : en_V (en_C (nI k) (nI n)) = nI n := en_VC hk (by rw [bp_pos h (by decide) (by decide), bp_pos h (by decide) (by decide)]) (by rw [bp_pos h (by decide) (by decide), bp_pos h (by decide) (by decide)])
theorem en_Vn {k n : Nat} (hk : k < 4) (h : n < 536870912) : en_V (en_C (nI k) (-nI n)) = -nI n := by
  by_cases h0 : n = 0
  · rw [h0]; exact en_Vp (n := 0) hk (by decide)
  · exact en_VC hk (by rw [bp_neg (by omega) h (by decide) (by decide), bp_neg (by omega) h (by decide) (by decide)]) (by rw [bp_neg (by omega) h (by decide) (by decide), bp_neg (by omega) h (by decide) (by decide)])
theorem pk_tk {tn : Nat → Nat} {cnt a c : Nat} (hc : c < 128) (hv : ∀ j, tn j < 128) (h : sp_pk tn cnt a = nI c) : tk_P tn cnt a c := by
  by_cases q : a < cnt
  · rw [sp_pk_t q] at h
    exact ⟨q, nI_ge' (by have := hv a; omega) (by omega) h⟩
  · rw [sp_pk_f q] at h
    exact absurd h.symm (nI_nm (by omega))
theorem pk_nt {tn : Nat → Nat} {cnt a c : Nat} (h : ¬ sp_pk tn cnt a = nI c) : ¬ tk_P tn cnt a c := fun z => h (by rw [sp_pk_t z.1, z.2])
def vl_Q (b : Nat) (tn : Nat → Nat) (cnt at_ : Nat) (tk tv : Nat → Int32) (w b2 a2 : Nat) (tk2 tv2 : Nat → Int32) : Prop :=
  b2 ≤ 1 ∧ a2 ≤ cnt ∧ (∀ j, ¬ j = w → tk2 j = tk j ∧ tv2 j = tv j) ∧ (b2 = 0 ↔ (pe_P b tn cnt at_ ∧ ¬ cl_R tn cnt (at_ + 1) = 0)) ∧
  (b2 = 0 → a2 = cl_A tn cnt (at_ + 1) ∧ tk2 w = en_K (cl_R tn cnt (at_ + 1)) ∧ tv2 w = en_V (cl_R tn cnt (at_ + 1)))
theorem vl_bad {b : Nat} {tn : Nat → Nat} {cnt at_ : Nat} {tk tv : Nat → Int32} {w : Nat} {x y : Int32} (q : ¬ pe_P b tn cnt at_) (hac : at_ ≤ cnt) : vl_Q b tn cnt at_ tk tv w 1 at_ (upd tk w x) (upd tv w y) :=
  ⟨Nat.le_refl _, hac, fun j hj => ⟨pk_un hj, pk_un hj⟩, ⟨fun z => absurd z (by decide), fun z => absurd z.1 q⟩, fun z => absurd z (by decide)⟩
theorem vl_ok {b : Nat} {tn : Nat → Nat} {cnt at_ : Nat} {tk tv : Nat → Int32} {w a n k : Nat} {v : Int32} (q : pe_P b tn cnt at_) (hk : k = 1 ∨ k = 2) (hR : cl_R tn cnt (at_ + 1) = if n = 0 then nI 0 else en_C (nI k) v) (hA : cl_A tn cnt (at_ + 1) = a + n) (hs : en_V (en_C (nI k) v) = v) (hc : a + n ≤ cnt) :
    vl_Q b tn cnt at_ tk tv w (nu_B 0 n) (a + n) (upd tk w (nI k)) (upd tv w v) := by
  have h4 : k < 4 := by omega
  by_cases hn : n = 0
  · rw [if_pos hn] at hR
    have e : nu_B 0 n = 1 := if_neg (fun z => z.2 hn)
    exact ⟨by rw [e]; decide, hc, fun j hj => ⟨pk_un hj, pk_un hj⟩, ⟨fun z => absurd (e.symm.trans z) (by decide), fun z => absurd hR z.2⟩, fun z => absurd (e.symm.trans z) (by decide)⟩
  · rw [if_neg hn] at hR
    have e : nu_B 0 n = 0 := if_pos ⟨rfl, hn⟩
    have nz : ¬ cl_R tn cnt (at_ + 1) = 0 := by
      rw [hR]
      rcases hk with rfl | rfl
      · exact en_nz1 _
      · exact en_nz2 _
    exact ⟨by rw [e]; decide, hc, fun j hj => ⟨pk_un hj, pk_un hj⟩, ⟨fun _ => ⟨q, nz⟩, fun _ => e⟩, fun _ => ⟨hA.symm, by rw [hR, en_KC h4, pk_us], by rw [hR, hs, pk_us]⟩⟩
theorem dg_v2 (tn : Nat → Nat) (a cnt : Nat) : dg_v tn a (dg_n tn cnt a 2) < 536870912 := Nat.lt_of_lt_of_le (dg_v_9 tn a cnt 2) (by decide)
theorem dg_v5 (tn : Nat → Nat) (a cnt : Nat) : dg_v tn a (dg_n tn cnt a 5) < 536870912 := Nat.lt_of_lt_of_le (dg_v_9 tn a cnt 5) (by decide)
set_option maxHeartbeats 4000000 in
set_option maxRecDepth 100000 in
theorem ct_Mo_value_0 (l : Launch) (G : va_G) (cA : Nat → ClassId) (sz : Nat) (mo : Nat) (th : Int32) (ms : Nat) (mk : Nat) (mv : Nat) (mm : Nat) (ml : Nat) (cnt : Nat) (mt : Nat) (mp : Int32) (mn : Int32) (mu : Nat) (ma : Nat) (at_ : Nat) (le : Int32) (ob : Int32) (m1 : Nat) (m2 : Nat) (m3 : Nat) (m4 : Nat) (rn : Nat) (pw : Nat) (mc : Nat) (b : Nat) (tn : Nat → Nat) (hc : cnt ≤ 300) (ha : at_ ≤ 301) (hv : ∀ j, tn j < 128) (hb9 : b ≤ 1) (tk : Nat → Int32) (tv : Nat → Int32) (w : Nat) (hw : w < 2) (hac : at_ ≤ cnt) : Met l xy_Mo_value_0 (.code xy_Mo_value_0 xb_Mo_value_0 5 none :: tw_W) ({ frames := 2, cells := 0, slots := 0, locals := 43 }) (pc_w G cA [(mo, .inr (8, [.int th, .ref ms, .ref mk, .ref mv, .int (nI mm), .int (nI ml), .int (nI cnt), .ref mt, .int mp, .int mn, .int (nI mu), .ref ma, .int (nI at_), .int (nI b), .int le, .int ob, .ref m1, .ref m2, .ref m3, .ref m4, .int (nI rn), .int (nI pw), .ref mc])), (mt, .inl (cA 0, 300, .inl (tx_A tn))), (m3, .inl (cA 0, 2, .inl tk)), (m4, .inl (cA 0, 2, .inl tv))] sz [.ref mo, .int (nI w)]) (va_Qv (fun u9 : Nat × Nat × (Nat → Int32) × (Nat → Int32) => match u9 with | (b2, a2, tk2, tv2) => vl_Q b tn cnt at_ tk tv w b2 a2 tk2 tv2) (fun u9 T9 => match u9 with | (b2, a2, tk2, tv2) => at_w G (va_A [(mo, .inr (8, [.int th, .ref ms, .ref mk, .ref mv, .int (nI mm), .int (nI ml), .int (nI cnt), .ref mt, .int mp, .int mn, .int (nI mu), .ref ma, .int (nI at_), .int (nI b), .int le, .int ob, .ref m1, .ref m2, .ref m3, .ref m4, .int (nI rn), .int (nI pw), .ref mc])), (mt, .inl (cA 0, 300, .inl (tx_A tn))), (m3, .inl (cA 0, 2, .inl tk)), (m4, .inl (cA 0, 2, .inl tv))] sz) [(mo, .inr (8, [.int th, .ref ms, .ref mk, .ref mv, .int (nI mm), .int (nI ml), .int (nI cnt), .ref mt, .int mp, .int mn, .int (nI mu), .ref ma, .int (nI a2), .int (nI b2), .int le, .int ob, .ref m1, .ref m2, .ref m3, .ref m4, .int (nI rn), .int (nI pw), .ref mc])), (mt, .inl (cA 0, 300, .inl (tx_A tn))), (m3, .inl (cA 0, 2, .inl tk2)), (m4, .inl (cA 0, 2, .inl tv2))] T9) (va_A [(mo, .inr (8, [.int th, .ref ms, .ref mk, .ref mv, .int (nI mm), .int (nI ml), .int (nI cnt), .ref mt, .int mp, .int mn, .int (nI mu), .ref ma, .int (nI at_), .int (nI b), .int le, .int ob, .ref m1, .ref m2, .ref m3, .ref m4, .int (nI rn), .int (nI pw), .ref mc])), (mt, .inl (cA 0, 300, .inl (tx_A tn))), (m3, .inl (cA 0, 2, .inl tk)), (m4, .inl (cA 0, 2, .inl tv))] sz)) 0 0 (va_A [(mo, .inr (8, [.int th, .ref ms, .ref mk, .ref mv, .int (nI mm), .int (nI ml), .int (nI cnt), .ref mt, .int mp, .int mn, .int (nI mu), .ref ma, .int (nI at_), .int (nI b), .int le, .int ob, .ref m1, .ref m2, .ref m3, .ref m4, .int (nI rn), .int (nI pw), .ref mc])), (mt, .inl (cA 0, 300, .inl (tx_A tn))), (m3, .inl (cA 0, 2, .inl tk)), (m4, .inl (cA 0, 2, .inl tv))] sz) := by
  refine Met.ofW (cc := xb_Mo_value_0) (maxL := 5) (ret := none) (by decide) rfl ?_
  intro p e s m args below meth c s₁ B hml hv
  obtain ⟨rfl, hsz, hK, hP, hD0⟩ := hv
  have hx := B.exec
  have hb := B.bytes
  have hr := B.returns
  have hts0 := atoms_spec (ws := .code xy_Mo_value_0 xb_Mo_value_0 5 none :: tw_W) B.pre
  have hts : ∀ w9 ∈ tw_W, w9.before [.ref mo, .int (nI w)].toArray s = true := fun w9 h9 => hts0 w9 (List.mem_cons_of_mem _ h9)
  have hown : s.vm.findClass xc_Mo = some m.cls := findClass_of_methodNamed B.named
  have hlocks := B.notSynchronized
  subst hsz
  have hD := hD0.self (sz := s.heap.size)
  generalize hAe : va_A [(mo, .inr (8, [.int th, .ref ms, .ref mk, .ref mv, .int (nI mm), .int (nI ml), .int (nI cnt), .ref mt, .int mp, .int mn, .int (nI mu), .ref ma, .int (nI at_), .int (nI b), .int le, .int ob, .ref m1, .ref m2, .ref m3, .ref m4, .int (nI rn), .int (nI pw), .ref mc])), (mt, .inl (cA 0, 300, .inl (tx_A tn))), (m3, .inl (cA 0, 2, .inl tk)), (m4, .inl (cA 0, 2, .inl tv))] s.heap.size = A at hD ⊢
  have hA : ∀ q : Nat, s.heap.size ≤ q → A q := fun q h => by rw [← hAe]; exact Or.inr h
  have hS : va_S A s.heap s.heap [] := va_S.rf
  have hP : va_P G xk_cl [(mo, .inr (8, [.int th, .ref ms, .ref mk, .ref mv, .int (nI mm), .int (nI ml), .int (nI cnt), .ref mt, .int mp, .int mn, .int (nI mu), .ref ma, .int (nI at_), .int (nI b), .int le, .int ob, .ref m1, .ref m2, .ref m3, .ref m4, .int (nI rn), .int (nI pw), .ref mc])), (mt, .inl (cA 0, 300, .inl (tx_A tn))), (m3, .inl (cA 0, 2, .inl tk)), (m4, .inl (cA 0, 2, .inl tv))] s.heap := hP
  have hl := lv_entry ([.ref mo, .int (nI w)]) (n := 5) (Nat.le_of_ble_eq_true rfl)
  rw [lg_entry_eq]
  generalize (lg_sl ([.ref mo, .int (nI w)]) ++ List.replicate (5 - (lg_sl ([.ref mo, .int (nI w)])).length) Slot.unset).toArray = ls at hl ⊢
  have hl : lv_has ls 5 [(0, .ref mo), (1, .int (nI w))] := hl
  refine lv_aload_n hx hb xd_Mo_value_0_0 rfl (lv_at hl 0 rfl) ?_
  refine lv_bipush (v := nI 32) hx hb xd_Mo_value_0_1 (by decide) ?_
  have hPc := hP.sub (ws' := [(mo, .inr (8, [.int th, .ref ms, .ref mk, .ref mv, .int (nI mm), .int (nI ml), .int (nI cnt), .ref mt, .int mp, .int mn, .int (nI mu), .ref ma, .int (nI at_), .int (nI b), .int le, .int ob, .ref m1, .ref m2, .ref m3, .ref m4, .int (nI rn), .int (nI pw), .ref mc])), (mt, .inl (cA 0, 300, .inl (tx_A tn)))]) [0, 1] rfl
  have hDc := hD.sub (ws' := [(mo, .inr (8, [.int th, .ref ms, .ref mk, .ref mv, .int (nI mm), .int (nI ml), .int (nI cnt), .ref mt, .int mp, .int mn, .int (nI mu), .ref ma, .int (nI at_), .int (nI b), .int le, .int ob, .ref m1, .ref m2, .ref m3, .ref m4, .int (nI rn), .int (nI pw), .ref mc])), (mt, .inl (cA 0, 300, .inl (tx_A tn)))]) [0, 1] (by decide) rfl
  have hFc := va_free (wc := [(mo, .inr (8, [.int th, .ref ms, .ref mk, .ref mv, .int (nI mm), .int (nI ml), .int (nI cnt), .ref mt, .int mp, .int mn, .int (nI mu), .ref ma, .int (nI at_), .int (nI b), .int le, .int ob, .ref m1, .ref m2, .ref m3, .ref m4, .int (nI rn), .int (nI pw), .ref mc])), (mt, .inl (cA 0, 300, .inl (tx_A tn)))]) hD hS hA [0, 1] rfl
  refine va_callv (va_runV (As := [.int (nI 32)]) (rest := []) ⟨hx, hb, hml, hown, hts⟩ (ct_Mo_eat l G cA s.heap.size mo th ms mk mv mm ml cnt mt mp mn mu ma at_ le ob m1 m2 m3 m4 rn pw mc b tn (by omega) (by omega) (by omega) (by omega) 32 (by omega)) (cwV 1 hts (gi_v xm_716 xm_718 xs_Mo_eat xm_9 xm_719) rfl rfl rfl ⟨rfl, xh_Mo_eat⟩ ⟨Nat.le_of_ble_eq_true rfl, Nat.le_of_ble_eq_true rfl⟩) (pv_w hK hPc hDc (ci := 8) (q0 := 0) rfl rfl) rfl rfl hl.1 rfl (lv_room (Nat.le_of_ble_eq_true rfl)) xd_Mo_value_0_3 ⟨Nat.le_of_ble_eq_true rfl, Nat.le_of_ble_eq_true rfl⟩) hS (fun q _ h => hFc q h) hFc (fun u9 t9 H1 locs ht hvm q_2 hB hz1 hk1 hS => ?_)
  obtain ⟨hP1, hD1⟩ := hB
  rw [ht] at hP1
  obtain ⟨hP, hD⟩ := va_join (wr := [(m3, .inl (cA 0, 2, .inl tk)), (m4, .inl (cA 0, 2, .inl tv))]) (w1 := [(mo, .inr (8, [.int th, .ref ms, .ref mk, .ref mv, .int (nI mm), .int (nI ml), .int (nI cnt), .ref mt, .int mp, .int mn, .int (nI mu), .ref ma, .int (nI (ea_A b tn cnt at_ 32)), .int (nI (ea_B b tn cnt at_ 32)), .int le, .int ob, .ref m1, .ref m2, .ref m3, .ref m4, .int (nI rn), .int (nI pw), .ref mc])), (mt, .inl (cA 0, 300, .inl (tx_A tn)))]) hP hD [0, 1] [2, 3] rfl rfl (by decide) (by decide) hk1 hFc hP1 hD1
  generalize H1 = H at hP hS ⊢
  have hP : va_P G xk_cl [(m3, .inl (cA 0, 2, .inl tk)), (m4, .inl (cA 0, 2, .inl tv)), (mo, .inr (8, [.int th, .ref ms, .ref mk, .ref mv, .int (nI mm), .int (nI ml), .int (nI cnt), .ref mt, .int mp, .int mn, .int (nI mu), .ref ma, .int (nI (ea_A b tn cnt at_ 32)), .int (nI (ea_B b tn cnt at_ 32)), .int le, .int ob, .ref m1, .ref m2, .ref m3, .ref m4, .int (nI rn), .int (nI pw), .ref mc])), (mt, .inl (cA 0, 300, .inl (tx_A tn)))] H := hP
  have hD : va_D A [(m3, .inl (cA 0, 2, .inl tk)), (m4, .inl (cA 0, 2, .inl tv)), (mo, .inr (8, [.int th, .ref ms, .ref mk, .ref mv, .int (nI mm), .int (nI ml), .int (nI cnt), .ref mt, .int mp, .int mn, .int (nI mu), .ref ma, .int (nI (ea_A b tn cnt at_ 32)), .int (nI (ea_B b tn cnt at_ 32)), .int le, .int ob, .ref m1, .ref m2, .ref m3, .ref m4, .int (nI rn), .int (nI pw), .ref mc])), (mt, .inl (cA 0, 300, .inl (tx_A tn)))] := hD
  by_cases q_e : pe_P b tn cnt at_
  · rw [ea_B, if_pos q_e, ea_A, if_pos q_e] at hP hD
    have hP : va_P G xk_cl [(m3, .inl (cA 0, 2, .inl tk)), (m4, .inl (cA 0, 2, .inl tv)), (mo, .inr (8, [.int th, .ref ms, .ref mk, .ref mv, .int (nI mm), .int (nI ml), .int (nI cnt), .ref mt, .int mp, .int mn, .int (nI mu), .ref ma, .int (nI (at_ + 1)), .int (nI 0), .int le, .int ob, .ref m1, .ref m2, .ref m3, .ref m4, .int (nI rn), .int (nI pw), .ref mc])), (mt, .inl (cA 0, 300, .inl (tx_A tn)))] H := hP
    have hD : va_D A [(m3, .inl (cA 0, 2, .inl tk)), (m4, .inl (cA 0, 2, .inl tv)), (mo, .inr (8, [.int th, .ref ms, .ref mk, .ref mv, .int (nI mm), .int (nI ml), .int (nI cnt), .ref mt, .int mp, .int mn, .int (nI mu), .ref ma, .int (nI (at_ + 1)), .int (nI 0), .int le, .int ob, .ref m1, .ref m2, .ref m3, .ref m4, .int (nI rn), .int (nI pw), .ref mc])), (mt, .inl (cA 0, 300, .inl (tx_A tn)))] := hD
    have q_l : at_ + 1 ≤ cnt := q_e.2.1
    refine lv_aload_n hx hb xd_Mo_value_0_6 rfl (lv_at hl 0 rfl) ?_
    have hPc := hP.sub (ws' := [(mo, .inr (8, [.int th, .ref ms, .ref mk, .ref mv, .int (nI mm), .int (nI ml), .int (nI cnt), .ref mt, .int mp, .int mn, .int (nI mu), .ref ma, .int (nI (at_ + 1)), .int (nI 0), .int le, .int ob, .ref m1, .ref m2, .ref m3, .ref m4, .int (nI rn), .int (nI pw), .ref mc])), (mt, .inl (cA 0, 300, .inl (tx_A tn)))]) [2, 3] rfl
    refine vp_callSi (va_Run.run (va_runV (As := []) (rest := []) ⟨hx, hb, hml, hown, hts⟩ (ct_Mo_look l G cA mo th ms mk mv mm ml cnt mt mp mn mu ma (at_ + 1) (nI 0) le ob m1 m2 m3 m4 rn pw mc tn hc (by omega)) (cwV 0 hts (gi_v xm_708 xm_710 xs_Mo_look xm_9 xm_711) rfl rfl rfl ⟨rfl, xh_Mo_look⟩ ⟨Nat.le_of_ble_eq_true rfl, Nat.le_of_ble_eq_true rfl⟩) (pv_r hK hPc (ci := 8) (q0 := 0) rfl rfl) rfl rfl hl.1 rfl (lv_room (Nat.le_of_ble_eq_true rfl)) xd_Mo_value_0_7 ⟨Nat.le_of_ble_eq_true rfl, Nat.le_of_ble_eq_true rfl⟩)) (fun r_3 q_4 => ?_)
    refine lx_top (z := sp_pk tn cnt (at_ + 1)) (q_4) ?_
    refine lv_bipush (v := nI 35) hx hb xd_Mo_value_0_10 (by decide) ?_
    refine lv_icmp_ne (tgt := 19) hx hb xd_Mo_value_0_12 (by decide) (fun c_12_4 => ?_) (fun c_12_4 => ?_)
    · have q_h : ¬ tk_P tn cnt (at_ + 1) 35 := pk_nt c_12_4
      refine lv_iconst (v := nI 0) hx hb xd_Mo_value_0_19 (by decide) ?_
      refine lv_istore_n (lv' := [(2, .int (nI 0)), (0, .ref mo), (1, .int (nI w))]) hx hb xd_Mo_value_0_20 rfl hl (by decide) rfl (fun ls hl => ?_)
      refine lv_aload_n hx hb xd_Mo_value_0_21 rfl (lv_at hl 1 rfl) ?_
      have hPc := hP.sub (ws' := [(mo, .inr (8, [.int th, .ref ms, .ref mk, .ref mv, .int (nI mm), .int (nI ml), .int (nI cnt), .ref mt, .int mp, .int mn, .int (nI mu), .ref ma, .int (nI (at_ + 1)), .int (nI 0), .int le, .int ob, .ref m1, .ref m2, .ref m3, .ref m4, .int (nI rn), .int (nI pw), .ref mc])), (mt, .inl (cA 0, 300, .inl (tx_A tn)))]) [2, 3] rfl
      refine vp_callSi (va_Run.run (va_runV (As := []) (rest := []) ⟨hx, hb, hml, hown, hts⟩ (ct_Mo_look l G cA mo th ms mk mv mm ml cnt mt mp mn mu ma (at_ + 1) (nI 0) le ob m1 m2 m3 m4 rn pw mc tn hc (by omega)) (cwV 0 hts (gi_v xm_708 xm_710 xs_Mo_look xm_9 xm_711) rfl rfl rfl ⟨rfl, xh_Mo_look⟩ ⟨Nat.le_of_ble_eq_true rfl, Nat.le_of_ble_eq_true rfl⟩) (pv_r hK hPc (ci := 8) (q0 := 0) rfl rfl) rfl rfl hl.1 rfl (lv_room (Nat.le_of_ble_eq_true rfl)) xd_Mo_value_0_22 ⟨Nat.le_of_ble_eq_true rfl, Nat.le_of_ble_eq_true rfl⟩)) (fun r_6 q_7 => ?_)
      refine lx_top (z := sp_pk tn cnt (at_ + 1)) (q_7) ?_
      refine lv_bipush (v := nI 45) hx hb xd_Mo_value_0_25 (by decide) ?_
      refine lv_icmp_ne (tgt := 34) hx hb xd_Mo_value_0_27 (by decide) (fun c_27_7 => ?_) (fun c_27_7 => ?_)
      · have q_m : ¬ tk_P tn cnt (at_ + 1) 45 := pk_nt c_27_7
        refine lv_iconst (v := nI 0) hx hb xd_Mo_value_0_34 (by decide) ?_
        refine lv_istore_n (lv' := [(3, .int (nI 0)), (2, .int (nI 0)), (0, .ref mo), (1, .int (nI w))]) hx hb xd_Mo_value_0_35 rfl hl (by decide) rfl (fun ls hl => ?_)
        refine lv_aload_n hx hb xd_Mo_value_0_36 rfl (lv_at hl 2 rfl) ?_
        refine lv_aload_n hx hb xd_Mo_value_0_37 rfl (lv_at hl 2 rfl) ?_
        refine va_get (D := G) (ci := 8) (v := .int (nI 0)) (C := xc_Mo) (T := xf_Mo) (N := 23) hx hb hts xw_Mo hown hK.1 hP 2 rfl rfl 13 (by decide) (hts _ xm_632) (fun _ h9 => h9) rfl xd_Mo_value_0_38 ?_
        refine lv_if_ne (tgt := 61) hx hb xd_Mo_value_0_41 (by decide) (fun c_41_8 => absurd (by decide) c_41_8) (fun c_41_8 => ?_)
        refine lv_iload_n hx hb xd_Mo_value_0_44 rfl (lv_at hl 1 rfl) ?_
        refine lv_if_ne (tgt := 52) hx hb xd_Mo_value_0_45 (by decide) (fun c_45_9 => absurd (by decide) c_45_9) (fun c_45_9 => ?_)
        refine lv_iload_n hx hb xd_Mo_value_0_48 rfl (lv_at hl 0 rfl) ?_
        refine lv_if_eq (tgt := 61) hx hb xd_Mo_value_0_49 (by decide) (fun c_49_10 => ?_) (fun c_49_10 => absurd (by decide) c_49_10)
        refine lv_aload_n hx hb xd_Mo_value_0_61 rfl (lv_at hl 2 rfl) ?_
        refine va_get (D := G) (ci := 8) (v := .int (nI (at_ + 1))) (C := xc_Mo) (T := xf_Mo) (N := 23) hx hb hts xw_Mo hown hK.1 hP 2 rfl rfl 12 (by decide) (hts _ xm_631) (fun _ h9 => h9) rfl xd_Mo_value_0_62 ?_
        refine va_put (D := G) (ci := 8) (v := .int (nI (at_ + 1))) (ty := .int) (C := xc_Mo) (T := xf_Mo) (N := 23) hx hb hts xw_Mo xt_Mo xt_Mo_ok xn_Mo hown hK.1 hP hD hS 2 rfl rfl 12 (by decide) (hts _ xm_631) (fun _ h9 => h9) rfl (by decide +kernel) rfl rfl (Nat.le_of_ble_eq_true rfl) xd_Mo_value_0_65 (fun H locs hP hD hS => ?_)
        have hP : va_P G xk_cl [(m3, .inl (cA 0, 2, .inl tk)), (m4, .inl (cA 0, 2, .inl tv)), (mo, .inr (8, [.int th, .ref ms, .ref mk, .ref mv, .int (nI mm), .int (nI ml), .int (nI cnt), .ref mt, .int mp, .int mn, .int (nI mu), .ref ma, .int (nI (at_ + 1)), .int (nI 0), .int le, .int ob, .ref m1, .ref m2, .ref m3, .ref m4, .int (nI rn), .int (nI pw), .ref mc])), (mt, .inl (cA 0, 300, .inl (tx_A tn)))] H := hP
        have hD : va_D A [(m3, .inl (cA 0, 2, .inl tk)), (m4, .inl (cA 0, 2, .inl tv)), (mo, .inr (8, [.int th, .ref ms, .ref mk, .ref mv, .int (nI mm), .int (nI ml), .int (nI cnt), .ref mt, .int mp, .int mn, .int (nI mu), .ref ma, .int (nI (at_ + 1)), .int (nI 0), .int le, .int ob, .ref m1, .ref m2, .ref m3, .ref m4, .int (nI rn), .int (nI pw), .ref mc])), (mt, .inl (cA 0, 300, .inl (tx_A tn)))] := hD
        refine lv_aload_n hx hb xd_Mo_value_0_68 rfl (lv_at hl 2 rfl) ?_
        refine va_get (D := G) (ci := 8) (v := .int (nI 0)) (C := xc_Mo) (T := xf_Mo) (N := 23) hx hb hts xw_Mo hown hK.1 hP 2 rfl rfl 13 (by decide) (hts _ xm_632) (fun _ h9 => h9) rfl xd_Mo_value_0_69 ?_
        refine lv_if_eq (tgt := 79) hx hb xd_Mo_value_0_72 (by decide) (fun c_72_11 => ?_) (fun c_72_11 => absurd (by decide) c_72_11)
        refine lv_aload_n hx hb xd_Mo_value_0_79 rfl (lv_at hl 2 rfl) ?_
        refine lv_iload_n hx hb xd_Mo_value_0_80 rfl (lv_at hl 1 rfl) ?_
        refine lv_if_eq (tgt := 88) hx hb xd_Mo_value_0_81 (by decide) (fun c_81_12 => ?_) (fun c_81_12 => absurd (by decide) c_81_12)
        refine lv_iconst (v := nI 5) hx hb xd_Mo_value_0_88 (by decide) ?_
        have hPc := hP.sub (ws' := [(mo, .inr (8, [.int th, .ref ms, .ref mk, .ref mv, .int (nI mm), .int (nI ml), .int (nI cnt), .ref mt, .int mp, .int mn, .int (nI mu), .ref ma, .int (nI (at_ + 1)), .int (nI 0), .int le, .int ob, .ref m1, .ref m2, .ref m3, .ref m4, .int (nI rn), .int (nI pw), .ref mc])), (mt, .inl (cA 0, 300, .inl (tx_A tn)))]) [2, 3] rfl
        have hDc := hD.sub (ws' := [(mo, .inr (8, [.int th, .ref ms, .ref mk, .ref mv, .int (nI mm), .int (nI ml), .int (nI cnt), .ref mt, .int mp, .int mn, .int (nI mu), .ref ma, .int (nI (at_ + 1)), .int (nI 0), .int le, .int ob, .ref m1, .ref m2, .ref m3, .ref m4, .int (nI rn), .int (nI pw), .ref mc])), (mt, .inl (cA 0, 300, .inl (tx_A tn)))]) [2, 3] (by decide) rfl
        have hFc := va_free (wc := [(mo, .inr (8, [.int th, .ref ms, .ref mk, .ref mv, .int (nI mm), .int (nI ml), .int (nI cnt), .ref mt, .int mp, .int mn, .int (nI mu), .ref ma, .int (nI (at_ + 1)), .int (nI 0), .int le, .int ob, .ref m1, .ref m2, .ref m3, .ref m4, .int (nI rn), .int (nI pw), .ref mc])), (mt, .inl (cA 0, 300, .inl (tx_A tn)))]) hD hS hA [2, 3] rfl
        refine va_calli (va_runV (As := [.int (nI 5)]) (rest := []) ⟨hx, hb, hml, hown, hts⟩ (ct_Mo_number l G cA H.size mo th ms mk mv mm ml cnt mt mp mn mu ma (at_ + 1) le ob m1 m2 m3 m4 rn pw mc 0 tn hc (by omega) hv (by omega) 5 (by omega) (by omega)) (cwV 1 hts (gi_v xm_720 xm_722 xs_Mo_number xm_9 xm_723) rfl rfl rfl ⟨rfl, xh_Mo_number⟩ ⟨Nat.le_of_ble_eq_true rfl, Nat.le_of_ble_eq_true rfl⟩) (pv_w hK hPc hDc (ci := 8) (q0 := 0) rfl rfl) rfl rfl hl.1 rfl (lv_room (Nat.le_of_ble_eq_true rfl)) xd_Mo_value_0_89 ⟨Nat.le_of_ble_eq_true rfl, Nat.le_of_ble_eq_true rfl⟩) hS (fun q _ h => hFc q h) hFc (fun r_14 u9 t9 H1 locs ht hvm q_15 hB hz1 hk1 hS => ?_)
        obtain ⟨hP1, hD1⟩ := hB
        rw [ht] at hP1
        obtain ⟨hP, hD⟩ := va_join (wr := [(m3, .inl (cA 0, 2, .inl tk)), (m4, .inl (cA 0, 2, .inl tv))]) (w1 := [(mo, .inr (8, [.int th, .ref ms, .ref mk, .ref mv, .int (nI mm), .int (nI ml), .int (nI cnt), .ref mt, .int mp, .int mn, .int (nI mu), .ref ma, .int (nI ((at_ + 1) + dg_n tn cnt (at_ + 1) 5)), .int (nI (nu_B 0 (dg_n tn cnt (at_ + 1) 5))), .int le, .int ob, .ref m1, .ref m2, .ref m3, .ref m4, .int (nI rn), .int (nI pw), .ref mc])), (mt, .inl (cA 0, 300, .inl (tx_A tn)))]) hP hD [2, 3] [0, 1] rfl rfl (by decide) (by decide) hk1 hFc hP1 hD1
        generalize H1 = H at hP hS ⊢
        have hP : va_P G xk_cl [(m3, .inl (cA 0, 2, .inl tk)), (m4, .inl (cA 0, 2, .inl tv)), (mo, .inr (8, [.int th, .ref ms, .ref mk, .ref mv, .int (nI mm), .int (nI ml), .int (nI cnt), .ref mt, .int mp, .int mn, .int (nI mu), .ref ma, .int (nI ((at_ + 1) + dg_n tn cnt (at_ + 1) 5)), .int (nI (nu_B 0 (dg_n tn cnt (at_ + 1) 5))), .int le, .int ob, .ref m1, .ref m2, .ref m3, .ref m4, .int (nI rn), .int (nI pw), .ref mc])), (mt, .inl (cA 0, 300, .inl (tx_A tn)))] H := hP
        have hD : va_D A [(m3, .inl (cA 0, 2, .inl tk)), (m4, .inl (cA 0, 2, .inl tv)), (mo, .inr (8, [.int th, .ref ms, .ref mk, .ref mv, .int (nI mm), .int (nI ml), .int (nI cnt), .ref mt, .int mp, .int mn, .int (nI mu), .ref ma, .int (nI ((at_ + 1) + dg_n tn cnt (at_ + 1) 5)), .int (nI (nu_B 0 (dg_n tn cnt (at_ + 1) 5))), .int le, .int ob, .ref m1, .ref m2, .ref m3, .ref m4, .int (nI rn), .int (nI pw), .ref mc])), (mt, .inl (cA 0, 300, .inl (tx_A tn)))] := hD
        refine lx_top (z := nI (dg_v tn (at_ + 1) (dg_n tn cnt (at_ + 1) 5))) (q_15) ?_
        refine lv_istore (lv' := [(4, .int (nI (dg_v tn (at_ + 1) (dg_n tn cnt (at_ + 1) 5)))), (3, .int (nI 0)), (2, .int (nI 0)), (0, .ref mo), (1, .int (nI w))]) hx hb xd_Mo_value_0_92 hl (by decide) rfl (fun ls hl => ?_)
        have q_dc := dg_n_cnt tn cnt (at_ + 1) (by omega) 5
        refine lv_aload_n hx hb xd_Mo_value_0_94 rfl (lv_at hl 3 rfl) ?_
        refine va_get (D := G) (ci := 8) (v := .ref m3) (C := xc_Mo) (T := xf_Mo) (N := 23) hx hb hts xw_Mo hown hK.1 hP 2 rfl rfl 18 (by decide) (hts _ xm_637) (fun _ h9 => h9) rfl xd_Mo_value_0_95 ?_
        refine lv_iload_n hx hb xd_Mo_value_0_98 rfl (lv_at hl 4 rfl) ?_
        refine lv_iload_n hx hb xd_Mo_value_0_99 rfl (lv_at hl 2 rfl) ?_
        refine lv_if_eq (tgt := 107) hx hb xd_Mo_value_0_100 (by decide) (fun c_100_15 => ?_) (fun c_100_15 => absurd (by decide) c_100_15)
        refine lv_iconst (v := nI 1) hx hb xd_Mo_value_0_107 (by decide) ?_
        refine wx_iast hx hb hK.1 hP hD hS 0 0 rfl rfl (k := w) (z := nI 1) (rfl) (by omega) (by decide) xd_Mo_value_0_108 (fun H locs hP hD hS => ?_)
        have hP : va_P G xk_cl [(m3, .inl (cA 0, 2, .inl (upd tk w (nI 1)))), (m4, .inl (cA 0, 2, .inl tv)), (mo, .inr (8, [.int th, .ref ms, .ref mk, .ref mv, .int (nI mm), .int (nI ml), .int (nI cnt), .ref mt, .int mp, .int mn, .int (nI mu), .ref ma, .int (nI ((at_ + 1) + dg_n tn cnt (at_ + 1) 5)), .int (nI (nu_B 0 (dg_n tn cnt (at_ + 1) 5))), .int le, .int ob, .ref m1, .ref m2, .ref m3, .ref m4, .int (nI rn), .int (nI pw), .ref mc])), (mt, .inl (cA 0, 300, .inl (tx_A tn)))] H := hP
        have hD : va_D A [(m3, .inl (cA 0, 2, .inl (upd tk w (nI 1)))), (m4, .inl (cA 0, 2, .inl tv)), (mo, .inr (8, [.int th, .ref ms, .ref mk, .ref mv, .int (nI mm), .int (nI ml), .int (nI cnt), .ref mt, .int mp, .int mn, .int (nI mu), .ref ma, .int (nI ((at_ + 1) + dg_n tn cnt (at_ + 1) 5)), .int (nI (nu_B 0 (dg_n tn cnt (at_ + 1) 5))), .int le, .int ob, .ref m1, .ref m2, .ref m3, .ref m4, .int (nI rn), .int (nI pw), .ref mc])), (mt, .inl (cA 0, 300, .inl (tx_A tn)))] := hD
        refine lv_aload_n hx hb xd_Mo_value_0_109 rfl (lv_at hl 3 rfl) ?_
        refine va_get (D := G) (ci := 8) (v := .ref m4) (C := xc_Mo) (T := xf_Mo) (N := 23) hx hb hts xw_Mo hown hK.1 hP 2 rfl rfl 19 (by decide) (hts _ xm_638) (fun _ h9 => h9) rfl xd_Mo_value_0_110 ?_
        refine lv_iload_n hx hb xd_Mo_value_0_113 rfl (lv_at hl 4 rfl) ?_
        refine lv_iload_n hx hb xd_Mo_value_0_114 rfl (lv_at hl 1 rfl) ?_
        refine lv_if_eq (tgt := 124) hx hb xd_Mo_value_0_115 (by decide) (fun c_115_16 => ?_) (fun c_115_16 => absurd (by decide) c_115_16)
        refine lv_iload hx hb xd_Mo_value_0_124 (lv_at hl 0 rfl) ?_
        refine wx_iast hx hb hK.1 hP hD hS 1 0 rfl rfl (k := w) (z := nI (dg_v tn (at_ + 1) (dg_n tn cnt (at_ + 1) 5))) (rfl) (by omega) (by decide) xd_Mo_value_0_126 (fun H locs hP hD hS => ?_)
        have hP : va_P G xk_cl [(m3, .inl (cA 0, 2, .inl (upd tk w (nI 1)))), (m4, .inl (cA 0, 2, .inl (upd tv w (nI (dg_v tn (at_ + 1) (dg_n tn cnt (at_ + 1) 5)))))), (mo, .inr (8, [.int th, .ref ms, .ref mk, .ref mv, .int (nI mm), .int (nI ml), .int (nI cnt), .ref mt, .int mp, .int mn, .int (nI mu), .ref ma, .int (nI ((at_ + 1) + dg_n tn cnt (at_ + 1) 5)), .int (nI (nu_B 0 (dg_n tn cnt (at_ + 1) 5))), .int le, .int ob, .ref m1, .ref m2, .ref m3, .ref m4, .int (nI rn), .int (nI pw), .ref mc])), (mt, .inl (cA 0, 300, .inl (tx_A tn)))] H := hP
        have hD : va_D A [(m3, .inl (cA 0, 2, .inl (upd tk w (nI 1)))), (m4, .inl (cA 0, 2, .inl (upd tv w (nI (dg_v tn (at_ + 1) (dg_n tn cnt (at_ + 1) 5)))))), (mo, .inr (8, [.int th, .ref ms, .ref mk, .ref mv, .int (nI mm), .int (nI ml), .int (nI cnt), .ref mt, .int mp, .int mn, .int (nI mu), .ref ma, .int (nI ((at_ + 1) + dg_n tn cnt (at_ + 1) 5)), .int (nI (nu_B 0 (dg_n tn cnt (at_ + 1) 5))), .int le, .int ob, .ref m1, .ref m2, .ref m3, .ref m4, .int (nI rn), .int (nI pw), .ref mc])), (mt, .inl (cA 0, 300, .inl (tx_A tn)))] := hD
        have hP9 : va_P G xk_cl [(mo, .inr (8, [.int th, .ref ms, .ref mk, .ref mv, .int (nI mm), .int (nI ml), .int (nI cnt), .ref mt, .int mp, .int mn, .int (nI mu), .ref ma, .int (nI ((at_ + 1) + dg_n tn cnt (at_ + 1) 5)), .int (nI (nu_B 0 (dg_n tn cnt (at_ + 1) 5))), .int le, .int ob, .ref m1, .ref m2, .ref m3, .ref m4, .int (nI rn), .int (nI pw), .ref mc])), (mt, .inl (cA 0, 300, .inl (tx_A tn))), (m3, .inl (cA 0, 2, .inl (upd tk w (nI 1)))), (m4, .inl (cA 0, 2, .inl (upd tv w (nI (dg_v tn (at_ + 1) (dg_n tn cnt (at_ + 1) 5))))))] _ := hP.sub [2, 3, 0, 1] rfl
        have hD9 : va_D A [(mo, .inr (8, [.int th, .ref ms, .ref mk, .ref mv, .int (nI mm), .int (nI ml), .int (nI cnt), .ref mt, .int mp, .int mn, .int (nI mu), .ref ma, .int (nI ((at_ + 1) + dg_n tn cnt (at_ + 1) 5)), .int (nI (nu_B 0 (dg_n tn cnt (at_ + 1) 5))), .int le, .int ob, .ref m1, .ref m2, .ref m3, .ref m4, .int (nI rn), .int (nI pw), .ref mc])), (mt, .inl (cA 0, 300, .inl (tx_A tn))), (m3, .inl (cA 0, 2, .inl (upd tk w (nI 1)))), (m4, .inl (cA 0, 2, .inl (upd tv w (nI (dg_v tn (at_ + 1) (dg_n tn cnt (at_ + 1) 5))))))] := hD.sub [2, 3, 0, 1] (by decide) rfl
        exact W.vret hx hb hr (fun T9 ht hW => ⟨⟨(nu_B 0 (dg_n tn cnt (at_ + 1) 5), (at_ + 1) + dg_n tn cnt (at_ + 1) 5, upd tk w (nI 1), upd tv w (nI (dg_v tn (at_ + 1) (dg_n tn cnt (at_ + 1) 5)))), rfl, vl_ok (k := 1) q_e (by decide) (by rw [cl_R, if_neg q_h, if_neg q_m]) (by rw [cl_A, if_neg q_h, if_neg q_m]) (en_Vp (by decide) (dg_v5 tn _ cnt)) q_dc, by rw [ht]; exact hP9, hD9⟩, hS.F ht⟩) hS.2.2 xd_Mo_value_0_127
      · have q_m : tk_P tn cnt (at_ + 1) 45 := pk_tk (by decide) hv c_27_7
        refine lv_iconst (v := nI 1) hx hb xd_Mo_value_0_30 (by decide) ?_
        refine lv_goto (tgt := 35) hx hb xd_Mo_value_0_31 (by decide) ?_
        refine lv_istore_n (lv' := [(3, .int (nI 1)), (2, .int (nI 0)), (0, .ref mo), (1, .int (nI w))]) hx hb xd_Mo_value_0_35 rfl hl (by decide) rfl (fun ls hl => ?_)
        refine lv_aload_n hx hb xd_Mo_value_0_36 rfl (lv_at hl 2 rfl) ?_
        refine lv_aload_n hx hb xd_Mo_value_0_37 rfl (lv_at hl 2 rfl) ?_
        refine va_get (D := G) (ci := 8) (v := .int (nI 0)) (C := xc_Mo) (T := xf_Mo) (N := 23) hx hb hts xw_Mo hown hK.1 hP 2 rfl rfl 13 (by decide) (hts _ xm_632) (fun _ h9 => h9) rfl xd_Mo_value_0_38 ?_
        have q_l2 : at_ + 1 + 1 ≤ cnt := q_m.1
        refine lv_if_ne (tgt := 61) hx hb xd_Mo_value_0_41 (by decide) (fun c_41_17 => absurd (by decide) c_41_17) (fun c_41_17 => ?_)
        refine lv_iload_n hx hb xd_Mo_value_0_44 rfl (lv_at hl 1 rfl) ?_
        refine lv_if_ne (tgt := 52) hx hb xd_Mo_value_0_45 (by decide) (fun c_45_18 => absurd (by decide) c_45_18) (fun c_45_18 => ?_)
        refine lv_iload_n hx hb xd_Mo_value_0_48 rfl (lv_at hl 0 rfl) ?_
        refine lv_if_eq (tgt := 61) hx hb xd_Mo_value_0_49 (by decide) (fun c_49_19 => absurd c_49_19 (by decide)) (fun c_49_19 => ?_)
        refine lv_aload_n hx hb xd_Mo_value_0_52 rfl (lv_at hl 2 rfl) ?_
        refine va_get (D := G) (ci := 8) (v := .int (nI (at_ + 1))) (C := xc_Mo) (T := xf_Mo) (N := 23) hx hb hts xw_Mo hown hK.1 hP 2 rfl rfl 12 (by decide) (hts _ xm_631) (fun _ h9 => h9) rfl xd_Mo_value_0_53 ?_
        refine lv_iconst (v := nI 1) hx hb xd_Mo_value_0_56 (by decide) ?_
        refine lx_iadd (z := nI (at_ + 1 + 1)) hx hb xd_Mo_value_0_57 (nI_add _ _) ?_
        refine lv_goto (tgt := 65) hx hb xd_Mo_value_0_58 (by decide) ?_
        refine va_put (D := G) (ci := 8) (v := .int (nI (at_ + 1 + 1))) (ty := .int) (C := xc_Mo) (T := xf_Mo) (N := 23) hx hb hts xw_Mo xt_Mo xt_Mo_ok xn_Mo hown hK.1 hP hD hS 2 rfl rfl 12 (by decide) (hts _ xm_631) (fun _ h9 => h9) rfl (by decide +kernel) rfl rfl (Nat.le_of_ble_eq_true rfl) xd_Mo_value_0_65 (fun H locs hP hD hS => ?_)
        have hP : va_P G xk_cl [(m3, .inl (cA 0, 2, .inl tk)), (m4, .inl (cA 0, 2, .inl tv)), (mo, .inr (8, [.int th, .ref ms, .ref mk, .ref mv, .int (nI mm), .int (nI ml), .int (nI cnt), .ref mt, .int mp, .int mn, .int (nI mu), .ref ma, .int (nI (at_ + 1 + 1)), .int (nI 0), .int le, .int ob, .ref m1, .ref m2, .ref m3, .ref m4, .int (nI rn), .int (nI pw), .ref mc])), (mt, .inl (cA 0, 300, .inl (tx_A tn)))] H := hP
        have hD : va_D A [(m3, .inl (cA 0, 2, .inl tk)), (m4, .inl (cA 0, 2, .inl tv)), (mo, .inr (8, [.int th, .ref ms, .ref mk, .ref mv, .int (nI mm), .int (nI ml), .int (nI cnt), .ref mt, .int mp, .int mn, .int (nI mu), .ref ma, .int (nI (at_ + 1 + 1)), .int (nI 0), .int le, .int ob, .ref m1, .ref m2, .ref m3, .ref m4, .int (nI rn), .int (nI pw), .ref mc])), (mt, .inl (cA 0, 300, .inl (tx_A tn)))] := hD
        refine lv_aload_n hx hb xd_Mo_value_0_68 rfl (lv_at hl 2 rfl) ?_
        refine va_get (D := G) (ci := 8) (v := .int (nI 0)) (C := xc_Mo) (T := xf_Mo) (N := 23) hx hb hts xw_Mo hown hK.1 hP 2 rfl rfl 13 (by decide) (hts _ xm_632) (fun _ h9 => h9) rfl xd_Mo_value_0_69 ?_
        refine lv_if_eq (tgt := 79) hx hb xd_Mo_value_0_72 (by decide) (fun c_72_20 => ?_) (fun c_72_20 => absurd (by decide) c_72_20)
        refine lv_aload_n hx hb xd_Mo_value_0_79 rfl (lv_at hl 2 rfl) ?_
        refine lv_iload_n hx hb xd_Mo_value_0_80 rfl (lv_at hl 1 rfl) ?_
        refine lv_if_eq (tgt := 88) hx hb xd_Mo_value_0_81 (by decide) (fun c_81_21 => ?_) (fun c_81_21 => absurd (by decide) c_81_21)
        refine lv_iconst (v := nI 5) hx hb xd_Mo_value_0_88 (by decide) ?_
        have hPc := hP.sub (ws' := [(mo, .inr (8, [.int th, .ref ms, .ref mk, .ref mv, .int (nI mm), .int (nI ml), .int (nI cnt), .ref mt, .int mp, .int mn, .int (nI mu), .ref ma, .int (nI (at_ + 1 + 1)), .int (nI 0), .int le, .int ob, .ref m1, .ref m2, .ref m3, .ref m4, .int (nI rn), .int (nI pw), .ref mc])), (mt, .inl (cA 0, 300, .inl (tx_A tn)))]) [2, 3] rfl
        have hDc := hD.sub (ws' := [(mo, .inr (8, [.int th, .ref ms, .ref mk, .ref mv, .int (nI mm), .int (nI ml), .int (nI cnt), .ref mt, .int mp, .int mn, .int (nI mu), .ref ma, .int (nI (at_ + 1 + 1)), .int (nI 0), .int le, .int ob, .ref m1, .ref m2, .ref m3, .ref m4, .int (nI rn), .int (nI pw), .ref mc])), (mt, .inl (cA 0, 300, .inl (tx_A tn)))]) [2, 3] (by decide) rfl
        have hFc := va_free (wc := [(mo, .inr (8, [.int th, .ref ms, .ref mk, .ref mv, .int (nI mm), .int (nI ml), .int (nI cnt), .ref mt, .int mp, .int mn, .int (nI mu), .ref ma, .int (nI (at_ + 1 + 1)), .int (nI 0), .int le, .int ob, .ref m1, .ref m2, .ref m3, .ref m4, .int (nI rn), .int (nI pw), .ref mc])), (mt, .inl (cA 0, 300, .inl (tx_A tn)))]) hD hS hA [2, 3] rfl
        refine va_calli (va_runV (As := [.int (nI 5)]) (rest := []) ⟨hx, hb, hml, hown, hts⟩ (ct_Mo_number l G cA H.size mo th ms mk mv mm ml cnt mt mp mn mu ma (at_ + 1 + 1) le ob m1 m2 m3 m4 rn pw mc 0 tn hc (by omega) hv (by omega) 5 (by omega) (by omega)) (cwV 1 hts (gi_v xm_720 xm_722 xs_Mo_number xm_9 xm_723) rfl rfl rfl ⟨rfl, xh_Mo_number⟩ ⟨Nat.le_of_ble_eq_true rfl, Nat.le_of_ble_eq_true rfl⟩) (pv_w hK hPc hDc (ci := 8) (q0 := 0) rfl rfl) rfl rfl hl.1 rfl (lv_room (Nat.le_of_ble_eq_true rfl)) xd_Mo_value_0_89 ⟨Nat.le_of_ble_eq_true rfl, Nat.le_of_ble_eq_true rfl⟩) hS (fun q _ h => hFc q h) hFc (fun r_23 u9 t9 H1 locs ht hvm q_24 hB hz1 hk1 hS => ?_)
        obtain ⟨hP1, hD1⟩ := hB
        rw [ht] at hP1
        obtain ⟨hP, hD⟩ := va_join (wr := [(m3, .inl (cA 0, 2, .inl tk)), (m4, .inl (cA 0, 2, .inl tv))]) (w1 := [(mo, .inr (8, [.int th, .ref ms, .ref mk, .ref mv, .int (nI mm), .int (nI ml), .int (nI cnt), .ref mt, .int mp, .int mn, .int (nI mu), .ref ma, .int (nI ((at_ + 1 + 1) + dg_n tn cnt (at_ + 1 + 1) 5)), .int (nI (nu_B 0 (dg_n tn cnt (at_ + 1 + 1) 5))), .int le, .int ob, .ref m1, .ref m2, .ref m3, .ref m4, .int (nI rn), .int (nI pw), .ref mc])), (mt, .inl (cA 0, 300, .inl (tx_A tn)))]) hP hD [2, 3] [0, 1] rfl rfl (by decide) (by decide) hk1 hFc hP1 hD1
        generalize H1 = H at hP hS ⊢
        have hP : va_P G xk_cl [(m3, .inl (cA 0, 2, .inl tk)), (m4, .inl (cA 0, 2, .inl tv)), (mo, .inr (8, [.int th, .ref ms, .ref mk, .ref mv, .int (nI mm), .int (nI ml), .int (nI cnt), .ref mt, .int mp, .int mn, .int (nI mu), .ref ma, .int (nI ((at_ + 1 + 1) + dg_n tn cnt (at_ + 1 + 1) 5)), .int (nI (nu_B 0 (dg_n tn cnt (at_ + 1 + 1) 5))), .int le, .int ob, .ref m1, .ref m2, .ref m3, .ref m4, .int (nI rn), .int (nI pw), .ref mc])), (mt, .inl (cA 0, 300, .inl (tx_A tn)))] H := hP
        have hD : va_D A [(m3, .inl (cA 0, 2, .inl tk)), (m4, .inl (cA 0, 2, .inl tv)), (mo, .inr (8, [.int th, .ref ms, .ref mk, .ref mv, .int (nI mm), .int (nI ml), .int (nI cnt), .ref mt, .int mp, .int mn, .int (nI mu), .ref ma, .int (nI ((at_ + 1 + 1) + dg_n tn cnt (at_ + 1 + 1) 5)), .int (nI (nu_B 0 (dg_n tn cnt (at_ + 1 + 1) 5))), .int le, .int ob, .ref m1, .ref m2, .ref m3, .ref m4, .int (nI rn), .int (nI pw), .ref mc])), (mt, .inl (cA 0, 300, .inl (tx_A tn)))] := hD
        refine lx_top (z := nI (dg_v tn (at_ + 1 + 1) (dg_n tn cnt (at_ + 1 + 1) 5))) (q_24) ?_
        refine lv_istore (lv' := [(4, .int (nI (dg_v tn (at_ + 1 + 1) (dg_n tn cnt (at_ + 1 + 1) 5)))), (3, .int (nI 1)), (2, .int (nI 0)), (0, .ref mo), (1, .int (nI w))]) hx hb xd_Mo_value_0_92 hl (by decide) rfl (fun ls hl => ?_)
        have q_dc := dg_n_cnt tn cnt (at_ + 1 + 1) (by omega) 5
        refine lv_aload_n hx hb xd_Mo_value_0_94 rfl (lv_at hl 3 rfl) ?_
        refine va_get (D := G) (ci := 8) (v := .ref m3) (C := xc_Mo) (T := xf_Mo) (N := 23) hx hb hts xw_Mo hown hK.1 hP 2 rfl rfl 18 (by decide) (hts _ xm_637) (fun _ h9 => h9) rfl xd_Mo_value_0_95 ?_
        refine lv_iload_n hx hb xd_Mo_value_0_98 rfl (lv_at hl 4 rfl) ?_
        refine lv_iload_n hx hb xd_Mo_value_0_99 rfl (lv_at hl 2 rfl) ?_
        refine lv_if_eq (tgt := 107) hx hb xd_Mo_value_0_100 (by decide) (fun c_100_24 => ?_) (fun c_100_24 => absurd (by decide) c_100_24)
        refine lv_iconst (v := nI 1) hx hb xd_Mo_value_0_107 (by decide) ?_
        refine wx_iast hx hb hK.1 hP hD hS 0 0 rfl rfl (k := w) (z := nI 1) (rfl) (by omega) (by decide) xd_Mo_value_0_108 (fun H locs hP hD hS => ?_)
        have hP : va_P G xk_cl [(m3, .inl (cA 0, 2, .inl (upd tk w (nI 1)))), (m4, .inl (cA 0, 2, .inl tv)), (mo, .inr (8, [.int th, .ref ms, .ref mk, .ref mv, .int (nI mm), .int (nI ml), .int (nI cnt), .ref mt, .int mp, .int mn, .int (nI mu), .ref ma, .int (nI ((at_ + 1 + 1) + dg_n tn cnt (at_ + 1 + 1) 5)), .int (nI (nu_B 0 (dg_n tn cnt (at_ + 1 + 1) 5))), .int le, .int ob, .ref m1, .ref m2, .ref m3, .ref m4, .int (nI rn), .int (nI pw), .ref mc])), (mt, .inl (cA 0, 300, .inl (tx_A tn)))] H := hP
        have hD : va_D A [(m3, .inl (cA 0, 2, .inl (upd tk w (nI 1)))), (m4, .inl (cA 0, 2, .inl tv)), (mo, .inr (8, [.int th, .ref ms, .ref mk, .ref mv, .int (nI mm), .int (nI ml), .int (nI cnt), .ref mt, .int mp, .int mn, .int (nI mu), .ref ma, .int (nI ((at_ + 1 + 1) + dg_n tn cnt (at_ + 1 + 1) 5)), .int (nI (nu_B 0 (dg_n tn cnt (at_ + 1 + 1) 5))), .int le, .int ob, .ref m1, .ref m2, .ref m3, .ref m4, .int (nI rn), .int (nI pw), .ref mc])), (mt, .inl (cA 0, 300, .inl (tx_A tn)))] := hD
        refine lv_aload_n hx hb xd_Mo_value_0_109 rfl (lv_at hl 3 rfl) ?_
        refine va_get (D := G) (ci := 8) (v := .ref m4) (C := xc_Mo) (T := xf_Mo) (N := 23) hx hb hts xw_Mo hown hK.1 hP 2 rfl rfl 19 (by decide) (hts _ xm_638) (fun _ h9 => h9) rfl xd_Mo_value_0_110 ?_
        refine lv_iload_n hx hb xd_Mo_value_0_113 rfl (lv_at hl 4 rfl) ?_
        refine lv_iload_n hx hb xd_Mo_value_0_114 rfl (lv_at hl 1 rfl) ?_
        refine lv_if_eq (tgt := 124) hx hb xd_Mo_value_0_115 (by decide) (fun c_115_25 => absurd c_115_25 (by decide)) (fun c_115_25 => ?_)
        refine lv_iload hx hb xd_Mo_value_0_118 (lv_at hl 0 rfl) ?_
        refine lx_ineg (z := -(nI (dg_v tn (at_ + 1 + 1) (dg_n tn cnt (at_ + 1 + 1) 5)))) hx hb xd_Mo_value_0_120 (rfl) ?_
        refine lv_goto (tgt := 126) hx hb xd_Mo_value_0_121 (by decide) ?_
        refine wx_iast hx hb hK.1 hP hD hS 1 0 rfl rfl (k := w) (z := -(nI (dg_v tn (at_ + 1 + 1) (dg_n tn cnt (at_ + 1 + 1) 5)))) (rfl) (by omega) (by decide) xd_Mo_value_0_126 (fun H locs hP hD hS => ?_)
        have hP : va_P G xk_cl [(m3, .inl (cA 0, 2, .inl (upd tk w (nI 1)))), (m4, .inl (cA 0, 2, .inl (upd tv w (-(nI (dg_v tn (at_ + 1 + 1) (dg_n tn cnt (at_ + 1 + 1) 5))))))), (mo, .inr (8, [.int th, .ref ms, .ref mk, .ref mv, .int (nI mm), .int (nI ml), .int (nI cnt), .ref mt, .int mp, .int mn, .int (nI mu), .ref ma, .int (nI ((at_ + 1 + 1) + dg_n tn cnt (at_ + 1 + 1) 5)), .int (nI (nu_B 0 (dg_n tn cnt (at_ + 1 + 1) 5))), .int le, .int ob, .ref m1, .ref m2, .ref m3, .ref m4, .int (nI rn), .int (nI pw), .ref mc])), (mt, .inl (cA 0, 300, .inl (tx_A tn)))] H := hP
        have hD : va_D A [(m3, .inl (cA 0, 2, .inl (upd tk w (nI 1)))), (m4, .inl (cA 0, 2, .inl (upd tv w (-(nI (dg_v tn (at_ + 1 + 1) (dg_n tn cnt (at_ + 1 + 1) 5))))))), (mo, .inr (8, [.int th, .ref ms, .ref mk, .ref mv, .int (nI mm), .int (nI ml), .int (nI cnt), .ref mt, .int mp, .int mn, .int (nI mu), .ref ma, .int (nI ((at_ + 1 + 1) + dg_n tn cnt (at_ + 1 + 1) 5)), .int (nI (nu_B 0 (dg_n tn cnt (at_ + 1 + 1) 5))), .int le, .int ob, .ref m1, .ref m2, .ref m3, .ref m4, .int (nI rn), .int (nI pw), .ref mc])), (mt, .inl (cA 0, 300, .inl (tx_A tn)))] := hD
        have hP9 : va_P G xk_cl [(mo, .inr (8, [.int th, .ref ms, .ref mk, .ref mv, .int (nI mm), .int (nI ml), .int (nI cnt), .ref mt, .int mp, .int mn, .int (nI mu), .ref ma, .int (nI ((at_ + 1 + 1) + dg_n tn cnt (at_ + 1 + 1) 5)), .int (nI (nu_B 0 (dg_n tn cnt (at_ + 1 + 1) 5))), .int le, .int ob, .ref m1, .ref m2, .ref m3, .ref m4, .int (nI rn), .int (nI pw), .ref mc])), (mt, .inl (cA 0, 300, .inl (tx_A tn))), (m3, .inl (cA 0, 2, .inl (upd tk w (nI 1)))), (m4, .inl (cA 0, 2, .inl (upd tv w (-(nI (dg_v tn (at_ + 1 + 1) (dg_n tn cnt (at_ + 1 + 1) 5)))))))] _ := hP.sub [2, 3, 0, 1] rfl
        have hD9 : va_D A [(mo, .inr (8, [.int th, .ref ms, .ref mk, .ref mv, .int (nI mm), .int (nI ml), .int (nI cnt), .ref mt, .int mp, .int mn, .int (nI mu), .ref ma, .int (nI ((at_ + 1 + 1) + dg_n tn cnt (at_ + 1 + 1) 5)), .int (nI (nu_B 0 (dg_n tn cnt (at_ + 1 + 1) 5))), .int le, .int ob, .ref m1, .ref m2, .ref m3, .ref m4, .int (nI rn), .int (nI pw), .ref mc])), (mt, .inl (cA 0, 300, .inl (tx_A tn))), (m3, .inl (cA 0, 2, .inl (upd tk w (nI 1)))), (m4, .inl (cA 0, 2, .inl (upd tv w (-(nI (dg_v tn (at_ + 1 + 1) (dg_n tn cnt (at_ + 1 + 1) 5)))))))] := hD.sub [2, 3, 0, 1] (by decide) rfl
        exact W.vret hx hb hr (fun T9 ht hW => ⟨⟨(nu_B 0 (dg_n tn cnt (at_ + 1 + 1) 5), (at_ + 1 + 1) + dg_n tn cnt (at_ + 1 + 1) 5, upd tk w (nI 1), upd tv w (-(nI (dg_v tn (at_ + 1 + 1) (dg_n tn cnt (at_ + 1 + 1) 5))))), rfl, vl_ok (k := 1) q_e (by decide) (by rw [cl_R, if_neg q_h, if_pos q_m]) (by rw [cl_A, if_neg q_h, if_pos q_m]) (en_Vn (by decide) (dg_v5 tn _ cnt)) q_dc, by rw [ht]; exact hP9, hD9⟩, hS.F ht⟩) hS.2.2 xd_Mo_value_0_127
    · have q_h : tk_P tn cnt (at_ + 1) 35 := pk_tk (by decide) hv c_12_4
      refine lv_iconst (v := nI 1) hx hb xd_Mo_value_0_15 (by decide) ?_
      refine lv_goto (tgt := 20) hx hb xd_Mo_value_0_16 (by decide) ?_
      refine lv_istore_n (lv' := [(2, .int (nI 1)), (0, .ref mo), (1, .int (nI w))]) hx hb xd_Mo_value_0_20 rfl hl (by decide) rfl (fun ls hl => ?_)
      refine lv_aload_n hx hb xd_Mo_value_0_21 rfl (lv_at hl 1 rfl) ?_
      have hPc := hP.sub (ws' := [(mo, .inr (8, [.int th, .ref ms, .ref mk, .ref mv, .int (nI mm), .int (nI ml), .int (nI cnt), .ref mt, .int mp, .int mn, .int (nI mu), .ref ma, .int (nI (at_ + 1)), .int (nI 0), .int le, .int ob, .ref m1, .ref m2, .ref m3, .ref m4, .int (nI rn), .int (nI pw), .ref mc])), (mt, .inl (cA 0, 300, .inl (tx_A tn)))]) [2, 3] rfl
      refine vp_callSi (va_Run.run (va_runV (As := []) (rest := []) ⟨hx, hb, hml, hown, hts⟩ (ct_Mo_look l G cA mo th ms mk mv mm ml cnt mt mp mn mu ma (at_ + 1) (nI 0) le ob m1 m2 m3 m4 rn pw mc tn hc (by omega)) (cwV 0 hts (gi_v xm_708 xm_710 xs_Mo_look xm_9 xm_711) rfl rfl rfl ⟨rfl, xh_Mo_look⟩ ⟨Nat.le_of_ble_eq_true rfl, Nat.le_of_ble_eq_true rfl⟩) (pv_r hK hPc (ci := 8) (q0 := 0) rfl rfl) rfl rfl hl.1 rfl (lv_room (Nat.le_of_ble_eq_true rfl)) xd_Mo_value_0_22 ⟨Nat.le_of_ble_eq_true rfl, Nat.le_of_ble_eq_true rfl⟩)) (fun r_27 q_28 => ?_)
      refine lx_top (z := sp_pk tn cnt (at_ + 1)) (q_28) ?_
      refine lv_bipush (v := nI 45) hx hb xd_Mo_value_0_25 (by decide) ?_
      refine lv_icmp_ne (tgt := 34) hx hb xd_Mo_value_0_27 (by decide) (fun c_27_28 => ?_) (fun c_27_28 => absurd c_27_28 (fun z => absurd (q_h.2.symm.trans (pk_tk (by decide) hv z).2) (by decide)))
      refine lv_iconst (v := nI 0) hx hb xd_Mo_value_0_34 (by decide) ?_
      refine lv_istore_n (lv' := [(3, .int (nI 0)), (2, .int (nI 1)), (0, .ref mo), (1, .int (nI w))]) hx hb xd_Mo_value_0_35 rfl hl (by decide) rfl (fun ls hl => ?_)
      refine lv_aload_n hx hb xd_Mo_value_0_36 rfl (lv_at hl 2 rfl) ?_
      refine lv_aload_n hx hb xd_Mo_value_0_37 rfl (lv_at hl 2 rfl) ?_
      refine va_get (D := G) (ci := 8) (v := .int (nI 0)) (C := xc_Mo) (T := xf_Mo) (N := 23) hx hb hts xw_Mo hown hK.1 hP 2 rfl rfl 13 (by decide) (hts _ xm_632) (fun _ h9 => h9) rfl xd_Mo_value_0_38 ?_
      have q_l2 : at_ + 1 + 1 ≤ cnt := q_h.1
      refine lv_if_ne (tgt := 61) hx hb xd_Mo_value_0_41 (by decide) (fun c_41_29 => absurd (by decide) c_41_29) (fun c_41_29 => ?_)
      refine lv_iload_n hx hb xd_Mo_value_0_44 rfl (lv_at hl 1 rfl) ?_
      refine lv_if_ne (tgt := 52) hx hb xd_Mo_value_0_45 (by decide) (fun c_45_30 => ?_) (fun c_45_30 => absurd c_45_30 (by decide))
      refine lv_aload_n hx hb xd_Mo_value_0_52 rfl (lv_at hl 2 rfl) ?_
      refine va_get (D := G) (ci := 8) (v := .int (nI (at_ + 1))) (C := xc_Mo) (T := xf_Mo) (N := 23) hx hb hts xw_Mo hown hK.1 hP 2 rfl rfl 12 (by decide) (hts _ xm_631) (fun _ h9 => h9) rfl xd_Mo_value_0_53 ?_
      refine lv_iconst (v := nI 1) hx hb xd_Mo_value_0_56 (by decide) ?_
      refine lx_iadd (z := nI (at_ + 1 + 1)) hx hb xd_Mo_value_0_57 (nI_add _ _) ?_
      refine lv_goto (tgt := 65) hx hb xd_Mo_value_0_58 (by decide) ?_
      refine va_put (D := G) (ci := 8) (v := .int (nI (at_ + 1 + 1))) (ty := .int) (C := xc_Mo) (T := xf_Mo) (N := 23) hx hb hts xw_Mo xt_Mo xt_Mo_ok xn_Mo hown hK.1 hP hD hS 2 rfl rfl 12 (by decide) (hts _ xm_631) (fun _ h9 => h9) rfl (by decide +kernel) rfl rfl (Nat.le_of_ble_eq_true rfl) xd_Mo_value_0_65 (fun H locs hP hD hS => ?_)
      have hP : va_P G xk_cl [(m3, .inl (cA 0, 2, .inl tk)), (m4, .inl (cA 0, 2, .inl tv)), (mo, .inr (8, [.int th, .ref ms, .ref mk, .ref mv, .int (nI mm), .int (nI ml), .int (nI cnt), .ref mt, .int mp, .int mn, .int (nI mu), .ref ma, .int (nI (at_ + 1 + 1)), .int (nI 0), .int le, .int ob, .ref m1, .ref m2, .ref m3, .ref m4, .int (nI rn), .int (nI pw), .ref mc])), (mt, .inl (cA 0, 300, .inl (tx_A tn)))] H := hP
      have hD : va_D A [(m3, .inl (cA 0, 2, .inl tk)), (m4, .inl (cA 0, 2, .inl tv)), (mo, .inr (8, [.int th, .ref ms, .ref mk, .ref mv, .int (nI mm), .int (nI ml), .int (nI cnt), .ref mt, .int mp, .int mn, .int (nI mu), .ref ma, .int (nI (at_ + 1 + 1)), .int (nI 0), .int le, .int ob, .ref m1, .ref m2, .ref m3, .ref m4, .int (nI rn), .int (nI pw), .ref mc])), (mt, .inl (cA 0, 300, .inl (tx_A tn)))] := hD
      refine lv_aload_n hx hb xd_Mo_value_0_68 rfl (lv_at hl 2 rfl) ?_
      refine va_get (D := G) (ci := 8) (v := .int (nI 0)) (C := xc_Mo) (T := xf_Mo) (N := 23) hx hb hts xw_Mo hown hK.1 hP 2 rfl rfl 13 (by decide) (hts _ xm_632) (fun _ h9 => h9) rfl xd_Mo_value_0_69 ?_
      refine lv_if_eq (tgt := 79) hx hb xd_Mo_value_0_72 (by decide) (fun c_72_31 => ?_) (fun c_72_31 => absurd (by decide) c_72_31)
      refine lv_aload_n hx hb xd_Mo_value_0_79 rfl (lv_at hl 2 rfl) ?_
      refine lv_iload_n hx hb xd_Mo_value_0_80 rfl (lv_at hl 1 rfl) ?_
      refine lv_if_eq (tgt := 88) hx hb xd_Mo_value_0_81 (by decide) (fun c_81_32 => absurd c_81_32 (by decide)) (fun c_81_32 => ?_)
      refine lv_iconst (v := nI 2) hx hb xd_Mo_value_0_84 (by decide) ?_
      refine lv_goto (tgt := 89) hx hb xd_Mo_value_0_85 (by decide) ?_
      have hPc := hP.sub (ws' := [(mo, .inr (8, [.int th, .ref ms, .ref mk, .ref mv, .int (nI mm), .int (nI ml), .int (nI cnt), .ref mt, .int mp, .int mn, .int (nI mu), .ref ma, .int (nI (at_ + 1 + 1)), .int (nI 0), .int le, .int ob, .ref m1, .ref m2, .ref m3, .ref m4, .int (nI rn), .int (nI pw), .ref mc])), (mt, .inl (cA 0, 300, .inl (tx_A tn)))]) [2, 3] rfl
      have hDc := hD.sub (ws' := [(mo, .inr (8, [.int th, .ref ms, .ref mk, .ref mv, .int (nI mm), .int (nI ml), .int (nI cnt), .ref mt, .int mp, .int mn, .int (nI mu), .ref ma, .int (nI (at_ + 1 + 1)), .int (nI 0), .int le, .int ob, .ref m1, .ref m2, .ref m3, .ref m4, .int (nI rn), .int (nI pw), .ref mc])), (mt, .inl (cA 0, 300, .inl (tx_A tn)))]) [2, 3] (by decide) rfl
      have hFc := va_free (wc := [(mo, .inr (8, [.int th, .ref ms, .ref mk, .ref mv, .int (nI mm), .int (nI ml), .int (nI cnt), .ref mt, .int mp, .int mn, .int (nI mu), .ref ma, .int (nI (at_ + 1 + 1)), .int (nI 0), .int le, .int ob, .ref m1, .ref m2, .ref m3, .ref m4, .int (nI rn), .int (nI pw), .ref mc])), (mt, .inl (cA 0, 300, .inl (tx_A tn)))]) hD hS hA [2, 3] rfl
      refine va_calli (va_runV (As := [.int (nI 2)]) (rest := []) ⟨hx, hb, hml, hown, hts⟩ (ct_Mo_number l G cA H.size mo th ms mk mv mm ml cnt mt mp mn mu ma (at_ + 1 + 1) le ob m1 m2 m3 m4 rn pw mc 0 tn hc (by omega) hv (by omega) 2 (by omega) (by omega)) (cwV 1 hts (gi_v xm_720 xm_722 xs_Mo_number xm_9 xm_723) rfl rfl rfl ⟨rfl, xh_Mo_number⟩ ⟨Nat.le_of_ble_eq_true rfl, Nat.le_of_ble_eq_true rfl⟩) (pv_w hK hPc hDc (ci := 8) (q0 := 0) rfl rfl) rfl rfl hl.1 rfl (lv_room (Nat.le_of_ble_eq_true rfl)) xd_Mo_value_0_89 ⟨Nat.le_of_ble_eq_true rfl, Nat.le_of_ble_eq_true rfl⟩) hS (fun q _ h => hFc q h) hFc (fun r_34 u9 t9 H1 locs ht hvm q_35 hB hz1 hk1 hS => ?_)
      obtain ⟨hP1, hD1⟩ := hB
      rw [ht] at hP1
      obtain ⟨hP, hD⟩ := va_join (wr := [(m3, .inl (cA 0, 2, .inl tk)), (m4, .inl (cA 0, 2, .inl tv))]) (w1 := [(mo, .inr (8, [.int th, .ref ms, .ref mk, .ref mv, .int (nI mm), .int (nI ml), .int (nI cnt), .ref mt, .int mp, .int mn, .int (nI mu), .ref ma, .int (nI ((at_ + 1 + 1) + dg_n tn cnt (at_ + 1 + 1) 2)), .int (nI (nu_B 0 (dg_n tn cnt (at_ + 1 + 1) 2))), .int le, .int ob, .ref m1, .ref m2, .ref m3, .ref m4, .int (nI rn), .int (nI pw), .ref mc])), (mt, .inl (cA 0, 300, .inl (tx_A tn)))]) hP hD [2, 3] [0, 1] rfl rfl (by decide) (by decide) hk1 hFc hP1 hD1
      generalize H1 = H at hP hS ⊢
      have hP : va_P G xk_cl [(m3, .inl (cA 0, 2, .inl tk)), (m4, .inl (cA 0, 2, .inl tv)), (mo, .inr (8, [.int th, .ref ms, .ref mk, .ref mv, .int (nI mm), .int (nI ml), .int (nI cnt), .ref mt, .int mp, .int mn, .int (nI mu), .ref ma, .int (nI ((at_ + 1 + 1) + dg_n tn cnt (at_ + 1 + 1) 2)), .int (nI (nu_B 0 (dg_n tn cnt (at_ + 1 + 1) 2))), .int le, .int ob, .ref m1, .ref m2, .ref m3, .ref m4, .int (nI rn), .int (nI pw), .ref mc])), (mt, .inl (cA 0, 300, .inl (tx_A tn)))] H := hP
      have hD : va_D A [(m3, .inl (cA 0, 2, .inl tk)), (m4, .inl (cA 0, 2, .inl tv)), (mo, .inr (8, [.int th, .ref ms, .ref mk, .ref mv, .int (nI mm), .int (nI ml), .int (nI cnt), .ref mt, .int mp, .int mn, .int (nI mu), .ref ma, .int (nI ((at_ + 1 + 1) + dg_n tn cnt (at_ + 1 + 1) 2)), .int (nI (nu_B 0 (dg_n tn cnt (at_ + 1 + 1) 2))), .int le, .int ob, .ref m1, .ref m2, .ref m3, .ref m4, .int (nI rn), .int (nI pw), .ref mc])), (mt, .inl (cA 0, 300, .inl (tx_A tn)))] := hD
      refine lx_top (z := nI (dg_v tn (at_ + 1 + 1) (dg_n tn cnt (at_ + 1 + 1) 2))) (q_35) ?_
      refine lv_istore (lv' := [(4, .int (nI (dg_v tn (at_ + 1 + 1) (dg_n tn cnt (at_ + 1 + 1) 2)))), (3, .int (nI 0)), (2, .int (nI 1)), (0, .ref mo), (1, .int (nI w))]) hx hb xd_Mo_value_0_92 hl (by decide) rfl (fun ls hl => ?_)
      have q_dc := dg_n_cnt tn cnt (at_ + 1 + 1) (by omega) 2
      refine lv_aload_n hx hb xd_Mo_value_0_94 rfl (lv_at hl 3 rfl) ?_
      refine va_get (D := G) (ci := 8) (v := .ref m3) (C := xc_Mo) (T := xf_Mo) (N := 23) hx hb hts xw_Mo hown hK.1 hP 2 rfl rfl 18 (by decide) (hts _ xm_637) (fun _ h9 => h9) rfl xd_Mo_value_0_95 ?_
      refine lv_iload_n hx hb xd_Mo_value_0_98 rfl (lv_at hl 4 rfl) ?_
      refine lv_iload_n hx hb xd_Mo_value_0_99 rfl (lv_at hl 2 rfl) ?_
      refine lv_if_eq (tgt := 107) hx hb xd_Mo_value_0_100 (by decide) (fun c_100_35 => absurd c_100_35 (by decide)) (fun c_100_35 => ?_)
      refine lv_iconst (v := nI 2) hx hb xd_Mo_value_0_103 (by decide) ?_
      refine lv_goto (tgt := 108) hx hb xd_Mo_value_0_104 (by decide) ?_
      refine wx_iast hx hb hK.1 hP hD hS 0 0 rfl rfl (k := w) (z := nI 2) (rfl) (by omega) (by decide) xd_Mo_value_0_108 (fun H locs hP hD hS => ?_)
      have hP : va_P G xk_cl [(m3, .inl (cA 0, 2, .inl (upd tk w (nI 2)))), (m4, .inl (cA 0, 2, .inl tv)), (mo, .inr (8, [.int th, .ref ms, .ref mk, .ref mv, .int (nI mm), .int (nI ml), .int (nI cnt), .ref mt, .int mp, .int mn, .int (nI mu), .ref ma, .int (nI ((at_ + 1 + 1) + dg_n tn cnt (at_ + 1 + 1) 2)), .int (nI (nu_B 0 (dg_n tn cnt (at_ + 1 + 1) 2))), .int le, .int ob, .ref m1, .ref m2, .ref m3, .ref m4, .int (nI rn), .int (nI pw), .ref mc])), (mt, .inl (cA 0, 300, .inl (tx_A tn)))] H := hP
      have hD : va_D A [(m3, .inl (cA 0, 2, .inl (upd tk w (nI 2)))), (m4, .inl (cA 0, 2, .inl tv)), (mo, .inr (8, [.int th, .ref ms, .ref mk, .ref mv, .int (nI mm), .int (nI ml), .int (nI cnt), .ref mt, .int mp, .int mn, .int (nI mu), .ref ma, .int (nI ((at_ + 1 + 1) + dg_n tn cnt (at_ + 1 + 1) 2)), .int (nI (nu_B 0 (dg_n tn cnt (at_ + 1 + 1) 2))), .int le, .int ob, .ref m1, .ref m2, .ref m3, .ref m4, .int (nI rn), .int (nI pw), .ref mc])), (mt, .inl (cA 0, 300, .inl (tx_A tn)))] := hD
      refine lv_aload_n hx hb xd_Mo_value_0_109 rfl (lv_at hl 3 rfl) ?_
      refine va_get (D := G) (ci := 8) (v := .ref m4) (C := xc_Mo) (T := xf_Mo) (N := 23) hx hb hts xw_Mo hown hK.1 hP 2 rfl rfl 19 (by decide) (hts _ xm_638) (fun _ h9 => h9) rfl xd_Mo_value_0_110 ?_
      refine lv_iload_n hx hb xd_Mo_value_0_113 rfl (lv_at hl 4 rfl) ?_
      refine lv_iload_n hx hb xd_Mo_value_0_114 rfl (lv_at hl 1 rfl) ?_
      refine lv_if_eq (tgt := 124) hx hb xd_Mo_value_0_115 (by decide) (fun c_115_36 => ?_) (fun c_115_36 => absurd (by decide) c_115_36)
      refine lv_iload hx hb xd_Mo_value_0_124 (lv_at hl 0 rfl) ?_
      refine wx_iast hx hb hK.1 hP hD hS 1 0 rfl rfl (k := w) (z := nI (dg_v tn (at_ + 1 + 1) (dg_n tn cnt (at_ + 1 + 1) 2))) (rfl) (by omega) (by decide) xd_Mo_value_0_126 (fun H locs hP hD hS => ?_)
      have hP : va_P G xk_cl [(m3, .inl (cA 0, 2, .inl (upd tk w (nI 2)))), (m4, .inl (cA 0, 2, .inl (upd tv w (nI (dg_v tn (at_ + 1 + 1) (dg_n tn cnt (at_ + 1 + 1) 2)))))), (mo, .inr (8, [.int th, .ref ms, .ref mk, .ref mv, .int (nI mm), .int (nI ml), .int (nI cnt), .ref mt, .int mp, .int mn, .int (nI mu), .ref ma, .int (nI ((at_ + 1 + 1) + dg_n tn cnt (at_ + 1 + 1) 2)), .int (nI (nu_B 0 (dg_n tn cnt (at_ + 1 + 1) 2))), .int le, .int ob, .ref m1, .ref m2, .ref m3, .ref m4, .int (nI rn), .int (nI pw), .ref mc])), (mt, .inl (cA 0, 300, .inl (tx_A tn)))] H := hP
      have hD : va_D A [(m3, .inl (cA 0, 2, .inl (upd tk w (nI 2)))), (m4, .inl (cA 0, 2, .inl (upd tv w (nI (dg_v tn (at_ + 1 + 1) (dg_n tn cnt (at_ + 1 + 1) 2)))))), (mo, .inr (8, [.int th, .ref ms, .ref mk, .ref mv, .int (nI mm), .int (nI ml), .int (nI cnt), .ref mt, .int mp, .int mn, .int (nI mu), .ref ma, .int (nI ((at_ + 1 + 1) + dg_n tn cnt (at_ + 1 + 1) 2)), .int (nI (nu_B 0 (dg_n tn cnt (at_ + 1 + 1) 2))), .int le, .int ob, .ref m1, .ref m2, .ref m3, .ref m4, .int (nI rn), .int (nI pw), .ref mc])), (mt, .inl (cA 0, 300, .inl (tx_A tn)))] := hD
      have hP9 : va_P G xk_cl [(mo, .inr (8, [.int th, .ref ms, .ref mk, .ref mv, .int (nI mm), .int (nI ml), .int (nI cnt), .ref mt, .int mp, .int mn, .int (nI mu), .ref ma, .int (nI ((at_ + 1 + 1) + dg_n tn cnt (at_ + 1 + 1) 2)), .int (nI (nu_B 0 (dg_n tn cnt (at_ + 1 + 1) 2))), .int le, .int ob, .ref m1, .ref m2, .ref m3, .ref m4, .int (nI rn), .int (nI pw), .ref mc])), (mt, .inl (cA 0, 300, .inl (tx_A tn))), (m3, .inl (cA 0, 2, .inl (upd tk w (nI 2)))), (m4, .inl (cA 0, 2, .inl (upd tv w (nI (dg_v tn (at_ + 1 + 1) (dg_n tn cnt (at_ + 1 + 1) 2))))))] _ := hP.sub [2, 3, 0, 1] rfl
      have hD9 : va_D A [(mo, .inr (8, [.int th, .ref ms, .ref mk, .ref mv, .int (nI mm), .int (nI ml), .int (nI cnt), .ref mt, .int mp, .int mn, .int (nI mu), .ref ma, .int (nI ((at_ + 1 + 1) + dg_n tn cnt (at_ + 1 + 1) 2)), .int (nI (nu_B 0 (dg_n tn cnt (at_ + 1 + 1) 2))), .int le, .int ob, .ref m1, .ref m2, .ref m3, .ref m4, .int (nI rn), .int (nI pw), .ref mc])), (mt, .inl (cA 0, 300, .inl (tx_A tn))), (m3, .inl (cA 0, 2, .inl (upd tk w (nI 2)))), (m4, .inl (cA 0, 2, .inl (upd tv w (nI (dg_v tn (at_ + 1 + 1) (dg_n tn cnt (at_ + 1 + 1) 2))))))] := hD.sub [2, 3, 0, 1] (by decide) rfl
      exact W.vret hx hb hr (fun T9 ht hW => ⟨⟨(nu_B 0 (dg_n tn cnt (at_ + 1 + 1) 2), (at_ + 1 + 1) + dg_n tn cnt (at_ + 1 + 1) 2, upd tk w (nI 2), upd tv w (nI (dg_v tn (at_ + 1 + 1) (dg_n tn cnt (at_ + 1 + 1) 2)))), rfl, vl_ok (k := 2) q_e (by decide) (by rw [cl_R, if_pos q_h]) (by rw [cl_A, if_pos q_h]) (en_Vp (by decide) (dg_v2 tn _ cnt)) q_dc, by rw [ht]; exact hP9, hD9⟩, hS.F ht⟩) hS.2.2 xd_Mo_value_0_127
  · rw [ea_B, if_neg q_e, ea_A, if_neg q_e] at hP hD
    have hP : va_P G xk_cl [(m3, .inl (cA 0, 2, .inl tk)), (m4, .inl (cA 0, 2, .inl tv)), (mo, .inr (8, [.int th, .ref ms, .ref mk, .ref mv, .int (nI mm), .int (nI ml), .int (nI cnt), .ref mt, .int mp, .int mn, .int (nI mu), .ref ma, .int (nI at_), .int (nI 1), .int le, .int ob, .ref m1, .ref m2, .ref m3, .ref m4, .int (nI rn), .int (nI pw), .ref mc])), (mt, .inl (cA 0, 300, .inl (tx_A tn)))] H := hP
    have hD : va_D A [(m3, .inl (cA 0, 2, .inl tk)), (m4, .inl (cA 0, 2, .inl tv)), (mo, .inr (8, [.int th, .ref ms, .ref mk, .ref mv, .int (nI mm), .int (nI ml), .int (nI cnt), .ref mt, .int mp, .int mn, .int (nI mu), .ref ma, .int (nI at_), .int (nI 1), .int le, .int ob, .ref m1, .ref m2, .ref m3, .ref m4, .int (nI rn), .int (nI pw), .ref mc])), (mt, .inl (cA 0, 300, .inl (tx_A tn)))] := hD
    refine lv_aload_n hx hb xd_Mo_value_0_6 rfl (lv_at hl 0 rfl) ?_
    have hPc := hP.sub (ws' := [(mo, .inr (8, [.int th, .ref ms, .ref mk, .ref mv, .int (nI mm), .int (nI ml), .int (nI cnt), .ref mt, .int mp, .int mn, .int (nI mu), .ref ma, .int (nI at_), .int (nI 1), .int le, .int ob, .ref m1, .ref m2, .ref m3, .ref m4, .int (nI rn), .int (nI pw), .ref mc])), (mt, .inl (cA 0, 300, .inl (tx_A tn)))]) [2, 3] rfl
    refine vp_callSi (va_Run.run (va_runV (As := []) (rest := []) ⟨hx, hb, hml, hown, hts⟩ (ct_Mo_look l G cA mo th ms mk mv mm ml cnt mt mp mn mu ma at_ (nI 1) le ob m1 m2 m3 m4 rn pw mc tn hc (by omega)) (cwV 0 hts (gi_v xm_708 xm_710 xs_Mo_look xm_9 xm_711) rfl rfl rfl ⟨rfl, xh_Mo_look⟩ ⟨Nat.le_of_ble_eq_true rfl, Nat.le_of_ble_eq_true rfl⟩) (pv_r hK hPc (ci := 8) (q0 := 0) rfl rfl) rfl rfl hl.1 rfl (lv_room (Nat.le_of_ble_eq_true rfl)) xd_Mo_value_0_7 ⟨Nat.le_of_ble_eq_true rfl, Nat.le_of_ble_eq_true rfl⟩)) (fun r_38 q_39 => ?_)
    refine lx_top (z := sp_pk tn cnt at_) (q_39) ?_
    refine lv_bipush (v := nI 35) hx hb xd_Mo_value_0_10 (by decide) ?_
    refine lv_icmp_ne (tgt := 19) hx hb xd_Mo_value_0_12 (by decide) (fun c_12_39 => ?_) (fun c_12_39 => ?_)
    · have q_h : ¬ tk_P tn cnt (at_) 35 := pk_nt c_12_39
      refine lv_iconst (v := nI 0) hx hb xd_Mo_value_0_19 (by decide) ?_
      refine lv_istore_n (lv' := [(2, .int (nI 0)), (0, .ref mo), (1, .int (nI w))]) hx hb xd_Mo_value_0_20 rfl hl (by decide) rfl (fun ls hl => ?_)
      refine lv_aload_n hx hb xd_Mo_value_0_21 rfl (lv_at hl 1 rfl) ?_
      have hPc := hP.sub (ws' := [(mo, .inr (8, [.int th, .ref ms, .ref mk, .ref mv, .int (nI mm), .int (nI ml), .int (nI cnt), .ref mt, .int mp, .int mn, .int (nI mu), .ref ma, .int (nI at_), .int (nI 1), .int le, .int ob, .ref m1, .ref m2, .ref m3, .ref m4, .int (nI rn), .int (nI pw), .ref mc])), (mt, .inl (cA 0, 300, .inl (tx_A tn)))]) [2, 3] rfl
      refine vp_callSi (va_Run.run (va_runV (As := []) (rest := []) ⟨hx, hb, hml, hown, hts⟩ (ct_Mo_look l G cA mo th ms mk mv mm ml cnt mt mp mn mu ma at_ (nI 1) le ob m1 m2 m3 m4 rn pw mc tn hc (by omega)) (cwV 0 hts (gi_v xm_708 xm_710 xs_Mo_look xm_9 xm_711) rfl rfl rfl ⟨rfl, xh_Mo_look⟩ ⟨Nat.le_of_ble_eq_true rfl, Nat.le_of_ble_eq_true rfl⟩) (pv_r hK hPc (ci := 8) (q0 := 0) rfl rfl) rfl rfl hl.1 rfl (lv_room (Nat.le_of_ble_eq_true rfl)) xd_Mo_value_0_22 ⟨Nat.le_of_ble_eq_true rfl, Nat.le_of_ble_eq_true rfl⟩)) (fun r_41 q_42 => ?_)
      refine lx_top (z := sp_pk tn cnt at_) (q_42) ?_
      refine lv_bipush (v := nI 45) hx hb xd_Mo_value_0_25 (by decide) ?_
      refine lv_icmp_ne (tgt := 34) hx hb xd_Mo_value_0_27 (by decide) (fun c_27_42 => ?_) (fun c_27_42 => ?_)
      · have q_m : ¬ tk_P tn cnt (at_) 45 := pk_nt c_27_42
        refine lv_iconst (v := nI 0) hx hb xd_Mo_value_0_34 (by decide) ?_
        refine lv_istore_n (lv' := [(3, .int (nI 0)), (2, .int (nI 0)), (0, .ref mo), (1, .int (nI w))]) hx hb xd_Mo_value_0_35 rfl hl (by decide) rfl (fun ls hl => ?_)
        refine lv_aload_n hx hb xd_Mo_value_0_36 rfl (lv_at hl 2 rfl) ?_
        refine lv_aload_n hx hb xd_Mo_value_0_37 rfl (lv_at hl 2 rfl) ?_
        refine va_get (D := G) (ci := 8) (v := .int (nI 1)) (C := xc_Mo) (T := xf_Mo) (N := 23) hx hb hts xw_Mo hown hK.1 hP 2 rfl rfl 13 (by decide) (hts _ xm_632) (fun _ h9 => h9) rfl xd_Mo_value_0_38 ?_
        refine lv_if_ne (tgt := 61) hx hb xd_Mo_value_0_41 (by decide) (fun c_41_43 => ?_) (fun c_41_43 => absurd c_41_43 (by decide))
        refine lv_aload_n hx hb xd_Mo_value_0_61 rfl (lv_at hl 2 rfl) ?_
        refine va_get (D := G) (ci := 8) (v := .int (nI at_)) (C := xc_Mo) (T := xf_Mo) (N := 23) hx hb hts xw_Mo hown hK.1 hP 2 rfl rfl 12 (by decide) (hts _ xm_631) (fun _ h9 => h9) rfl xd_Mo_value_0_62 ?_
        refine va_put (D := G) (ci := 8) (v := .int (nI at_)) (ty := .int) (C := xc_Mo) (T := xf_Mo) (N := 23) hx hb hts xw_Mo xt_Mo xt_Mo_ok xn_Mo hown hK.1 hP hD hS 2 rfl rfl 12 (by decide) (hts _ xm_631) (fun _ h9 => h9) rfl (by decide +kernel) rfl rfl (Nat.le_of_ble_eq_true rfl) xd_Mo_value_0_65 (fun H locs hP hD hS => ?_)
        have hP : va_P G xk_cl [(m3, .inl (cA 0, 2, .inl tk)), (m4, .inl (cA 0, 2, .inl tv)), (mo, .inr (8, [.int th, .ref ms, .ref mk, .ref mv, .int (nI mm), .int (nI ml), .int (nI cnt), .ref mt, .int mp, .int mn, .int (nI mu), .ref ma, .int (nI at_), .int (nI 1), .int le, .int ob, .ref m1, .ref m2, .ref m3, .ref m4, .int (nI rn), .int (nI pw), .ref mc])), (mt, .inl (cA 0, 300, .inl (tx_A tn)))] H := hP
        have hD : va_D A [(m3, .inl (cA 0, 2, .inl tk)), (m4, .inl (cA 0, 2, .inl tv)), (mo, .inr (8, [.int th, .ref ms, .ref mk, .ref mv, .int (nI mm), .int (nI ml), .int (nI cnt), .ref mt, .int mp, .int mn, .int (nI mu), .ref ma, .int (nI at_), .int (nI 1), .int le, .int ob, .ref m1, .ref m2, .ref m3, .ref m4, .int (nI rn), .int (nI pw), .ref mc])), (mt, .inl (cA 0, 300, .inl (tx_A tn)))] := hD
        refine lv_aload_n hx hb xd_Mo_value_0_68 rfl (lv_at hl 2 rfl) ?_
        refine va_get (D := G) (ci := 8) (v := .int (nI 1)) (C := xc_Mo) (T := xf_Mo) (N := 23) hx hb hts xw_Mo hown hK.1 hP 2 rfl rfl 13 (by decide) (hts _ xm_632) (fun _ h9 => h9) rfl xd_Mo_value_0_69 ?_
        refine lv_if_eq (tgt := 79) hx hb xd_Mo_value_0_72 (by decide) (fun c_72_44 => absurd c_72_44 (by decide)) (fun c_72_44 => ?_)
        refine lv_iconst (v := nI 0) hx hb xd_Mo_value_0_75 (by decide) ?_
        refine lv_goto (tgt := 92) hx hb xd_Mo_value_0_76 (by decide) ?_
        refine lv_istore (lv' := [(4, .int (nI 0)), (3, .int (nI 0)), (2, .int (nI 0)), (0, .ref mo), (1, .int (nI w))]) hx hb xd_Mo_value_0_92 hl (by decide) rfl (fun ls hl => ?_)
        refine lv_aload_n hx hb xd_Mo_value_0_94 rfl (lv_at hl 3 rfl) ?_
        refine va_get (D := G) (ci := 8) (v := .ref m3) (C := xc_Mo) (T := xf_Mo) (N := 23) hx hb hts xw_Mo hown hK.1 hP 2 rfl rfl 18 (by decide) (hts _ xm_637) (fun _ h9 => h9) rfl xd_Mo_value_0_95 ?_
        refine lv_iload_n hx hb xd_Mo_value_0_98 rfl (lv_at hl 4 rfl) ?_
        refine lv_iload_n hx hb xd_Mo_value_0_99 rfl (lv_at hl 2 rfl) ?_
        refine lv_if_eq (tgt := 107) hx hb xd_Mo_value_0_100 (by decide) (fun c_100_45 => ?_) (fun c_100_45 => absurd (by decide) c_100_45)
        refine lv_iconst (v := nI 1) hx hb xd_Mo_value_0_107 (by decide) ?_
        refine wx_iast hx hb hK.1 hP hD hS 0 0 rfl rfl (k := w) (z := nI 1) (rfl) (by omega) (by decide) xd_Mo_value_0_108 (fun H locs hP hD hS => ?_)
        have hP : va_P G xk_cl [(m3, .inl (cA 0, 2, .inl (upd tk w (nI 1)))), (m4, .inl (cA 0, 2, .inl tv)), (mo, .inr (8, [.int th, .ref ms, .ref mk, .ref mv, .int (nI mm), .int (nI ml), .int (nI cnt), .ref mt, .int mp, .int mn, .int (nI mu), .ref ma, .int (nI at_), .int (nI 1), .int le, .int ob, .ref m1, .ref m2, .ref m3, .ref m4, .int (nI rn), .int (nI pw), .ref mc])), (mt, .inl (cA 0, 300, .inl (tx_A tn)))] H := hP
        have hD : va_D A [(m3, .inl (cA 0, 2, .inl (upd tk w (nI 1)))), (m4, .inl (cA 0, 2, .inl tv)), (mo, .inr (8, [.int th, .ref ms, .ref mk, .ref mv, .int (nI mm), .int (nI ml), .int (nI cnt), .ref mt, .int mp, .int mn, .int (nI mu), .ref ma, .int (nI at_), .int (nI 1), .int le, .int ob, .ref m1, .ref m2, .ref m3, .ref m4, .int (nI rn), .int (nI pw), .ref mc])), (mt, .inl (cA 0, 300, .inl (tx_A tn)))] := hD
        refine lv_aload_n hx hb xd_Mo_value_0_109 rfl (lv_at hl 3 rfl) ?_
        refine va_get (D := G) (ci := 8) (v := .ref m4) (C := xc_Mo) (T := xf_Mo) (N := 23) hx hb hts xw_Mo hown hK.1 hP 2 rfl rfl 19 (by decide) (hts _ xm_638) (fun _ h9 => h9) rfl xd_Mo_value_0_110 ?_
        refine lv_iload_n hx hb xd_Mo_value_0_113 rfl (lv_at hl 4 rfl) ?_
        refine lv_iload_n hx hb xd_Mo_value_0_114 rfl (lv_at hl 1 rfl) ?_
        refine lv_if_eq (tgt := 124) hx hb xd_Mo_value_0_115 (by decide) (fun c_115_46 => ?_) (fun c_115_46 => absurd (by decide) c_115_46)
        refine lv_iload hx hb xd_Mo_value_0_124 (lv_at hl 0 rfl) ?_
        refine wx_iast hx hb hK.1 hP hD hS 1 0 rfl rfl (k := w) (z := nI 0) (rfl) (by omega) (by decide) xd_Mo_value_0_126 (fun H locs hP hD hS => ?_)
        have hP : va_P G xk_cl [(m3, .inl (cA 0, 2, .inl (upd tk w (nI 1)))), (m4, .inl (cA 0, 2, .inl (upd tv w (nI 0)))), (mo, .inr (8, [.int th, .ref ms, .ref mk, .ref mv, .int (nI mm), .int (nI ml), .int (nI cnt), .ref mt, .int mp, .int mn, .int (nI mu), .ref ma, .int (nI at_), .int (nI 1), .int le, .int ob, .ref m1, .ref m2, .ref m3, .ref m4, .int (nI rn), .int (nI pw), .ref mc])), (mt, .inl (cA 0, 300, .inl (tx_A tn)))] H := hP
        have hD : va_D A [(m3, .inl (cA 0, 2, .inl (upd tk w (nI 1)))), (m4, .inl (cA 0, 2, .inl (upd tv w (nI 0)))), (mo, .inr (8, [.int th, .ref ms, .ref mk, .ref mv, .int (nI mm), .int (nI ml), .int (nI cnt), .ref mt, .int mp, .int mn, .int (nI mu), .ref ma, .int (nI at_), .int (nI 1), .int le, .int ob, .ref m1, .ref m2, .ref m3, .ref m4, .int (nI rn), .int (nI pw), .ref mc])), (mt, .inl (cA 0, 300, .inl (tx_A tn)))] := hD
        have hP9 : va_P G xk_cl [(mo, .inr (8, [.int th, .ref ms, .ref mk, .ref mv, .int (nI mm), .int (nI ml), .int (nI cnt), .ref mt, .int mp, .int mn, .int (nI mu), .ref ma, .int (nI at_), .int (nI 1), .int le, .int ob, .ref m1, .ref m2, .ref m3, .ref m4, .int (nI rn), .int (nI pw), .ref mc])), (mt, .inl (cA 0, 300, .inl (tx_A tn))), (m3, .inl (cA 0, 2, .inl (upd tk w (nI 1)))), (m4, .inl (cA 0, 2, .inl (upd tv w (nI 0))))] _ := hP.sub [2, 3, 0, 1] rfl
        have hD9 : va_D A [(mo, .inr (8, [.int th, .ref ms, .ref mk, .ref mv, .int (nI mm), .int (nI ml), .int (nI cnt), .ref mt, .int mp, .int mn, .int (nI mu), .ref ma, .int (nI at_), .int (nI 1), .int le, .int ob, .ref m1, .ref m2, .ref m3, .ref m4, .int (nI rn), .int (nI pw), .ref mc])), (mt, .inl (cA 0, 300, .inl (tx_A tn))), (m3, .inl (cA 0, 2, .inl (upd tk w (nI 1)))), (m4, .inl (cA 0, 2, .inl (upd tv w (nI 0))))] := hD.sub [2, 3, 0, 1] (by decide) rfl
        exact W.vret hx hb hr (fun T9 ht hW => ⟨⟨(1, at_, upd tk w (nI 1), upd tv w (nI 0)), rfl, vl_bad q_e hac, by rw [ht]; exact hP9, hD9⟩, hS.F ht⟩) hS.2.2 xd_Mo_value_0_127
      · have q_m : tk_P tn cnt (at_) 45 := pk_tk (by decide) hv c_27_42
        refine lv_iconst (v := nI 1) hx hb xd_Mo_value_0_30 (by decide) ?_
        refine lv_goto (tgt := 35) hx hb xd_Mo_value_0_31 (by decide) ?_
        refine lv_istore_n (lv' := [(3, .int (nI 1)), (2, .int (nI 0)), (0, .ref mo), (1, .int (nI w))]) hx hb xd_Mo_value_0_35 rfl hl (by decide) rfl (fun ls hl => ?_)
        refine lv_aload_n hx hb xd_Mo_value_0_36 rfl (lv_at hl 2 rfl) ?_
        refine lv_aload_n hx hb xd_Mo_value_0_37 rfl (lv_at hl 2 rfl) ?_
        refine va_get (D := G) (ci := 8) (v := .int (nI 1)) (C := xc_Mo) (T := xf_Mo) (N := 23) hx hb hts xw_Mo hown hK.1 hP 2 rfl rfl 13 (by decide) (hts _ xm_632) (fun _ h9 => h9) rfl xd_Mo_value_0_38 ?_
        refine lv_if_ne (tgt := 61) hx hb xd_Mo_value_0_41 (by decide) (fun c_41_47 => ?_) (fun c_41_47 => absurd c_41_47 (by decide))
        refine lv_aload_n hx hb xd_Mo_value_0_61 rfl (lv_at hl 2 rfl) ?_
        refine va_get (D := G) (ci := 8) (v := .int (nI at_)) (C := xc_Mo) (T := xf_Mo) (N := 23) hx hb hts xw_Mo hown hK.1 hP 2 rfl rfl 12 (by decide) (hts _ xm_631) (fun _ h9 => h9) rfl xd_Mo_value_0_62 ?_
        refine va_put (D := G) (ci := 8) (v := .int (nI at_)) (ty := .int) (C := xc_Mo) (T := xf_Mo) (N := 23) hx hb hts xw_Mo xt_Mo xt_Mo_ok xn_Mo hown hK.1 hP hD hS 2 rfl rfl 12 (by decide) (hts _ xm_631) (fun _ h9 => h9) rfl (by decide +kernel) rfl rfl (Nat.le_of_ble_eq_true rfl) xd_Mo_value_0_65 (fun H locs hP hD hS => ?_)
        have hP : va_P G xk_cl [(m3, .inl (cA 0, 2, .inl tk)), (m4, .inl (cA 0, 2, .inl tv)), (mo, .inr (8, [.int th, .ref ms, .ref mk, .ref mv, .int (nI mm), .int (nI ml), .int (nI cnt), .ref mt, .int mp, .int mn, .int (nI mu), .ref ma, .int (nI at_), .int (nI 1), .int le, .int ob, .ref m1, .ref m2, .ref m3, .ref m4, .int (nI rn), .int (nI pw), .ref mc])), (mt, .inl (cA 0, 300, .inl (tx_A tn)))] H := hP
        have hD : va_D A [(m3, .inl (cA 0, 2, .inl tk)), (m4, .inl (cA 0, 2, .inl tv)), (mo, .inr (8, [.int th, .ref ms, .ref mk, .ref mv, .int (nI mm), .int (nI ml), .int (nI cnt), .ref mt, .int mp, .int mn, .int (nI mu), .ref ma, .int (nI at_), .int (nI 1), .int le, .int ob, .ref m1, .ref m2, .ref m3, .ref m4, .int (nI rn), .int (nI pw), .ref mc])), (mt, .inl (cA 0, 300, .inl (tx_A tn)))] := hD
        refine lv_aload_n hx hb xd_Mo_value_0_68 rfl (lv_at hl 2 rfl) ?_
        refine va_get (D := G) (ci := 8) (v := .int (nI 1)) (C := xc_Mo) (T := xf_Mo) (N := 23) hx hb hts xw_Mo hown hK.1 hP 2 rfl rfl 13 (by decide) (hts _ xm_632) (fun _ h9 => h9) rfl xd_Mo_value_0_69 ?_
        refine lv_if_eq (tgt := 79) hx hb xd_Mo_value_0_72 (by decide) (fun c_72_48 => absurd c_72_48 (by decide)) (fun c_72_48 => ?_)
        refine lv_iconst (v := nI 0) hx hb xd_Mo_value_0_75 (by decide) ?_
        refine lv_goto (tgt := 92) hx hb xd_Mo_value_0_76 (by decide) ?_
        refine lv_istore (lv' := [(4, .int (nI 0)), (3, .int (nI 1)), (2, .int (nI 0)), (0, .ref mo), (1, .int (nI w))]) hx hb xd_Mo_value_0_92 hl (by decide) rfl (fun ls hl => ?_)
        refine lv_aload_n hx hb xd_Mo_value_0_94 rfl (lv_at hl 3 rfl) ?_
        refine va_get (D := G) (ci := 8) (v := .ref m3) (C := xc_Mo) (T := xf_Mo) (N := 23) hx hb hts xw_Mo hown hK.1 hP 2 rfl rfl 18 (by decide) (hts _ xm_637) (fun _ h9 => h9) rfl xd_Mo_value_0_95 ?_
        refine lv_iload_n hx hb xd_Mo_value_0_98 rfl (lv_at hl 4 rfl) ?_
        refine lv_iload_n hx hb xd_Mo_value_0_99 rfl (lv_at hl 2 rfl) ?_
        refine lv_if_eq (tgt := 107) hx hb xd_Mo_value_0_100 (by decide) (fun c_100_49 => ?_) (fun c_100_49 => absurd (by decide) c_100_49)
        refine lv_iconst (v := nI 1) hx hb xd_Mo_value_0_107 (by decide) ?_
        refine wx_iast hx hb hK.1 hP hD hS 0 0 rfl rfl (k := w) (z := nI 1) (rfl) (by omega) (by decide) xd_Mo_value_0_108 (fun H locs hP hD hS => ?_)
        have hP : va_P G xk_cl [(m3, .inl (cA 0, 2, .inl (upd tk w (nI 1)))), (m4, .inl (cA 0, 2, .inl tv)), (mo, .inr (8, [.int th, .ref ms, .ref mk, .ref mv, .int (nI mm), .int (nI ml), .int (nI cnt), .ref mt, .int mp, .int mn, .int (nI mu), .ref ma, .int (nI at_), .int (nI 1), .int le, .int ob, .ref m1, .ref m2, .ref m3, .ref m4, .int (nI rn), .int (nI pw), .ref mc])), (mt, .inl (cA 0, 300, .inl (tx_A tn)))] H := hP
        have hD : va_D A [(m3, .inl (cA 0, 2, .inl (upd tk w (nI 1)))), (m4, .inl (cA 0, 2, .inl tv)), (mo, .inr (8, [.int th, .ref ms, .ref mk, .ref mv, .int (nI mm), .int (nI ml), .int (nI cnt), .ref mt, .int mp, .int mn, .int (nI mu), .ref ma, .int (nI at_), .int (nI 1), .int le, .int ob, .ref m1, .ref m2, .ref m3, .ref m4, .int (nI rn), .int (nI pw), .ref mc])), (mt, .inl (cA 0, 300, .inl (tx_A tn)))] := hD
        refine lv_aload_n hx hb xd_Mo_value_0_109 rfl (lv_at hl 3 rfl) ?_
        refine va_get (D := G) (ci := 8) (v := .ref m4) (C := xc_Mo) (T := xf_Mo) (N := 23) hx hb hts xw_Mo hown hK.1 hP 2 rfl rfl 19 (by decide) (hts _ xm_638) (fun _ h9 => h9) rfl xd_Mo_value_0_110 ?_
        refine lv_iload_n hx hb xd_Mo_value_0_113 rfl (lv_at hl 4 rfl) ?_
        refine lv_iload_n hx hb xd_Mo_value_0_114 rfl (lv_at hl 1 rfl) ?_
        refine lv_if_eq (tgt := 124) hx hb xd_Mo_value_0_115 (by decide) (fun c_115_50 => absurd c_115_50 (by decide)) (fun c_115_50 => ?_)
        refine lv_iload hx hb xd_Mo_value_0_118 (lv_at hl 0 rfl) ?_
        refine lx_ineg (z := -(nI 0)) hx hb xd_Mo_value_0_120 (rfl) ?_
        refine lv_goto (tgt := 126) hx hb xd_Mo_value_0_121 (by decide) ?_
        refine wx_iast hx hb hK.1 hP hD hS 1 0 rfl rfl (k := w) (z := -(nI 0)) (rfl) (by omega) (by decide) xd_Mo_value_0_126 (fun H locs hP hD hS => ?_)
        have hP : va_P G xk_cl [(m3, .inl (cA 0, 2, .inl (upd tk w (nI 1)))), (m4, .inl (cA 0, 2, .inl (upd tv w (-(nI 0))))), (mo, .inr (8, [.int th, .ref ms, .ref mk, .ref mv, .int (nI mm), .int (nI ml), .int (nI cnt), .ref mt, .int mp, .int mn, .int (nI mu), .ref ma, .int (nI at_), .int (nI 1), .int le, .int ob, .ref m1, .ref m2, .ref m3, .ref m4, .int (nI rn), .int (nI pw), .ref mc])), (mt, .inl (cA 0, 300, .inl (tx_A tn)))] H := hP
        have hD : va_D A [(m3, .inl (cA 0, 2, .inl (upd tk w (nI 1)))), (m4, .inl (cA 0, 2, .inl (upd tv w (-(nI 0))))), (mo, .inr (8, [.int th, .ref ms, .ref mk, .ref mv, .int (nI mm), .int (nI ml), .int (nI cnt), .ref mt, .int mp, .int mn, .int (nI mu), .ref ma, .int (nI at_), .int (nI 1), .int le, .int ob, .ref m1, .ref m2, .ref m3, .ref m4, .int (nI rn), .int (nI pw), .ref mc])), (mt, .inl (cA 0, 300, .inl (tx_A tn)))] := hD
        have hP9 : va_P G xk_cl [(mo, .inr (8, [.int th, .ref ms, .ref mk, .ref mv, .int (nI mm), .int (nI ml), .int (nI cnt), .ref mt, .int mp, .int mn, .int (nI mu), .ref ma, .int (nI at_), .int (nI 1), .int le, .int ob, .ref m1, .ref m2, .ref m3, .ref m4, .int (nI rn), .int (nI pw), .ref mc])), (mt, .inl (cA 0, 300, .inl (tx_A tn))), (m3, .inl (cA 0, 2, .inl (upd tk w (nI 1)))), (m4, .inl (cA 0, 2, .inl (upd tv w (-(nI 0)))))] _ := hP.sub [2, 3, 0, 1] rfl
        have hD9 : va_D A [(mo, .inr (8, [.int th, .ref ms, .ref mk, .ref mv, .int (nI mm), .int (nI ml), .int (nI cnt), .ref mt, .int mp, .int mn, .int (nI mu), .ref ma, .int (nI at_), .int (nI 1), .int le, .int ob, .ref m1, .ref m2, .ref m3, .ref m4, .int (nI rn), .int (nI pw), .ref mc])), (mt, .inl (cA 0, 300, .inl (tx_A tn))), (m3, .inl (cA 0, 2, .inl (upd tk w (nI 1)))), (m4, .inl (cA 0, 2, .inl (upd tv w (-(nI 0)))))] := hD.sub [2, 3, 0, 1] (by decide) rfl
        exact W.vret hx hb hr (fun T9 ht hW => ⟨⟨(1, at_, upd tk w (nI 1), upd tv w (-(nI 0))), rfl, vl_bad q_e hac, by rw [ht]; exact hP9, hD9⟩, hS.F ht⟩) hS.2.2 xd_Mo_value_0_127
    · have q_h : tk_P tn cnt (at_) 35 := pk_tk (by decide) hv c_12_39
      refine lv_iconst (v := nI 1) hx hb xd_Mo_value_0_15 (by decide) ?_
      refine lv_goto (tgt := 20) hx hb xd_Mo_value_0_16 (by decide) ?_
      refine lv_istore_n (lv' := [(2, .int (nI 1)), (0, .ref mo), (1, .int (nI w))]) hx hb xd_Mo_value_0_20 rfl hl (by decide) rfl (fun ls hl => ?_)
      refine lv_aload_n hx hb xd_Mo_value_0_21 rfl (lv_at hl 1 rfl) ?_
      have hPc := hP.sub (ws' := [(mo, .inr (8, [.int th, .ref ms, .ref mk, .ref mv, .int (nI mm), .int (nI ml), .int (nI cnt), .ref mt, .int mp, .int mn, .int (nI mu), .ref ma, .int (nI at_), .int (nI 1), .int le, .int ob, .ref m1, .ref m2, .ref m3, .ref m4, .int (nI rn), .int (nI pw), .ref mc])), (mt, .inl (cA 0, 300, .inl (tx_A tn)))]) [2, 3] rfl
      refine vp_callSi (va_Run.run (va_runV (As := []) (rest := []) ⟨hx, hb, hml, hown, hts⟩ (ct_Mo_look l G cA mo th ms mk mv mm ml cnt mt mp mn mu ma at_ (nI 1) le ob m1 m2 m3 m4 rn pw mc tn hc (by omega)) (cwV 0 hts (gi_v xm_708 xm_710 xs_Mo_look xm_9 xm_711) rfl rfl rfl ⟨rfl, xh_Mo_look⟩ ⟨Nat.le_of_ble_eq_true rfl, Nat.le_of_ble_eq_true rfl⟩) (pv_r hK hPc (ci := 8) (q0 := 0) rfl rfl) rfl rfl hl.1 rfl (lv_room (Nat.le_of_ble_eq_true rfl)) xd_Mo_value_0_22 ⟨Nat.le_of_ble_eq_true rfl, Nat.le_of_ble_eq_true rfl⟩)) (fun r_52 q_53 => ?_)
      refine lx_top (z := sp_pk tn cnt at_) (q_53) ?_
      refine lv_bipush (v := nI 45) hx hb xd_Mo_value_0_25 (by decide) ?_
      refine lv_icmp_ne (tgt := 34) hx hb xd_Mo_value_0_27 (by decide) (fun c_27_53 => ?_) (fun c_27_53 => absurd c_27_53 (fun z => absurd (q_h.2.symm.trans (pk_tk (by decide) hv z).2) (by decide)))
      refine lv_iconst (v := nI 0) hx hb xd_Mo_value_0_34 (by decide) ?_
      refine lv_istore_n (lv' := [(3, .int (nI 0)), (2, .int (nI 1)), (0, .ref mo), (1, .int (nI w))]) hx hb xd_Mo_value_0_35 rfl hl (by decide) rfl (fun ls hl => ?_)
      refine lv_aload_n hx hb xd_Mo_value_0_36 rfl (lv_at hl 2 rfl) ?_
      refine lv_aload_n hx hb xd_Mo_value_0_37 rfl (lv_at hl 2 rfl) ?_
      refine va_get (D := G) (ci := 8) (v := .int (nI 1)) (C := xc_Mo) (T := xf_Mo) (N := 23) hx hb hts xw_Mo hown hK.1 hP 2 rfl rfl 13 (by decide) (hts _ xm_632) (fun _ h9 => h9) rfl xd_Mo_value_0_38 ?_
      refine lv_if_ne (tgt := 61) hx hb xd_Mo_value_0_41 (by decide) (fun c_41_54 => ?_) (fun c_41_54 => absurd c_41_54 (by decide))
      refine lv_aload_n hx hb xd_Mo_value_0_61 rfl (lv_at hl 2 rfl) ?_
      refine va_get (D := G) (ci := 8) (v := .int (nI at_)) (C := xc_Mo) (T := xf_Mo) (N := 23) hx hb hts xw_Mo hown hK.1 hP 2 rfl rfl 12 (by decide) (hts _ xm_631) (fun _ h9 => h9) rfl xd_Mo_value_0_62 ?_
      refine va_put (D := G) (ci := 8) (v := .int (nI at_)) (ty := .int) (C := xc_Mo) (T := xf_Mo) (N := 23) hx hb hts xw_Mo xt_Mo xt_Mo_ok xn_Mo hown hK.1 hP hD hS 2 rfl rfl 12 (by decide) (hts _ xm_631) (fun _ h9 => h9) rfl (by decide +kernel) rfl rfl (Nat.le_of_ble_eq_true rfl) xd_Mo_value_0_65 (fun H locs hP hD hS => ?_)
      have hP : va_P G xk_cl [(m3, .inl (cA 0, 2, .inl tk)), (m4, .inl (cA 0, 2, .inl tv)), (mo, .inr (8, [.int th, .ref ms, .ref mk, .ref mv, .int (nI mm), .int (nI ml), .int (nI cnt), .ref mt, .int mp, .int mn, .int (nI mu), .ref ma, .int (nI at_), .int (nI 1), .int le, .int ob, .ref m1, .ref m2, .ref m3, .ref m4, .int (nI rn), .int (nI pw), .ref mc])), (mt, .inl (cA 0, 300, .inl (tx_A tn)))] H := hP
      have hD : va_D A [(m3, .inl (cA 0, 2, .inl tk)), (m4, .inl (cA 0, 2, .inl tv)), (mo, .inr (8, [.int th, .ref ms, .ref mk, .ref mv, .int (nI mm), .int (nI ml), .int (nI cnt), .ref mt, .int mp, .int mn, .int (nI mu), .ref ma, .int (nI at_), .int (nI 1), .int le, .int ob, .ref m1, .ref m2, .ref m3, .ref m4, .int (nI rn), .int (nI pw), .ref mc])), (mt, .inl (cA 0, 300, .inl (tx_A tn)))] := hD
      refine lv_aload_n hx hb xd_Mo_value_0_68 rfl (lv_at hl 2 rfl) ?_
      refine va_get (D := G) (ci := 8) (v := .int (nI 1)) (C := xc_Mo) (T := xf_Mo) (N := 23) hx hb hts xw_Mo hown hK.1 hP 2 rfl rfl 13 (by decide) (hts _ xm_632) (fun _ h9 => h9) rfl xd_Mo_value_0_69 ?_
      refine lv_if_eq (tgt := 79) hx hb xd_Mo_value_0_72 (by decide) (fun c_72_55 => absurd c_72_55 (by decide)) (fun c_72_55 => ?_)
      refine lv_iconst (v := nI 0) hx hb xd_Mo_value_0_75 (by decide) ?_
      refine lv_goto (tgt := 92) hx hb xd_Mo_value_0_76 (by decide) ?_
      refine lv_istore (lv' := [(4, .int (nI 0)), (3, .int (nI 0)), (2, .int (nI 1)), (0, .ref mo), (1, .int (nI w))]) hx hb xd_Mo_value_0_92 hl (by decide) rfl (fun ls hl => ?_)
      refine lv_aload_n hx hb xd_Mo_value_0_94 rfl (lv_at hl 3 rfl) ?_
      refine va_get (D := G) (ci := 8) (v := .ref m3) (C := xc_Mo) (T := xf_Mo) (N := 23) hx hb hts xw_Mo hown hK.1 hP 2 rfl rfl 18 (by decide) (hts _ xm_637) (fun _ h9 => h9) rfl xd_Mo_value_0_95 ?_
      refine lv_iload_n hx hb xd_Mo_value_0_98 rfl (lv_at hl 4 rfl) ?_
      refine lv_iload_n hx hb xd_Mo_value_0_99 rfl (lv_at hl 2 rfl) ?_
      refine lv_if_eq (tgt := 107) hx hb xd_Mo_value_0_100 (by decide) (fun c_100_56 => absurd c_100_56 (by decide)) (fun c_100_56 => ?_)
      refine lv_iconst (v := nI 2) hx hb xd_Mo_value_0_103 (by decide) ?_
      refine lv_goto (tgt := 108) hx hb xd_Mo_value_0_104 (by decide) ?_
      refine wx_iast hx hb hK.1 hP hD hS 0 0 rfl rfl (k := w) (z := nI 2) (rfl) (by omega) (by decide) xd_Mo_value_0_108 (fun H locs hP hD hS => ?_)
      have hP : va_P G xk_cl [(m3, .inl (cA 0, 2, .inl (upd tk w (nI 2)))), (m4, .inl (cA 0, 2, .inl tv)), (mo, .inr (8, [.int th, .ref ms, .ref mk, .ref mv, .int (nI mm), .int (nI ml), .int (nI cnt), .ref mt, .int mp, .int mn, .int (nI mu), .ref ma, .int (nI at_), .int (nI 1), .int le, .int ob, .ref m1, .ref m2, .ref m3, .ref m4, .int (nI rn), .int (nI pw), .ref mc])), (mt, .inl (cA 0, 300, .inl (tx_A tn)))] H := hP
      have hD : va_D A [(m3, .inl (cA 0, 2, .inl (upd tk w (nI 2)))), (m4, .inl (cA 0, 2, .inl tv)), (mo, .inr (8, [.int th, .ref ms, .ref mk, .ref mv, .int (nI mm), .int (nI ml), .int (nI cnt), .ref mt, .int mp, .int mn, .int (nI mu), .ref ma, .int (nI at_), .int (nI 1), .int le, .int ob, .ref m1, .ref m2, .ref m3, .ref m4, .int (nI rn), .int (nI pw), .ref mc])), (mt, .inl (cA 0, 300, .inl (tx_A tn)))] := hD
      refine lv_aload_n hx hb xd_Mo_value_0_109 rfl (lv_at hl 3 rfl) ?_
      refine va_get (D := G) (ci := 8) (v := .ref m4) (C := xc_Mo) (T := xf_Mo) (N := 23) hx hb hts xw_Mo hown hK.1 hP 2 rfl rfl 19 (by decide) (hts _ xm_638) (fun _ h9 => h9) rfl xd_Mo_value_0_110 ?_
      refine lv_iload_n hx hb xd_Mo_value_0_113 rfl (lv_at hl 4 rfl) ?_
      refine lv_iload_n hx hb xd_Mo_value_0_114 rfl (lv_at hl 1 rfl) ?_
      refine lv_if_eq (tgt := 124) hx hb xd_Mo_value_0_115 (by decide) (fun c_115_57 => ?_) (fun c_115_57 => absurd (by decide) c_115_57)
      refine lv_iload hx hb xd_Mo_value_0_124 (lv_at hl 0 rfl) ?_
      refine wx_iast hx hb hK.1 hP hD hS 1 0 rfl rfl (k := w) (z := nI 0) (rfl) (by omega) (by decide) xd_Mo_value_0_126 (fun H locs hP hD hS => ?_)
      have hP : va_P G xk_cl [(m3, .inl (cA 0, 2, .inl (upd tk w (nI 2)))), (m4, .inl (cA 0, 2, .inl (upd tv w (nI 0)))), (mo, .inr (8, [.int th, .ref ms, .ref mk, .ref mv, .int (nI mm), .int (nI ml), .int (nI cnt), .ref mt, .int mp, .int mn, .int (nI mu), .ref ma, .int (nI at_), .int (nI 1), .int le, .int ob, .ref m1, .ref m2, .ref m3, .ref m4, .int (nI rn), .int (nI pw), .ref mc])), (mt, .inl (cA 0, 300, .inl (tx_A tn)))] H := hP
      have hD : va_D A [(m3, .inl (cA 0, 2, .inl (upd tk w (nI 2)))), (m4, .inl (cA 0, 2, .inl (upd tv w (nI 0)))), (mo, .inr (8, [.int th, .ref ms, .ref mk, .ref mv, .int (nI mm), .int (nI ml), .int (nI cnt), .ref mt, .int mp, .int mn, .int (nI mu), .ref ma, .int (nI at_), .int (nI 1), .int le, .int ob, .ref m1, .ref m2, .ref m3, .ref m4, .int (nI rn), .int (nI pw), .ref mc])), (mt, .inl (cA 0, 300, .inl (tx_A tn)))] := hD
      have hP9 : va_P G xk_cl [(mo, .inr (8, [.int th, .ref ms, .ref mk, .ref mv, .int (nI mm), .int (nI ml), .int (nI cnt), .ref mt, .int mp, .int mn, .int (nI mu), .ref ma, .int (nI at_), .int (nI 1), .int le, .int ob, .ref m1, .ref m2, .ref m3, .ref m4, .int (nI rn), .int (nI pw), .ref mc])), (mt, .inl (cA 0, 300, .inl (tx_A tn))), (m3, .inl (cA 0, 2, .inl (upd tk w (nI 2)))), (m4, .inl (cA 0, 2, .inl (upd tv w (nI 0))))] _ := hP.sub [2, 3, 0, 1] rfl
      have hD9 : va_D A [(mo, .inr (8, [.int th, .ref ms, .ref mk, .ref mv, .int (nI mm), .int (nI ml), .int (nI cnt), .ref mt, .int mp, .int mn, .int (nI mu), .ref ma, .int (nI at_), .int (nI 1), .int le, .int ob, .ref m1, .ref m2, .ref m3, .ref m4, .int (nI rn), .int (nI pw), .ref mc])), (mt, .inl (cA 0, 300, .inl (tx_A tn))), (m3, .inl (cA 0, 2, .inl (upd tk w (nI 2)))), (m4, .inl (cA 0, 2, .inl (upd tv w (nI 0))))] := hD.sub [2, 3, 0, 1] (by decide) rfl
      exact W.vret hx hb hr (fun T9 ht hW => ⟨⟨(1, at_, upd tk w (nI 2), upd tv w (nI 0)), rfl, vl_bad q_e hac, by rw [ht]; exact hP9, hD9⟩, hS.F ht⟩) hS.2.2 xd_Mo_value_0_127
