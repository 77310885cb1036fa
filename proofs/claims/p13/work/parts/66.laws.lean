def R_law : String := "EditLists2Law"
def lw_P (b : Addr) (xs : List Int32) (args : Array Value) (s : State) : Prop := args = #[.ref b] ∧ s.IntsAt b xs ∧ xs.length ≤ 1536 ∧ (Jvm.Cond.and given_1 narrow_1).before args s = true
def lw_Q (_ : Array Value) (s : State) (o : Outcome) (t : State) : Prop := o = .returned (some (.int 1)) ∧ Framed s o t [] 601024 7293034
def lw_Z (below : List Frame) (a : Array Value) (s : State) : State → Prop := fun t => ∃ o, t.status = .running ∧ Ended t below o ∧ lw_Q a s o t
theorem lw_ret {p : Program} {l : Launch} {e : Env} {s : State} {m : MethodId} {below : List Frame} {meth : Method} {c : Code} {b : Nat} (hx : p.tables.exec = Jvm.exec) (hb : c.code = code) (hr : meth.sig.returnType = ret) (hlocks : meth.locks = false) {pc : Nat} {H : Heap} {ls : Array Slot} (hdg : decode code pc = .ok (.ireturn, 1)) : W p l e room_1 s m #[Value.ref b] below meth c H [] 601024 7293034 (lw_Z below #[Value.ref b] s) (F0 m pc ls [.int 1]) := by
  intro T hT X
  obtain ⟨fs, hret, hrun, hended, hW, hframe⟩ := X.leave (v := some (.int 1)) (hlocks := hlocks) (fun h => by rw [hr] at h; cases h)
  have hmeth' : T.vm.method? m = some meth := X.method'
  refine ⟨T.setFrames fs, ?_, .returned (some (.int 1)), hrun, hended, rfl, ⟨_, rfl⟩, hW, hframe⟩
  jvm_step X.here [X.here.top, hx, hb, hdg, hmeth', hr, ret, narrow_b1]
  (try refine ⟨rfl, ?_⟩); (try refine ⟨rfl, ?_⟩)
  first | (intro acts; rw [hret _ acts rfl rfl rfl]) | rw [hret _ _ rfl rfl rfl]
  exact Steps.refl _
def lw_At (p : Program) (s : State) (m : MethodId) (meth : Method) (c : Code) (b L : Nat) (xs : Nat → Int32) : Prop :=
  p.tables.exec = Jvm.exec ∧ c.code = code ∧ meth.sig.returnType = ret ∧ c.maxLocals = 7 ∧ s.vm.findClass R_law = some m.cls ∧ (∀ w ∈ lw_tbl, w.before #[Value.ref b] s = true) ∧ va_X b L xs s s.heap ∧ b < s.heap.size ∧ meth.locks = false ∧ (Jvm.Cond.and given_1 narrow_1).before #[Value.ref b] s = true
def nz_M : List Nat := [26, 66, 72, 126, 144, 259, 274, 280, 283, 294, 319, 350, 351, 434, 440, 441, 465]
def nz_F : List Nat := [84, 86, 88, 90, 92, 94]
theorem nz_Mz : nw_M.length = nz_M.length ∧ (nw_M.zip nz_M).all (fun q => decide (tables_1[q.2]? = some (.methodLinkNest q.1.1 q.1.2.1 q.1.2.2.1 q.1.2.2.2))) = true := by decide +kernel
theorem nz_Fz : nw_F.length = nz_F.length ∧ (nw_F.zip nz_F).all (fun q => decide (tables_1[q.2]? = some (.fieldLinkNest q.1.1 q.1.2.1 q.1.2.2.1 q.1.2.2.2.1 q.1.2.2.2.2.1 q.1.2.2.2.2.2))) = true := by decide +kernel
theorem zp_m {α : Type} {l : List α} {n : List Nat} (hl : l.length = n.length) {q : α} (hq : q ∈ l) : ∃ i, (q, i) ∈ l.zip n := by
  obtain ⟨k, hk⟩ := List.mem_iff_getElem?.mp hq
  have hlt : k < n.length := by rw [← hl]; exact (List.getElem?_eq_some_iff.mp hk).1
  exact ⟨n[k], List.mem_of_getElem? (i := k) (by rw [List.getElem?_zip_eq_some]; exact ⟨hk, List.getElem?_eq_getElem hlt⟩)⟩
theorem lw_N {args : Array Value} {s : State} (hts : ∀ w ∈ lw_tbl, w.before args s = true) : nw_N s := by
  refine ⟨fun q hq => ?_, fun q hq => ?_, va_AO.of (hts _ (tw_l (i := 131) (by decide +kernel)))⟩
  · obtain ⟨i, hi⟩ := zp_m nz_Mz.1 hq
    exact va_Nw.of rfl (hts _ (tw_l (of_decide_eq_true (List.all_eq_true.mp nz_Mz.2 _ hi))))
  · obtain ⟨i, hi⟩ := zp_m nz_Fz.1 hq
    exact va_Nw.of rfl (hts _ (tw_l (of_decide_eq_true (List.all_eq_true.mp nz_Fz.2 _ hi))))
theorem lw_K {args : Array Value} {s : State} (hts : ∀ w ∈ lw_tbl, w.before args s = true) : ∃ (G : va_G) (cA : Nat → ClassId), wk_K G cA s := by
  have htw : ∀ w ∈ tw_W, w.before args s = true := fun w h => hts w (List.mem_filter.mp h).1
  obtain ⟨c0, i0, hKn0⟩ := u_known (C := xc_X) (T := xf_X) (N := 10) (n := 10) htw xw_X (htw _ xm_17)
  obtain ⟨c1, i1, hKn1⟩ := u_known (C := xc_Te) (T := xf_Te) (N := 3) (n := 3) htw xw_Te (htw _ xm_25)
  obtain ⟨c2, i2, hKn2⟩ := u_known (C := xc_St) (T := xf_St) (N := 3) (n := 3) htw xw_St (htw _ xm_42)
  obtain ⟨c3, i3, hKn3⟩ := u_known (C := xc_Ed) (T := xf_Ed) (N := 5) (n := 5) htw xw_Ed (htw _ xm_59)
  obtain ⟨c4, i4, hKn4⟩ := u_known (C := xc_Li) (T := xf_Li) (N := 6) (n := 6) htw xw_Li (htw _ xm_65)
  obtain ⟨c5, i5, hKn5⟩ := u_known (C := xc_Pa) (T := xf_Pa) (N := 2) (n := 2) htw xw_Pa (htw _ xm_71)
  obtain ⟨c6, i6, hKn6⟩ := u_known (C := xc_Hi) (T := xf_Hi) (N := 3) (n := 3) htw xw_Hi (htw _ xm_125)
  obtain ⟨c7, i7, hKn7⟩ := u_known (C := xc_Re) (T := xf_Re) (N := 3) (n := 3) htw xw_Re (htw _ xm_143)
  obtain ⟨c8, i8, hKn8⟩ := u_known (C := xc_Mo) (T := xf_Mo) (N := 23) (n := 23) htw xw_Mo (htw _ xm_614)
  obtain ⟨G, hKc⟩ : ∃ G : va_G, ∀ (k : Nat) (q : vw_C), xk_cl[k]? = some q → u_Kn s q.1 q.2.1 q.2.2 (G.1 k) (G.2 k) := by
    refine ⟨(fun k => if k = 0 then c0 else if k = 1 then c1 else if k = 2 then c2 else if k = 3 then c3 else if k = 4 then c4 else if k = 5 then c5 else if k = 6 then c6 else if k = 7 then c7 else c8, fun k => if k = 0 then i0 else if k = 1 then i1 else if k = 2 then i2 else if k = 3 then i3 else if k = 4 then i4 else if k = 5 then i5 else if k = 6 then i6 else if k = 7 then i7 else i8), ?_⟩
    intro k q hq
    match k, hq with
    | 0, hq => cases hq; exact hKn0
    | 1, hq => cases hq; exact hKn1
    | 2, hq => cases hq; exact hKn2
    | 3, hq => cases hq; exact hKn3
    | 4, hq => cases hq; exact hKn4
    | 5, hq => cases hq; exact hKn5
    | 6, hq => cases hq; exact hKn6
    | 7, hq => cases hq; exact hKn7
    | 8, hq => cases hq; exact hKn8
    | k + 9, hq => simp [xk_cl] at hq
  obtain ⟨d0, e0, f0⟩ := ak_p (htw _ xm_57)
  obtain ⟨d1, e1, f1⟩ := ak_p (htw _ xm_40)
  obtain ⟨d2, e2, f2⟩ := ak_p (htw _ xm_158)
  obtain ⟨d3, e3, f3⟩ := ak_q (C := "EditLists2$Store") (hts _ (tw_l (i := 131) (by decide +kernel)))
  obtain ⟨d4, e4, f4⟩ := ak_p (htw _ xm_835)
  refine ⟨G, fun k => if k = 0 then d0 else if k = 1 then d1 else if k = 2 then d2 else if k = 3 then d3 else d4, ⟨hKc, ?_⟩, lw_N hts⟩
  intro k q hq
  match k, hq with
  | 0, hq => cases hq; exact ⟨e0, f0⟩
  | 1, hq => cases hq; exact ⟨e1, f1⟩
  | 2, hq => cases hq; exact ⟨e2, f2⟩
  | 3, hq => cases hq; exact ⟨e3, f3⟩
  | 4, hq => cases hq; exact ⟨e4, f4⟩
  | k + 5, hq => simp [ty_A] at hq
theorem lw_T {b : Addr} {s : State} (hts : ∀ w ∈ lw_tbl, w.before #[Value.ref b] s = true) (hgv : (Jvm.Cond.and given_1 narrow_1).before #[Value.ref b] s = true) : th_S s := by
  have hs := flat_of_before _ hgv
  have h1 : th_a.before #[Value.ref b] s = true := hs _ (by decide +kernel)
  have h2 : th_b.before #[Value.ref b] s = true := hs _ (by decide +kernel)
  have h3 : (Cond.laysStatic Bundle.tN "UNASSIGNED_STACK" Bundle.steD).before #[Value.ref b] s = true := hts _ (tw_l (i := 526) (by decide +kernel))
  have h4 : (Cond.laysStatic Bundle.tN "SUPPRESSED_SENTINEL" Bundle.listD).before #[Value.ref b] s = true := hts _ (tw_l (i := 528) (by decide +kernel))
  obtain ⟨q94, -, -, -, z94, -⟩ := Cond.exactly_spec (hs (Cond.exactly (.string "EditLists2" 94) "java/lang/String") (by decide +kernel))
  obtain ⟨q164, -, -, -, z164, -⟩ := Cond.exactly_spec (hs (Cond.exactly (.string "EditLists2" 164) "java/lang/String") (by decide +kernel))
  obtain ⟨q169, -, -, -, z169, -⟩ := Cond.exactly_spec (hs (Cond.exactly (.string "EditLists2" 169) "java/lang/String") (by decide +kernel))
  obtain ⟨q146, -, -, -, z146, -⟩ := Cond.exactly_spec (hs (Cond.exactly (.string "EditLists2" 146) "java/lang/String") (by decide +kernel))
  refine ⟨fun w hw => ?_, ⟨fun x hx => ?_, va_Nw.of rfl (hts (.castable th_X th_X) (tw_l (i := 501) (by decide +kernel)))⟩, ⟨q94, vk_R.of (hts _ (tw_l (i := 538) (by decide +kernel))) z94⟩, ⟨q164, vk_R.of (hts _ (tw_l (i := 576) (by decide +kernel))) z164⟩, ⟨q169, vk_R.of (hts _ (tw_l (i := 588) (by decide +kernel))) z169⟩, q146, vk_R.of (hts _ (tw_l (i := 612) (by decide +kernel))) z146⟩
  · simp only [th_H, List.mem_cons, List.not_mem_nil, or_false] at hw
    rcases hw with rfl | rfl | rfl | rfl
    · exact h1
    · exact h2
    · exact h3
    · exact h4
  · simp only [th_D, List.mem_cons, List.not_mem_nil, or_false] at hx
    rcases hx with rfl | rfl | rfl
    · exact va_Nw.of rfl (hts _ (tw_l (i := 503) (by decide +kernel)))
    · exact va_Nw.of rfl (hts _ (tw_l (i := 505) (by decide +kernel)))
    · exact va_Nw.of rfl (hts _ (tw_l (i := 507) (by decide +kernel)))

