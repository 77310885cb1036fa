theorem tm_inst : (.instantiable "java/lang/IndexOutOfBoundsException" 6 : Cond) ∈ tw_W := tw_t (i := 500) (by decide +kernel) rfl
theorem tm_init : (.initialized "java/lang/IndexOutOfBoundsException" : Cond) ∈ tw_W := tw_t (i := 15) (by decide +kernel) rfl

abbrev th_X : String := "java/lang/IndexOutOfBoundsException"
abbrev th_N : List String := ["java/lang/RuntimeException", "java/lang/Exception"]
def th_L : List Cond := Bundle.ownAtoms xc_X 96 th_X th_N
def th_a : Cond := .isRef (.static Bundle.tN "UNASSIGNED_STACK" Bundle.steD)
def th_b : Cond := .isRef (.static Bundle.tN "SUPPRESSED_SENTINEL" Bundle.listD)
def th_I : List Nat := [12, 521, 530, 532, 535, 537, 522, 523, 22, 23, 524, 529, 533, 553, 511, 554, 513, 555, 515, 525, 526, 527, 528, 517, 549, 550, 552, 517, 540, 541, 542, 543, 503, 543, 544, 545, 546, 505, 546, 547, 548, 549, 507, 539, 500, 501, 508, 509, 510, 512, 514, 516, 0, 0, 520, 519, 518]
theorem th_len : th_L.length = th_I.length := by decide +kernel
def th_H : List Cond := [th_a, th_b, .laysStatic Bundle.tN "UNASSIGNED_STACK" Bundle.steD, .laysStatic Bundle.tN "SUPPRESSED_SENTINEL" Bundle.listD]
def th_D : List MethodName := [Bundle.initS "java/lang/RuntimeException", Bundle.initS "java/lang/Exception", Bundle.initS Bundle.tN]
theorem th_z : (th_L.zip th_I).all (fun q => (decide (tables_1[q.2]? = some q.1) && goodWord q.1) || decide (q.1 ∈ th_H) || decide (q.1 ∈ th_D.map Cond.declares) || decide (q.1 = .castable th_X th_X)) = true := by decide +kernel
theorem th_all : ∀ w ∈ th_L, w ∈ tw_W ∨ w ∈ th_H ∨ w ∈ th_D.map Cond.declares ∨ w = .castable th_X th_X := by
  intro w hw
  obtain ⟨k, hk⟩ := List.mem_iff_getElem?.mp hw
  have hlt : k < th_I.length := by rw [← th_len]; exact (List.getElem?_eq_some_iff.mp hk).1
  have hz : (w, th_I[k]) ∈ th_L.zip th_I := List.mem_of_getElem? (i := k) (by rw [List.getElem?_zip_eq_some]; exact ⟨hk, List.getElem?_eq_getElem hlt⟩)
  have h1 := List.all_eq_true.mp th_z _ hz
  simp only [Bool.or_eq_true, Bool.and_eq_true, decide_eq_true_eq] at h1
  rcases h1 with ((h1 | h1) | h1) | h1
  · exact Or.inl (tw_t h1.1 h1.2)
  · exact Or.inr (Or.inl h1)
  · exact Or.inr (Or.inr (Or.inl h1))
  · exact Or.inr (Or.inr (Or.inr h1))
theorem th_kepL {n d : String} {s U : State} {A : Array Value} (hW : s.WarmedH U.vm) (hq : ∀ q : Nat, q < s.heap.size → U.heap[q]? = s.heap[q]?) (h : (Cond.laysStatic Bundle.tN n d).before A s = true) : (Cond.laysStatic Bundle.tN n d).before #[] U = true := by
  have h1 : (Cond.laysStatic Bundle.tN n d).before #[] (s.setVm U.vm) = true := Cond.holds_shifted (State.Shifted.of_warmed hW) (args := #[]) (o := none) (Cond.laysStatic Bundle.tN n d) [] rfl h
  simp only [Cond.before, Cond.holds, Cond.value] at h1 ⊢
  cases hc : (s.setVm U.vm).vm.findClass Bundle.tN with
  | none => rw [hc] at h1; exact absurd h1 (by simp)
  | some c =>
    have hc2 : U.vm.findClass Bundle.tN = some c := hc
    cases hf : (s.setVm U.vm).fieldFound? Bundle.tN n d with
    | none => rw [hc, hf] at h1; exact absurd h1 (by simp)
    | some x =>
      obtain ⟨c', k, i, f⟩ := x
      have hf2 : U.fieldFound? Bundle.tN n d = some (c', k, i, f) := hf
      simp only [hc, hf] at h1
      simp only [hc2, hf2]
      cases hk : k.statics with
      | none => simp [hk] at h1
      | some a =>
        simp only [hk, Option.bind_some] at h1 ⊢
        cases hc : s.heap[a]? with
        | none => simp [State.setVm, hc] at h1
        | some cell =>
          have hc2 : U.heap[a]? = some cell := by rw [hq a (Array.getElem?_eq_some_iff.mp hc).1]; exact hc
          have hc3 : (s.setVm U.vm).heap[a]? = some cell := hc
          simp only [hc3] at h1
          simp only [hc2]
          exact h1
def th_S (U : State) : Prop := (∀ w ∈ th_H, w.before #[] U = true) ∧ ((∀ x ∈ th_D, va_Nw (.declares x) U) ∧ va_Nw (.castable th_X th_X) U) ∧ (∃ q, vk_R xc_X 94 "no such place" q U) ∧ (∃ q, vk_R xc_X 164 "no such object" q U) ∧ (∃ q, vk_R xc_X 169 "no such key" q U) ∧ ∃ q, vk_R xc_X 146 "nothing is told of an object there" q U
theorem th_kept {n d : String} {s U : State} {A : Array Value} (hW : s.WarmedH U.vm) (hq : ∀ q : Nat, q < s.heap.size → U.heap[q]? = s.heap[q]?) (h : (Cond.isRef (.static Bundle.tN n d)).before A s = true) : (Cond.isRef (.static Bundle.tN n d)).before #[] U = true := by
  have h1 : (Cond.isRef (.static Bundle.tN n d)).before #[] (s.setVm U.vm) = true := Cond.holds_shifted (State.Shifted.of_warmed hW) (args := #[]) (o := none) (Cond.isRef (.static Bundle.tN n d)) [] rfl h
  simp only [Cond.before, Cond.holds, Cond.value, Term.eval] at h1 ⊢
  cases hf : (s.setVm U.vm).fieldNamed? Bundle.tN n d true with
  | none => simp [hf] at h1
  | some x =>
    obtain ⟨c, k, sl⟩ := x
    have hf2 : U.fieldNamed? Bundle.tN n d true = some (c, k, sl) := hf
    simp only [hf, hf2, Option.bind_eq_bind, Option.bind_some] at h1 ⊢
    cases hk : k.statics with
    | none => simp [hk] at h1
    | some a =>
      simp only [hk, Option.bind_some] at h1 ⊢
      cases hc : s.heap[a]? with
      | none => simp [State.setVm, hc] at h1
      | some cell =>
        have hc2 : U.heap[a]? = some cell := by rw [hq a (Array.getElem?_eq_some_iff.mp hc).1]; exact hc
        have hc3 : (s.setVm U.vm).heap[a]? = some cell := hc
        simp only [hc2, hc3, Option.bind_some] at h1 ⊢
        exact h1
theorem th_move {s U : State} (hW : s.WarmedH U.vm) (hq : ∀ q : Nat, q < s.heap.size → U.heap[q]? = s.heap[q]?) (h : th_S s) : th_S U := by
  obtain ⟨h1, h2, ⟨q3, h3⟩, ⟨q4, h4⟩, ⟨q5, h5⟩, q6, h6⟩ := h
  refine ⟨fun w hw => ?_, ⟨fun x hx => va_Nw.warmD hW (h2.1 x hx), va_Nw.warmC hW h2.2⟩, ⟨q3, h3.warm hW⟩, ⟨q4, h4.warm hW⟩, ⟨q5, h5.warm hW⟩, q6, h6.warm hW⟩
  have h9 := h1 w hw
  simp only [th_H, List.mem_cons, List.not_mem_nil, or_false] at hw
  rcases hw with rfl | rfl | rfl | rfl
  · exact th_kept hW hq h9
  · exact th_kept hW hq h9
  · exact th_kepL hW hq h9
  · exact th_kepL hW hq h9
theorem th_call {U : State} {g : JFrame} {mk : MethodId} {a : Array Value} (h : th_S U) : th_S (U.calling g mk a) := by
  obtain ⟨h1, h2, ⟨q3, h3⟩, ⟨q4, h4⟩, ⟨q5, h5⟩, q6, h6⟩ := h
  exact ⟨fun w hw => by
    have h9 := h1 w hw
    simp only [th_H, List.mem_cons, List.not_mem_nil, or_false] at hw
    rcases hw with rfl | rfl | rfl | rfl <;> exact h9, ⟨fun x hx => va_Nw.same (u := U) rfl rfl (h2.1 x hx), va_Nw.same (u := U) rfl rfl h2.2⟩, ⟨q3, h3.same rfl⟩, ⟨q4, h4.same rfl⟩, ⟨q5, h5.same rfl⟩, q6, h6.same rfl⟩
theorem th_before {s : State} {args : Array Value} (hts : ∀ w ∈ tw_W, w.before args s = true) (hT : th_S s) : ∀ a ∈ th_L, a.before args s = true := by
  intro a ha
  rcases th_all a ha with h | h | h | rfl
  · exact hts a h
  · have h9 := hT.1 a h
    simp only [th_H, List.mem_cons, List.not_mem_nil, or_false] at h
    rcases h with rfl | rfl | rfl | rfl <;> exact h9
  · obtain ⟨x, hx, rfl⟩ := List.mem_map.mp h
    exact (hT.2.1.1 x hx).use rfl
  · exact hT.2.1.2.use rfl
theorem sn_nil {s t : State} {k n : Nat} (h : s.sameButNew t [] k n) : s.heap.size ≤ t.heap.size ∧ ∀ q : Nat, q < s.heap.size → t.heap[q]? = s.heap[q]? := by
  refine ⟨h.2.1, fun q hq => ?_⟩
  have hc : s.heap[q]? = some s.heap[q] := Array.getElem?_eq_getElem hq
  obtain ⟨c', h1, h2, h3, h4⟩ := h.2.2.2.2.2 q _ hc
  have e1 : c'.slots = s.heap[q].slots := Array.ext_getElem? fun i => h4 i (by simp)
  rw [e1] at h2
  rw [h1, hc, h2]
def mt_O (nm : String) (st : State) (o : Outcome) (t : State) (mc ms : Nat) : Prop :=
  ∃ (x : Addr) (ce : Cell), o = .threw x ∧ t.heap[x]? = some ce ∧ st.vm.findClass nm = some ce.cls ∧ ce.vm = .none ∧ st.WarmedH t.vm ∧ st.sameButNew ({ t with vm := st.vm } : State) [] mc ms
def MetT (l : Launch) (y : MethodName) (ws : List Cond) (rm : Room) (Pc : Array Value → State → Prop) (nm : String) (mc ms : Nat) : Prop :=
  MetFree l y (headSpec ws rm) Pc (fun _ _ _ _ _ => True) (fun _ st o t => mt_O nm st o t mc ms)
def MQT (below : List Frame) (nm : String) (s : State) (mc ms : Nat) : State → Prop := fun t => ∃ o, t.status = .running ∧ Ended t below o ∧ mt_O nm s o t mc ms
theorem MetT.ofW {l : Launch} {y : MethodName} {ws ws' : List Cond} {rm : Room} {Pc : Array Value → State → Prop} {nm : String} {mc ms : Nat} {cc : ByteArray} {maxL : Nat} {ret : Option FieldType}
    (hy : plainName y.cls = true) (hw : ws = Cond.code y cc maxL ret :: ws')
    (body : ∀ p e s m args below meth c s₁, BodyLoose p l y (headSpec ws rm) cc maxL ret e s m args below meth c s₁ → c.maxLocals = maxL → Pc args s →
      W p l e (headSpec ws rm).room s m args below meth c s.heap [] 0 0 (MQT below nm s mc ms) (entryFrame m args maxL)) : MetT l y ws rm Pc nm mc ms := by
  refine MetFree.of_bodyS (code := cc) (maxLocals := maxL) (ret := ret) hy ?_ ?_
  · intro args s m h hn
    obtain ⟨meth, c, h1, h2, h3, h4, h5, h6, -, -⟩ := Cond.code_spec hn (atoms_spec (ws := ws) h _ (by rw [hw]; exact List.mem_cons_self))
    exact ⟨meth, c, h1, h2, h3, h4, h5, h6⟩
  · intro p e s m args below meth c s₁ B hml hP _
    have hh0 : s₁.heap = s.heap := by rw [B.state]; rfl
    obtain ⟨t, a1, o, b1, b2, b3⟩ := body p e s m args below meth c s₁ B hml hP s₁ hh0 (Stand.of_body B)
    exact ⟨t, o, a1, b1, b2, b3⟩
theorem no_cov {c : Code} (h : c.exceptionTable.isEmpty = true) (pc : Nat) : ∀ x ∈ c.exceptionTable.toList, covers x pc = false := by
  have h0 : c.exceptionTable.size = 0 := by simpa [Array.isEmpty] using h
  have h1 : c.exceptionTable.toList = [] := List.eq_nil_of_length_eq_zero (by simpa using h0)
  intro x hx
  rw [h1] at hx
  cases hx
section
variable {p : Program} {l : Launch} {e : Env} {R : Room} {s : State} {m : MethodId} {args : Array Value} {below : List Frame} {meth : Method} {c : Code} {T : State} {locs : List Loc} {cells slots : Nat} {H : Heap} {Q : State → Prop}
theorem wt_site {cc : ByteArray} {pc k q : Nat} {ls : Array Slot} {tx : String} (hexec : p.tables.exec = Jvm.exec) (hb : c.code = cc) (hfl : l.flags = flags0) (hown : s.vm.findClass xc_X = some m.cls)
    (hts : ∀ w ∈ tw_W, w.before args s = true) (hT : th_S s) (hemp : c.exceptionTable.isEmpty = true) (hlocks : meth.locks = false) (hml : ls.size = c.maxLocals) (hZ : vk_R xc_X k tx q s)
    (d0 : decode cc pc = .ok (.new 92, 3)) (d3 : decode cc (pc + 3) = .ok (.dup, 1)) (d4 : decode cc (pc + 4) = .ok (.ldc k, 2)) (d6 : decode cc (pc + 6) = .ok (.invokespecial 96, 3)) (d9 : decode cc (pc + 9) = .ok (.athrow, 1))
    (hR : 5 < R.frames ∧ 82 ≤ R.locals ∧ 1 ≤ R.cells ∧ 6 ≤ R.slots) : W p l e R s m args below meth c s.heap [] 0 0 (MQT below th_X s 1 6) (F0 m pc ls []) := by
  refine W.newc (C := th_X) (n := 6) hexec hb hown (hts _ xm_499) (hts _ tm_inst) (hts _ tm_init) rfl d0 (by omega) (by omega) (fun cX kX hX hkX hord hsz => ?_)
  refine W.eq (g2 := F0 m (pc + 3) ls [.ref s.heap.size]) rfl ?_
  refine lv_dup hexec hb d3 rfl ?_
  refine va_ldcS hexec hb hown hZ d4 ?_
  intro W9 hW9 X
  have htr : e.platform.stackTraces = false := Launch.traces_off hfl X.admits
  have hcell : W9.heap[s.heap.size]? = some (freshCell cX kX) := by rw [hW9]; simp [freshCell]
  obtain ⟨U, st, hrun, hend, hwarm, hsame, ce, hce, hoc⟩ := X.ctorThrowS hexec htr (own := xc_X) (cls := th_X) (names := th_N) (ic := 96) hown (by decide +kernel) (by decide +kernel) (th_before hts hT) (fun x hx => absurd hx List.not_mem_nil) hX hkX hcell (Nat.le_refl _) (msg := .ref q) rfl (g := F0 m (pc + 4 + 2) ls [.ref q, .ref s.heap.size, .ref s.heap.size]) rfl hml rfl rfl (rest := []) rfl (by rw [hb]; exact d6) (by rw [hb]; exact d9) (no_cov hemp _) (by show 5 < R.frames; exact hR.1) (by show 82 ≤ R.locals; exact hR.2.1)
  exact ⟨U, st, .threw s.heap.size, hrun, hend, s.heap.size, ce, rfl, hce, hoc.cls, hoc.vm, hwarm, by simpa using hsame⟩
theorem wt_back (X : Stand p l e R s m args below meth c T locs cells slots)
    {y : MethodName} {ws : List Cond} {rm : Room} {Pc : Array Value → State → Prop} {nm : String} {mc ms : Nat} {bytes : ByteArray} {maxL : Nat} {ret : Option FieldType} {own : String} {index n : Nat}
    (hM : MetT l y ws rm Pc nm mc ms) (hbl : FrameBlind Pc) (cb : CallB R s args own index y bytes maxL ret ws rm mc ms n)
    {g : JFrame} (hg : g.method = m) (hsize : g.locals.size = c.maxLocals) {ig : Instr} (hdg : decode c.code g.pc = .ok (ig, 3)) (hW : 2 * g.monitorRoom + (g.stack.map fun v => v.category).sum ≤ 8)
    {mk : MethodId} (hn : T.methodNamed? y = some mk) {a : Array Value} (hp : Pc a T) (hf : cells + mc ≤ R.cells ∧ slots + ms ≤ R.slots) :
    ∃ (x : Addr) (ce : Cell) (T' : State), Stand p l e R s m args below meth c T' locs (cells + mc) (slots + ms) ∧ T'.heap[x]? = some ce ∧ s.vm.findClass nm = some ce.cls ∧ ce.vm = .none ∧ T.heap.size ≤ T'.heap.size ∧ (∀ q : Nat, q < T.heap.size → T'.heap[q]? = T.heap[q]?) ∧
      Steps p.tables e below (doInvoke e (T.setTop g) [] mk a).1 ((T'.setTop g).pushFrame (.throwing x)) := by
  obtain ⟨hrc, hrs, hfr, hlo, hws, hcw, -, hini, -⟩ := cb
  have h2 : (Cond.code y bytes maxL ret).before a T = true := hws _ hcw _ _ X.warmed
  have h3 : (Cond.initialized y.cls).before a T = true := word_at X.warmed (Or.inl (by first | rfl | simp [Cond.onTables, Cond.keeps, Cond.steady])) hini
  obtain ⟨methY, cY, hmY, hcY, -, hlY, -, -, -, -⟩ := Cond.code_spec hn h2
  obtain ⟨kY, hkY, -⟩ := className_of_methodNamed hn
  have hinitY : kY.init = .initialized := Cond.initialized_spec (findClass_of_methodNamed hn) hkY h3
  have h : At T g.method c below := by rw [hg]; exact X.here
  have happ : (headSpec ws rm).appliesLoose y e.platform (T.calling g mk a) = true :=
    Spec.appliesLoose_calling (g := g) h hdg hn hkY hinitY
      (X.room_calling (g := g) (R' := rm) hsize hmY hcY hfr (by rw [hlY]; omega) (by rw [hrc]; exact hf.1) (by rw [hrs]; exact hf.2)) (atoms_intro fun w hw => hws w hw _ _ X.warmed)
  obtain ⟨mid, hmid⟩ := h.above
  have hfrm : (T.setTop g).frames = (.java g :: mid) ++ below := by rw [State.frames_setTop' g h.top, hmid]; rfl
  obtain ⟨o, s₂, hsteps, -, hend, x, ce, rfl, hx1, hx2, hx3, hW2, hsame⟩ := Steps.callFree hM p X.admits X.cas X.clock (acts := []) hfrm happ (hbl _ _ _ _ hp) trivial
  rw [State.frames_setTop' g h.top, X.tail] at hend
  obtain ⟨T', X', hWT, hs2, ht⟩ := X.outOfThrown (mk := mk) (a := a) hg hend hW2 hsame
  have e1 : T'.heap = s₂.heap := by rw [ht]; exact (Stand.throwing_heap T' g x).symm
  obtain ⟨n1, n2⟩ := sn_nil hs2
  refine ⟨x, ce, T', by simpa using X', by rw [e1]; exact hx1, ?_, hx3, n1, n2, by rw [← ht]; exact hsteps⟩
  have hfc : T.vm.findClass nm = some ce.cls := hx2
  rw [X.warmed.alike.findClass] at hfc
  exact hfc
theorem wt_callS {y : MethodName} {ws : List Cond} {rm : Room} {Pc : Array Value → State → Prop} {nm : String} {mc ms : Nat} {bytes cc : ByteArray} {maxL nL : Nat} {ret : Option FieldType} {own : String} {index n pc : Nat} {Ts : List Cond} {As rest : List Value} {ls : Array Slot}
    (S : CallFix p m c cc nL s args Ts own) (hM : MetT l y ws rm Pc nm mc ms) (cw : CallB R s args own index y bytes maxL ret ws rm mc ms n ∧ (Cond.static y).before args s = true) (hp : PreS s s.heap Pc As)
    (hemp : c.exceptionTable.isEmpty = true) (hlocks : meth.locks = false) (hn : As.length = n) (hsize : ls.size = nL) (hW : (rest.map fun v => v.category).sum ≤ 8) (hdg : decode cc pc = .ok (.invokestatic index, 3)) (hf : mc ≤ R.cells ∧ ms ≤ R.slots) :
    W p l e R s m args below meth c s.heap [] 0 0 (MQT below nm s mc ms) (F0 m pc ls (As.reverse ++ rest)) := by
  have cb := cw.1
  obtain ⟨⟨-, -, -, -, -, -, hcode, hini, hy, hlen, hl⟩, hstt⟩ := cw
  obtain ⟨hx, hb, hml, ho, -⟩ := S
  intro T hT X
  obtain ⟨mk, hnamed⟩ := Cond.code_named hcode
  obtain ⟨methM, cM, hmethM, -, -, -, -, -, -, hsigM⟩ := Cond.code_spec hnamed hcode
  have hstatic : methM.isStatic = true := Cond.static_spec hnamed hmethM hstt
  obtain ⟨kP, hkP, -⟩ := className_of_methodNamed hnamed
  have hinitP : kP.init = .initialized := Cond.initialized_spec (findClass_of_methodNamed hnamed) hkP hini
  obtain ⟨vm₁, X₁, hstep₁⟩ := X.invokestatic hx ho hl hnamed hmethM hstatic hkP hinitP hy (g := F0 m pc ls (As.reverse ++ rest)) rfl (argsL := As) (rest := rest) (hn.trans (hlen _ hsigM)) rfl (by rw [hb]; exact hdg)
  obtain ⟨x, ce, T', X', e1, e2, e3, -, -, st⟩ := wt_back X₁ hM hp.1 cb (g := F0 m pc ls rest) rfl (hsize.trans hml.symm) (ig := .invokestatic index) (by rw [hb]; exact hdg) (by simpa using hW) (X₁.named hnamed) (hp.2 _ hT X₁.warmed) (by simpa using hf)
  obtain ⟨hw, h1, h2, h3, h4⟩ := X'.leaveThrown x (g := F0 m pc ls rest) rfl rfl rfl (no_cov hemp _) hlocks
  exact ⟨_, hstep₁ _ fun acts => by rw [doInvoke_state]; exact st.trans hw, .threw x, h1, h2, x, ce, rfl, e1, e2, e3, h3, by simpa using h4⟩
theorem wt_catch (X : Stand p l e R s m args below meth c T locs cells slots) (x : Addr) {g : JFrame} (hg : g.method = m) {own nm : String} (hown : s.vm.findClass own = some m.cls) {en : ExceptionTableEntry}
    (htab : c.exceptionTable.toList = [en]) (hcov : covers en g.pc = true) (h0 : en.catchType ≠ 0) (hlink : (Cond.classLink own en.catchType nm).before args s = true) {ce : Cell} (hce : T.heap[x]? = some ce) (hobj : ce.vm = .none) (hcls : s.vm.findClass nm = some ce.cls) :
    ∃ vm', Stand p l e R s m args below meth c (T.setVm vm') locs cells slots ∧
      ∀ target, Steps p.tables e below ((T.setVm vm').setTop { g with pc := en.handlerPc, stack := [.ref x] }) target → Steps p.tables e below ((T.setTop g).pushFrame (.throwing x)) target := by
  subst hg
  have hpl : e.platform.magicAccessors = ({} : Platform).magicAccessors := by rw [X.admits.platform]
  obtain ⟨cT, hcT, hl⟩ := Cond.classLink_spec hown hlink e.platform hpl
  cases hcls.symm.trans hcT
  obtain ⟨dk, _, _, kt, hd, _, _, _, _, hkt, _, hopen⟩ := hl.here
  have hlT := X.warmed.classLinks hl
  have hal := X.warmed.alike
  obtain ⟨kt', hkt', -⟩ := hal.2.2 _ _ hkt
  have haln : T.vm.Alike (T.vm.noted g.method.cls en.catchType (.cls ce.cls)) := (Vm.Alike.refl T.vm).noted _ _ _
  obtain ⟨k2, hk2, -⟩ := haln.2.2 _ _ hkt'
  have hfit : (T.vm.noted g.method.cls en.catchType (.cls ce.cls)).assignable ce.cls ce.cls = true := va_asg _ _
  refine ⟨T.vm.noted g.method.cls en.catchType (.cls ce.cls), X.noted (X.warmed.noted hd hopen (State.rightAt_cls hl)), fun target hrest => ?_⟩
  have hm1 : ((T.setTop g).pushFrame (.throwing x)).vm = T.vm := Stand.throwing_vm T g x
  have hh1 : ((T.setTop g).pushFrame (.throwing x)).heap = T.heap := Stand.throwing_heap T g x
  have hfind : ∀ (Q9 : Handler → Pre) (E9 : CtlPost) (d9 : Bool) (acts : List Action), wp (findHandler g x) Q9 E9 e d9 acts ((T.setTop g).pushFrame (.throwing x)) ↔ Q9 (.found en.handlerPc) d9 acts (((T.setTop g).pushFrame (.throwing x)).setVm (T.vm.noted g.method.cls en.catchType (.cls ce.cls))) := by
    intro Q9 E9 d9 acts
    rw [W.findHandler_eq (meth := meth) (code := c) (by rw [hm1]; exact X.method') X.code, htab]
    generalize hU : (T.setTop g).pushFrame (.throwing x) = U at hm1 hh1 ⊢
    have hlU : U.vm.ClassLinks e.platform g.method.cls en.catchType ce.cls := by rw [hm1]; exact hlT
    obtain ⟨ha, ht⟩ := (resolveClass_links e.toSetting hlU).op (op := VmOp.resolveClass g.method.cls en.catchType) rfl
    have hcU : U.heap[x]? = some ce := by rw [hh1]; exact hce
    have hcov' := hcov
    simp only [covers] at hcov'
    rw [hm1] at ha ht
    simp [findHandler.go, hcov', h0, hm1, ha, ht, hcU, hobj, hk2, hfit, VmOp.dirties, VmOp.acts]
  obtain ⟨hgo, hw⟩ := X.here.throwing x (g := g)
  refine Steps.head hgo hw ?_
  have hstep : (stepThrowing e ((T.setTop g).pushFrame (.throwing x)) x (.java g :: T.frames.tail)).Is ((((T.setTop g).pushFrame (.throwing x)).setVm (T.vm.noted g.method.cls en.catchType (.cls ce.cls))).setFrames (.java { g with pc := en.handlerPc, stack := [.ref x] } :: T.frames.tail)) [] := by
    simp only [stepThrowing, searchFrame, vmDo]
    generalize hr : Sem.go _ e false [] ((T.setTop g).pushFrame (.throwing x)) = res
    obtain ⟨as, rfl, ha⟩ := Sem.eq_ok_of hr (a := Handler.found en.handlerPc) (s' := ((T.setTop g).pushFrame (.throwing x)).setVm (T.vm.noted g.method.cls en.catchType (.cls ce.cls))) (acts' := []) (by simp [hfind _ _ _ _])
    exact ⟨rfl, ha⟩
  rw [stepThread_throwing (frames_entered X.here.top _), hstep.1]
  obtain ⟨g₀, hg0⟩ := Option.isSome_iff_exists.mp X.here.top
  obtain ⟨r, hr⟩ := State.topJava?_eq_some.mp hg0
  have hr' : (T.setVm (T.vm.noted g.method.cls en.catchType (.cls ce.cls))).frames = .java g₀ :: r := hr
  rw [State.setTop_of_frames _ hr'] at hrest
  have e9 : ((((T.setTop g).pushFrame (.throwing x)).setVm (T.vm.noted g.method.cls en.catchType (.cls ce.cls))).setFrames (.java { g with pc := en.handlerPc, stack := [.ref x] } :: T.frames.tail)) = (T.setVm (T.vm.noted g.method.cls en.catchType (.cls ce.cls))).setFrames (.java { g with pc := en.handlerPc, stack := [.ref x] } :: r) := by
    rw [hr, List.tail_cons, State.setTop_of_frames _ hr, State.pushFrame, State.setFrames_setFrames]
    exact State.setFrames_setFrames (T.setVm (T.vm.noted g.method.cls en.catchType (.cls ce.cls))) _ _
  rw [e9]
  exact hrest
theorem wt_callVC {y : MethodName} {ws : List Cond} {rm : Room} {Pc : Array Value → State → Prop} {nm : String} {mc ms : Nat} {bytes cc : ByteArray} {maxL nL : Nat} {ret : Option FieldType} {own C : String} {index n pc : Nat} {Ts : List Cond} {As rest : List Value} {ls : Array Slot} {b : Addr} {A0 : Nat → Prop} {H0 : Heap} {en : ExceptionTableEntry}
    (S : CallFix p m c cc nL s args Ts own) (hM : MetT l y ws rm Pc nm mc ms) (cw : CallW R s args own C index y bytes maxL ret ws rm mc ms n) (hp : PreV s H C b Pc As)
    (htab : c.exceptionTable.toList = [en]) (hcov : covers en pc = true) (h0 : en.catchType ≠ 0) (hlink : (Cond.classLink own en.catchType nm).before args s = true)
    (hn : As.length = n) (hsize : ls.size = nL) (hW : (rest.map fun v => v.category).sum ≤ 8) (hdg : decode cc pc = .ok (.invokevirtual index, 3)) (hf : cells + mc ≤ R.cells ∧ slots + ms ≤ R.slots) (hS : va_S A0 H0 H locs)
    (kk : ∀ (x : Addr) (H1 : Heap), H.size ≤ H1.size → (∀ q : Nat, q < H.size → H1[q]? = H[q]?) → va_S A0 H0 H1 locs → W p l e R s m args below meth c H1 locs (cells + mc) (slots + ms) Q (F0 m en.handlerPc ls [.ref x])) :
    W p l e R s m args below meth c H locs cells slots Q (F0 m pc ls (As.reverse ++ .ref b :: rest)) := by
  have cb := cw.1
  obtain ⟨⟨-, -, -, -, -, -, hcode, hini, hy, hlen, hl⟩, hinst, hsel⟩ := cw
  obtain ⟨hx, hb, hml, ho, -⟩ := S
  obtain ⟨hbl, ⟨cellB, hcB, hoB, hclB⟩, hPc⟩ := hp
  intro T hT X
  obtain ⟨mk, methM, hnamed, hmethM, hstM, habM⟩ := Cond.instanceMethod_spec hinst
  obtain ⟨methM', cM, hmethM', -, -, -, -, -, -, hsigM⟩ := Cond.code_spec hnamed hcode
  cases hmethM.symm.trans hmethM'
  obtain ⟨c2, r2, m2, q1, q2, q3, q4, kP, hkP, hkPi⟩ := Cond.selects_spec hsel
  cases hclB.symm.trans q1
  cases (State.methodFound?_of_named hnamed hy).symm.trans q2
  cases hnamed.symm.trans q3
  have hselP : selectMethod e.platform s.vm cellB.cls mk = .method mk := by rw [Launch.admits_selectMethod X.admits]; exact q4
  obtain ⟨vm₁, X₁, hstep₁⟩ := X.invokevirtual hx ho hl hnamed hmethM hstM hkP hkPi hy (a := b) (cell := cellB) (by rw [hT]; exact hcB)
    (fun z h => by rw [h] at hoB; cases hoB) hselP hmethM habM hkP hkPi (g := F0 m pc ls (As.reverse ++ .ref b :: rest)) rfl (argsL := As) (rest := rest) (hn.trans (hlen _ hsigM)) rfl (by rw [hb]; exact hdg)
  obtain ⟨x, ce, T', X', e1, e2, e3, e4, e5, st⟩ := wt_back X₁ hM hbl cb (g := F0 m pc ls rest) rfl (hsize.trans hml.symm) (ig := .invokevirtual index) (by rw [hb]; exact hdg) (by simpa using hW) (X₁.named hnamed) (hPc _ hT X₁.warmed) hf
  obtain ⟨vm', X'', st2⟩ := wt_catch X' x (g := F0 m pc ls rest) rfl ho htab hcov h0 hlink e1 e3 e2
  have hT1 : (T.setVm vm₁).heap = H := hT
  rw [hT1] at e4 e5
  obtain ⟨t, a1, b1⟩ := kk x T'.heap e4 e5 ⟨Nat.le_trans hS.1 e4, fun q h1 h2 => by rw [e5 q (Nat.lt_of_lt_of_le h1 hS.1)]; exact hS.2.1 q h1 h2, hS.2.2⟩ (T'.setVm vm') rfl X''
  exact ⟨t, hstep₁ _ fun acts => by rw [doInvoke_state]; exact st.trans (st2 _ a1), b1⟩
end
