def ym_fm : MethodName := ⟨"java/lang/Math", "floorMod", "(II)I"⟩
abbrev bm_fm : ByteArray := prog_13_method_50_code
theorem ym_hd : ym_fm.cls ≠ "java/lang/invoke/MethodHandle" ∧ ym_fm.cls ≠ "java/lang/invoke/VarHandle" ∧ (parseMethodDescriptor ym_fm.desc).map (fun d => d.parameters.length) = some 2 := by decide +kernel
theorem gi_fm {own : String} {i : Nat} (h1 : .methodLink own i ym_fm ∈ tw_W) : GoodIn tw_W (va_wsS own i ym_fm (.code ym_fm bm_fm 3 (some .int) :: tw_W)) := tw_gs (fun w hw => by
  simp only [List.mem_cons, List.not_mem_nil, or_false] at hw
  rcases hw with rfl | rfl | rfl
  · exact h1
  · exact xm_387
  · exact xm_11) (tw_g xm_388)
theorem mf_ofW {l : Launch} {y : MethodName} {ws ws' : List Cond} {rm : Room} {Pc : Array Value → State → Prop} {Qc : Array Value → State → Outcome → State → Prop} {mc ms : Nat} {free : Addr → Prop} {cc : ByteArray} {maxL : Nat} {ret : Option FieldType}
    (hy : plainFor y = true) (hw : ws = Cond.code y cc maxL ret :: ws')
    (body : ∀ p e s m args below meth c s₁, BodyLoose p l y (headSpec ws rm) cc maxL ret e s m args below meth c s₁ → c.maxLocals = maxL → Pc args s →
      W p l e (headSpec ws rm).room s m args below meth c s.heap [] 0 0 (MQ below Qc args s mc ms free) (entryFrame m args maxL)) : Met l y ws rm Pc Qc mc ms free := by
  refine MetFree.of_bodySF (code := cc) (maxLocals := maxL) (ret := ret) hy ?_ ?_
  · intro args s m h hn
    obtain ⟨meth, c, h1, h2, h3, h4, h5, h6, -, -⟩ := Cond.code_spec hn (atoms_spec (ws := ws) h _ (by rw [hw]; exact List.mem_cons_self))
    exact ⟨meth, c, h1, h2, h3, h4, h5, h6⟩
  · intro p e s m args below meth c s₁ B hml hP _
    have hh0 : s₁.heap = s.heap := by rw [B.state]; rfl
    obtain ⟨t, a1, o, b1, b2, b3⟩ := body p e s m args below meth c s₁ B hml hP s₁ hh0 (Stand.of_body B)
    exact ⟨t, o, a1, b1, b2, ⟨b3.1, b3.2⟩⟩
theorem fm_x : ∀ k, k < 1000 → 0 ≤ (nI k ^^^ nI 16) := by decide +kernel
theorem xd_Ma_floorMod_0 : decode bm_fm 0 = .ok (.iload_n 0, 1) := by decide +kernel
theorem xd_Ma_floorMod_1 : decode bm_fm 1 = .ok (.iload_n 1, 1) := by decide +kernel
theorem xd_Ma_floorMod_2 : decode bm_fm 2 = .ok (.irem, 1) := by decide +kernel
theorem xd_Ma_floorMod_3 : decode bm_fm 3 = .ok (.istore_n 2, 1) := by decide +kernel
theorem xd_Ma_floorMod_4 : decode bm_fm 4 = .ok (.iload_n 0, 1) := by decide +kernel
theorem xd_Ma_floorMod_5 : decode bm_fm 5 = .ok (.iload_n 1, 1) := by decide +kernel
theorem xd_Ma_floorMod_6 : decode bm_fm 6 = .ok (.ixor, 1) := by decide +kernel
theorem xd_Ma_floorMod_7 : decode bm_fm 7 = .ok (.ifCond .ge 11, 3) := by decide +kernel
theorem xd_Ma_floorMod_10 : decode bm_fm 10 = .ok (.iload_n 2, 1) := by decide +kernel
theorem xd_Ma_floorMod_11 : decode bm_fm 11 = .ok (.ifCond .eq 7, 3) := by decide +kernel
theorem xd_Ma_floorMod_14 : decode bm_fm 14 = .ok (.iload_n 2, 1) := by decide +kernel
theorem xd_Ma_floorMod_15 : decode bm_fm 15 = .ok (.iload_n 1, 1) := by decide +kernel
theorem xd_Ma_floorMod_16 : decode bm_fm 16 = .ok (.iadd, 1) := by decide +kernel
theorem xd_Ma_floorMod_17 : decode bm_fm 17 = .ok (.ireturn, 1) := by decide +kernel
theorem xd_Ma_floorMod_18 : decode bm_fm 18 = .ok (.iload_n 2, 1) := by decide +kernel
theorem xd_Ma_floorMod_19 : decode bm_fm 19 = .ok (.ireturn, 1) := by decide +kernel
set_option maxHeartbeats 4000000 in
set_option maxRecDepth 100000 in
theorem ct_fm (l : Launch) (G : va_G) (cA : Nat → ClassId) (a : Nat) (ha : a < 1000) : Met l ym_fm (.code ym_fm bm_fm 3 (some .int) :: tw_W) ({ frames := 0, cells := 0, slots := 0, locals := 0 }) (pc_r G cA [] [.int (nI a), .int (nI 16)]) (vp_Si (fun r : Int32 => r = nI (a % 16))) 0 0 (fun _ => False) := by
  refine mf_ofW (cc := bm_fm) (maxL := 3) (ret := (some .int)) (by decide +kernel) rfl ?_
  intro p e s m args below meth c s₁ B hml hv
  obtain ⟨rfl, hK, hP⟩ := hv
  have hx := B.exec
  have hb := B.bytes
  have hr := B.returns
  have hts0 := atoms_spec (ws := .code ym_fm bm_fm 3 (some .int) :: tw_W) B.pre
  have hts : ∀ w9 ∈ tw_W, w9.before [.int (nI a), .int (nI 16)].toArray s = true := fun w9 h9 => hts0 w9 (List.mem_cons_of_mem _ h9)
  have hown : s.vm.findClass "java/lang/Math" = some m.cls := findClass_of_methodNamed B.named
  have hlocks := B.notSynchronized
  have hP : va_P G xk_cl [] s.heap := hP
  have hl := lv_entry ([.int (nI a), .int (nI 16)]) (n := 3) (Nat.le_of_ble_eq_true rfl)
  rw [lg_entry_eq]
  generalize (lg_sl ([.int (nI a), .int (nI 16)]) ++ List.replicate (3 - (lg_sl ([.int (nI a), .int (nI 16)])).length) Slot.unset).toArray = ls at hl ⊢
  have hl : lv_has ls 3 [(0, .int (nI a)), (1, .int (nI 16))] := hl
  refine lv_iload_n hx hb xd_Ma_floorMod_0 rfl (lv_at hl 0 rfl) ?_
  refine lv_iload_n hx hb xd_Ma_floorMod_1 rfl (lv_at hl 1 rfl) ?_
  refine lx_irem (z := nI (a % 16)) hx hb xd_Ma_floorMod_2 (by decide) (pk_rem (by omega) (by omega) (by omega)) ?_
  refine lv_istore_n (lv' := [(2, .int (nI (a % 16))), (0, .int (nI a)), (1, .int (nI 16))]) hx hb xd_Ma_floorMod_3 rfl hl (by decide) rfl (fun ls hl => ?_)
  refine lv_iload_n hx hb xd_Ma_floorMod_4 rfl (lv_at hl 1 rfl) ?_
  refine lv_iload_n hx hb xd_Ma_floorMod_5 rfl (lv_at hl 2 rfl) ?_
  refine lv_ixor hx hb xd_Ma_floorMod_6 ?_
  refine lv_if_ge (tgt := 18) hx hb xd_Ma_floorMod_7 (by decide) (fun c_7_0 => ?_) (fun c_7_0 => absurd (fm_x _ ha) c_7_0)
  refine lv_iload_n hx hb xd_Ma_floorMod_18 rfl (lv_at hl 0 rfl) ?_
  exact W.iret (v := nI (a % 16)) hx hb hr (fun T9 ht _ => ⟨_, rfl, rfl, ht⟩) (fun _ h => absurd h List.not_mem_nil) xd_Ma_floorMod_19
