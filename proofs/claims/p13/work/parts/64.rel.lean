def hh_R (L : List hs_T) (old cn : Nat) (sa kd vl : Nat → Int32) (ml : Nat) : Prop := ∀ k, k < cn → ∃ s c, hv_V L ((old + (cn - 1 - k)) % 16) = some (s, c) ∧ sh_R sa kd vl (2 + (ml + 16 - k) % 16) s c ∧ st_O s ∧ wv_O c ∧ wz_O c
abbrev hi_P (L : List hs_T) (old cn : Nat) : Prop := (old = 0 ∧ cn ≤ L.length ∧ L.length ≤ 16) ∨ (L.length = 16 ∧ old < 16)
theorem sh_kp {sa kd vl sa2 kd2 vl2 st ce s1 c1 : Nat → Int32} {s t : Nat} (h : kp_M sa kd vl sa2 kd2 vl2 s st ce) (g : sh_R sa kd vl t s1 c1) (h2 : 2 ≤ t) (hn : ¬ t = s) : sh_R sa2 kd2 vl2 t s1 c1 :=
  ⟨fun n hn' => by rw [h.2.1 _ (by omega) (by omega)]; exact g.1 n hn', fun j hj => by rw [(h.2.2 _ (by omega) (by omega)).1, (h.2.2 _ (by omega) (by omega)).2]; exact g.2 j hj⟩
theorem sh_hs {sa kd vl sa2 kd2 vl2 s1 c1 : Nat → Int32} {t : Nat} (h : hs_S sa kd vl sa2 kd2 vl2) (g : sh_R sa kd vl t s1 c1) (h2 : 2 ≤ t) : sh_R sa2 kd2 vl2 t s1 c1 :=
  ⟨fun n hn' => by rw [h.1 _ (by omega)]; exact g.1 n hn', fun j hj => by rw [(h.2 _ (by omega)).1, (h.2 _ (by omega)).2]; exact g.2 j hj⟩
theorem hh_same {L : List hs_T} {old cn : Nat} {sa kd vl sa2 kd2 vl2 : Nat → Int32} {ml : Nat} (h : hh_R L old cn sa kd vl ml) (g : hs_S sa kd vl sa2 kd2 vl2) : hh_R L old cn sa2 kd2 vl2 ml := fun k hk => by
  obtain ⟨s, c, h1, h2, h3⟩ := h k hk
  exact ⟨s, c, h1, sh_hs g h2 (by omega), h3⟩
theorem hh_pop {L : List hs_T} {old cn : Nat} {sa kd vl sa2 kd2 vl2 : Nat → Int32} {ml : Nat} (h : hh_R L old cn sa kd vl ml) (h0 : ¬ cn = 0) (h16 : cn ≤ 16) (hl : ml < 16) (g : hs_S sa kd vl sa2 kd2 vl2) : hh_R L old (cn - 1) sa2 kd2 vl2 ((ml + 15) % 16) := fun k hk => by
  obtain ⟨s, c, h1, h2, h3⟩ := h (k + 1) (by omega)
  refine ⟨s, c, ?_, ?_, h3⟩
  · rw [← h1]; congr 2; omega
  · have := sh_hs g h2 (by omega)
    rw [show 2 + ((ml + 15) % 16 + 16 - k) % 16 = 2 + (ml + 16 - (k + 1)) % 16 by omega]
    exact this
theorem hh_push {L L2 : List hs_T} {old cn old2 cn2 : Nat} {sa kd vl sa2 kd2 vl2 st ce : Nat → Int32} {ml : Nat} (h : hh_R L old cn sa kd vl ml) (h16 : cn ≤ 16) (hl : ml < 16) (hi : hi_P L old cn) (hk : kp_Q L L2 old cn old2 cn2 st ce) (hM : kp_M sa kd vl sa2 kd2 vl2 (2 + (ml + 1) % 16) st ce) (hs : st_O st) (hv : wv_O ce) (hz : wz_O ce) :
    hh_R L2 old2 cn2 sa2 kd2 vl2 ((ml + 1) % 16) ∧ mm_N cn = cn2 ∧ cn2 ≤ 16 ∧ hi_P L2 old2 cn2 := by
  obtain ⟨⟨k1, k2⟩, k3, k4⟩ := hk
  have hn : mm_N cn = cn2 ∧ cn2 ≤ 16 := by
    unfold mm_N
    by_cases q : cn < 16
    · rw [if_pos q]; have := (k3 q).2; omega
    · rw [if_neg q]; have := (k4 q).2; omega
  refine ⟨fun k hk => ?_, hn.1, hn.2, ?_⟩
  · by_cases q : k = 0
    · refine ⟨st, ce, ?_, ?_, hs, hv, hz⟩
      · rw [k1, if_pos]
        by_cases z : cn < 16
        · have := k3 z; omega
        · have := k4 z; omega
      · rw [show 2 + ((ml + 1) % 16 + 16 - k) % 16 = 2 + (ml + 1) % 16 by omega]; exact hM.1
    · obtain ⟨s, c, h1, h2, h3⟩ := h (k - 1) (by by_cases z : cn < 16; have := k3 z; omega; have := k4 z; omega)
      refine ⟨s, c, ?_, ?_, h3⟩
      · have e : (old2 + (cn2 - 1 - k)) % 16 = (old + (cn - 1 - (k - 1))) % 16 := by
          by_cases z : cn < 16
          · have := k3 z; omega
          · have := k4 z; omega
        rw [k1, e, if_neg]
        · exact h1
        · by_cases z : cn < 16
          · have := k3 z; omega
          · have := k4 z; omega
      · rw [show 2 + ((ml + 1) % 16 + 16 - k) % 16 = 2 + (ml + 16 - (k - 1)) % 16 by omega]
        exact sh_kp hM h2 (by omega) (by omega)
  · unfold hi_P at hi ⊢
    by_cases z : cn < 16
    · have := k3 z
      by_cases y : (old + cn) % 16 < L.length
      · rw [if_pos y] at k2; omega
      · rw [if_neg y] at k2; omega
    · have := k4 z
      by_cases y : (old + cn) % 16 < L.length
      · rw [if_pos y] at k2; omega
      · rw [if_neg y] at k2; omega
def lr_I (tn : Nat → Nat) (cnt : Nat) (st ce : Nat → Int32) (L : List hs_T) (old cn uc : Nat) (sa kd vl : Nat → Int32) (mm ml mu b : Nat) (pl dl mp mn : Int32) : Prop :=
  (cnt ≤ 300 ∧ ∀ j, tn j < 128) ∧ (wv_O ce ∧ wz_O ce ∧ st_O st) ∧ sn_R sa kd vl st ce ∧ (hh_R L old cn sa kd vl ml ∧ mm = cn ∧ cn ≤ 16 ∧ ml < 16 ∧ hi_P L old cn) ∧ (mp = pl ∧ mn = dl) ∧ (uc ≤ 40 ∧ mu ≤ 40) ∧ b ≤ 1
section
variable {tn : Nat → Nat} {cnt : Nat} {st ce : Nat → Int32} {L : List hs_T} {old cn uc : Nat} {sa kd vl : Nat → Int32} {mm ml mu b : Nat} {pl dl mp mn : Int32}
theorem lr_sign (h : lr_I tn cnt st ce L old cn uc sa kd vl mm ml mu b pl dl mp mn) (x : Int32) : lr_I (ap_T tn cnt x) (ap_C cnt x) st ce L old cn uc sa kd vl mm ml mu b pl dl mp mn := by
  obtain ⟨⟨h1, h2⟩, h3⟩ := h
  refine ⟨?_, h3⟩
  unfold ap_C ap_T
  by_cases q : ¬ x < nI 32 ∧ ¬ nI 126 < x ∧ cnt < 300
  · rw [if_pos q, if_pos q]
    refine ⟨by have := q.2.2; omega, fun j => ?_⟩
    unfold un_N
    by_cases e : j = cnt
    · rw [if_pos e]; have := (ap_N q.1 q.2.1).2.2; omega
    · rw [if_neg e]; exact h2 j
  · rw [if_neg q, if_neg q]; exact ⟨h1, h2⟩
theorem lr_run {fo : Int32} {uf uf2 : Nat → Nat} {r r9 : Int32} {st2 ce2 : Nat → Int32} {L2 : List hs_T} {old2 cn2 uc2 : Nat} {pl2 dl2 : Int32} {sa2 kd2 vl2 : Nat → Int32} {mm2 ml2 mu2 b2 : Nat} {mp2 mn2 : Int32} (h : lr_I tn cnt st ce L old cn uc sa kd vl mm ml mu b pl dl mp mn)
    (hQ : rn_Q fo tn cnt st ce L old cn uc uf pl dl r st2 ce2 L2 old2 cn2 uc2 uf2 pl2 dl2) (hM : b2 ≤ 1 ∧ mq_R (tx_F fo tn cnt (cnt + 1) 0 st ce 0 0) st ce sa kd vl mm ml mp mn r9 sa2 kd2 vl2 mm2 ml2 mu2 mp2 mn2) :
    r = r9 ∧ lr_I tn 0 st2 ce2 L2 old2 cn2 uc2 sa2 kd2 vl2 mm2 ml2 mu2 b2 pl2 dl2 mp2 mn2 := by
  obtain ⟨⟨h1, h2⟩, ⟨hw, hz, hs⟩, hR, ⟨hh, hm, h16, hl, hi⟩, ⟨hp, hd⟩, ⟨hu, hmu⟩, hb⟩ := h
  obtain ⟨hb2, hmu2, hM⟩ := hM
  rcases hQ with ⟨q1, rfl, rfl, rfl, rfl, rfl, rfl, rfl, rfl, rfl, rfl⟩ | ⟨q1, rfl, rfl, rfl, q5, q6, q7, q8, rfl, rfl⟩
  · rcases hM with ⟨m1, rfl, m3, m4, rfl, rfl, rfl, rfl⟩ | ⟨m1, -⟩
    · exact ⟨rfl, ⟨by decide, h2⟩, ⟨hw, hz, hs⟩, m3, ⟨hh_same hh m4, hm, h16, hl, hi⟩, ⟨hp, hd⟩, ⟨hu, hmu2⟩, hb2⟩
    · exact absurd q1 m1
  · rcases hM with ⟨m1, -⟩ | ⟨m1, rfl, m3, mz, mv, m4, rfl, rfl, rfl, rfl⟩
    · exact absurd m1 q1
    · obtain ⟨g1, g2, g3, g4⟩ := hh_push hh h16 hl hi ⟨q5, q6.1, q6.2⟩ m4 hs hw hz
      subst hm
      exact ⟨rfl, ⟨by decide, h2⟩, ⟨mv, mz, tx_so _ _ _ _ _ _ _ _ _ hs⟩, m3, ⟨g1, g2, g3, by omega, g4⟩, ⟨rfl, rfl⟩, ⟨by rw [q7]; exact ct_N_le _ _, hmu2⟩, hb2⟩
theorem lr_dry {fo : Int32} {r r9 : Int32} {sa2 kd2 vl2 : Nat → Int32} {b2 : Nat} (h : lr_I tn cnt st ce L old cn uc sa kd vl mm ml mu b pl dl mp mn) (hQ : r = dr_R fo tn cnt st ce) (hM : b2 ≤ 1 ∧ md_R (tx_F fo tn cnt (cnt + 1) 0 st ce 0 0) st ce sa kd vl r9 sa2 kd2 vl2) :
    r = r9 ∧ lr_I tn cnt st ce L old cn uc sa2 kd2 vl2 mm ml mu b2 pl dl mp mn := by
  obtain ⟨h1, h2, hR, ⟨hh, h5⟩, h6, h7, hb⟩ := h
  obtain ⟨hb2, m1, m2, m3⟩ := hM
  exact ⟨by rw [hQ, m3, dr_R], h1, h2, m1, ⟨hh_same hh m2, h5⟩, h6, h7, hb2⟩
theorem lr_undo {uf uf2 : Nat → Nat} {r r9 : Int32} {sty cey st2 ce2 sy2 cy2 : Nat → Int32} {uc2 : Nat} {sa2 kd2 vl2 : Nat → Int32} {mm2 ml2 mu2 : Nat} (h : lr_I tn cnt st ce L old cn uc sa kd vl mm ml mu b pl dl mp mn)
    (hQ : ud_Q L old cn st ce sty cey uf r st2 ce2 sy2 cy2 uc2 uf2) (hM : mu_Q sa kd vl st ce mm ml r9 sa2 kd2 vl2 mm2 ml2 mu2) : r = r9 ∧ lr_I tn cnt st2 ce2 L old (cn - 1) uc2 sa2 kd2 vl2 mm2 ml2 mu2 b pl dl mp mn := by
  obtain ⟨h1, ⟨hw, hz, hs⟩, hR, ⟨hh, hm, h16, hl, hi⟩, h6, ⟨hu, hmu⟩, hb⟩ := h
  obtain ⟨hmu2, hM⟩ := hM
  subst hm
  rcases hQ with ⟨q1, rfl, rfl, rfl, rfl, rfl, rfl, rfl⟩ | ⟨q1, q2, q3, q4, q5, q6, q7⟩
  · rcases hM with ⟨m1, rfl, rfl, rfl, rfl, rfl, rfl⟩ | ⟨m1, -⟩
    · rw [show mm2 - 1 = mm2 by omega]
      exact ⟨rfl, h1, ⟨hw, hz, hs⟩, hR, ⟨hh, rfl, h16, hl, hi⟩, h6, ⟨by decide, hmu2⟩, hb⟩
    · exact absurd q1 m1
  · rcases hM with ⟨m1, -⟩ | ⟨m1, m2, m3, rfl, rfl⟩
    · exact absurd m1 q1
    · obtain ⟨s, c, g1, g2, g3, g4, g5⟩ := hh 0 (by omega)
      rw [show mm - 1 - 0 = mm - 1 by omega, q2] at g1
      rw [show 2 + (ml + 16 - 0) % 16 = 2 + ml by omega] at g2
      obtain ⟨e1, e2⟩ : st2 = s ∧ ce2 = c := by
        have := Option.some.inj g1
        exact ⟨congrArg Prod.fst this, congrArg Prod.snd this⟩
      subst e1 e2
      obtain ⟨n1, n2⟩ := m2 _ _ g2 g3
      exact ⟨by rw [q5, n2], h1, ⟨g4, g5, g3⟩, n1, ⟨hh_pop hh q1 h16 hl m3, rfl, by omega, by omega, by unfold hi_P at hi ⊢; omega⟩, h6, ⟨by rw [q6]; exact ct_N_le _ _, hmu2⟩, hb⟩
theorem lr_kp {s2 c2 : Nat → Int32} {L2 : List hs_T} {old2 cn2 uc2 : Nat} {sa2 kd2 vl2 : Nat → Int32} {mm2 ml2 mu2 : Nat} (h : lr_I tn cnt st ce L old cn uc sa kd vl mm ml mu b pl dl mp mn) (hk : kp_Q L L2 old cn old2 cn2 st ce) (hM : mj_Q s2 c2 st ce sa kd vl mm ml sa2 kd2 vl2 mm2 ml2 mu2) (hw2 : wv_O c2) (hz2 : wz_O c2) (hs2 : st_O s2) (hu2 : uc2 ≤ 40) :
    lr_I tn cnt s2 c2 L2 old2 cn2 uc2 sa2 kd2 vl2 mm2 ml2 mu2 b pl dl mp mn := by
  obtain ⟨h1, ⟨hw, hz, hs⟩, hR, ⟨hh, hm, h16, hl, hi⟩, h6, ⟨hu, hmu⟩, hb⟩ := h
  obtain ⟨hmu2, m1, m2, rfl, rfl⟩ := hM
  subst hm
  obtain ⟨g1, g2, g3, g4⟩ := hh_push hh h16 hl hi hk m2 hs hw hz
  exact ⟨h1, ⟨hw2, hz2, hs2⟩, m1, ⟨g1, g2, g3, by omega, g4⟩, h6, ⟨hu2, hmu2⟩, hb⟩
end
theorem lr_0 : lr_I (fun _ => 0) 0 (upd (fun _ => 0) 0 (nI 1)) (fun _ => 0) [] 0 0 0 (upd (fun _ => 0) 0 (nI 1)) (fun _ => 0) (fun _ => 0) 0 0 0 0 0 0 0 0 :=
  ⟨⟨by decide, fun _ => (by decide : (0 : Nat) < 128)⟩, ⟨fun j _ h => absurd h (by decide : ¬ en_K (0 : Int32) = nI 2), fun _ _ _ => rfl, so_up (fun _ _ => Or.inl rfl) (Or.inr (Or.inl rfl))⟩, ⟨fun _ _ => rfl, fun _ _ => ⟨(by decide : (0 : Int32) = en_K 0), (by decide : (0 : Int32) = en_V 0)⟩⟩, ⟨fun k hk => absurd hk (Nat.not_lt_zero _), rfl, by decide, by decide, Or.inl ⟨rfl, by decide, by decide⟩⟩, ⟨rfl, rfl⟩, ⟨by decide, by decide⟩, by decide⟩
theorem ak_p {ty : FieldType} {args : Array Value} {s : State} (h : (Cond.arrayClass ty).before args s = true) : ∃ cA, ArrOfT s cA ty ∧ s.vm.findClass ("[" ++ ty.toString) = some cA := by
  obtain ⟨cA, kA, comp, h1, h2, h3⟩ := Cond.arrayClass_spec h
  exact ⟨cA, fun n z => ⟨fun k h => (by cases h), kA, h2, comp, h3⟩, h1⟩
theorem ak_q {C : String} {args : Array Value} {s : State} (h : (Cond.arrayOver (.object C)).before args s = true) : ∃ cA, ArrOfT s cA (.object C) ∧ va_RA s cA (.object C) := by
  obtain ⟨comp, cA, kA, h1, h2, h3, h4, h5⟩ := Cond.arrayOver_spec h
  exact ⟨cA, fun n z => ⟨fun k h => (by cases h), kA, h3, comp, h4⟩, kA, comp, h3, h4, h1, h5⟩
theorem lw_gt {i L : Nat} (hi : i < 100000) (hL : L < 100000) (h : ¬ (nI L - nI 3) < nI i) : i + 3 ≤ L := by
  rw [Int32.lt_iff_toInt_lt, pk_sub_toInt (by omega) (by decide), nI_toInt (by omega)] at h
  omega
theorem lw_gf {i L : Nat} (hi : i < 100000) (hL : L < 100000) (h : (nI L - nI 3) < nI i) : ¬ i + 3 ≤ L := by
  rw [Int32.lt_iff_toInt_lt, pk_sub_toInt (by omega) (by decide), nI_toInt (by omega)] at h
  omega
theorem ps_u {G : va_G} {cA : Nat → ClassId} {ws : va_W} {As : List Value} {s : State} {H : Heap} {A : Nat → Prop} (hW : wk_K G cA s) (hP : va_P G xk_cl ws H) (hD : va_D A ws) (hT : th_S s) (hq : ∀ q : Nat, q < s.heap.size → H[q]? = s.heap[q]?) : PreS s H (pc_u G cA ws H.size As) As :=
  ⟨fb_u, fun _ hU h => ⟨rfl, by rw [hU], wk_warm h hW, by rw [hU]; exact hP, hD.weaken (fun _ _ _ _ => trivial), th_move h (fun q hq' => by rw [hU]; exact hq q hq') hT⟩⟩
section
variable {p : Program} {l : Launch} {e : Env} {R : Room} {s : State} {m : MethodId} {args : Array Value} {below : List Frame} {meth : Method} {c : Code} {H : Heap} {locs : List Loc} {cells slots : Nat}
theorem rs_W {y : MethodName} {bytes cc : ByteArray} {maxL nL mc ms n index : Nat} {ret : Option FieldType} {hh : List (Nat × Nat × Nat × Nat)} {rm : Room} {Pc : Array Value → State → Prop} {Qc : Array Value → State → Outcome → State → Prop} {free : Addr → Prop} {own : String} {As rest : List Value} {g : JFrame}
    (S : CallFix p m c cc nL s args tw_W own) (hM : Met l y (.codeWith y bytes maxL ret hh :: tw_W) rm Pc Qc mc ms free) (hcm : (.codeWith y bytes maxL ret hh : Cond) ∈ tw_W) (hlm : (.methodLink own index y : Cond) ∈ tw_W) (hsm : (.static y : Cond) ∈ tw_W) (him : (.initialized y.cls : Cond) ∈ tw_W)
    (hrc : rm.cells = mc) (hrs : rm.slots = ms) (hd : y.cls ≠ "java/lang/invoke/MethodHandle" ∧ y.cls ≠ "java/lang/invoke/VarHandle" ∧ (parseMethodDescriptor y.desc).map (fun d => d.parameters.length) = some n) (hR : rm.frames + 1 ≤ R.frames ∧ 8 + (maxL + 11) + rm.locals ≤ R.locals) (hp : PreS s H Pc As)
    (hg : g.method = m) (hn : As.length = n) (hsize : g.locals.size = nL) (hstack : g.stack = As.reverse ++ rest) (hW : 2 * g.monitorRoom + (rest.map fun v => v.category).sum ≤ 8) (hdg : decode cc g.pc = .ok (.invokestatic index, 3)) (hf : cells + mc ≤ R.cells ∧ slots + ms ≤ R.slots) :
    va_Run p l e R s m args below meth c H locs cells slots mc ms g rest (Qc As.toArray) free := by
  obtain ⟨hx, hb, hml, ho, hts⟩ := S
  have hK : Back l R p e below s args y 3 8 (PreOf R mc ms Pc) (PostOf Qc mc ms free) := va_backW (hh := hh) (bytes := bytes) (maxL := maxL) (ret := ret) hM hp.1 hrc hrs hR.1 hR.2 (pay_in hts (tw_g hcm)) List.mem_cons_self (fun a' U hW => word_at hW (good_of_word (List.mem_filter.mp him).2) (hts _ him))
  obtain ⟨mk, methM, cM, hnamed, hmethM, -, -, -, -, -, -, hsigM⟩ := Cond.codeWith_spec (hts _ hcm)
  have hstatic : methM.isStatic = true := Cond.static_spec hnamed hmethM (hts _ hsm)
  obtain ⟨kP, hkP, -⟩ := className_of_methodNamed hnamed
  have hinitP : kP.init = .initialized := Cond.initialized_spec (findClass_of_methodNamed hnamed) hkP (hts _ him)
  intro T hT X
  have hlen : As.length = methM.sig.parameters.length := by
    have h2 := hd.2.2
    rw [hsigM] at h2
    exact hn.trans (Option.some.inj h2).symm
  obtain ⟨vm₁, X₁, hstep₁⟩ := X.invokestatic hx ho (hts _ hlm) hnamed hmethM hstatic hkP hinitP ⟨hd.1, hd.2.1⟩ (g := g) hg (argsL := As) (rest := rest) hlen hstack (by rw [hb]; exact hdg)
  obtain ⟨v, ⟨U', l2, c2, s2⟩, X', ⟨g', mk', t, L, e1, e2, hq, h1, hL, h2, h3⟩, hsteps⟩ := hK m meth c ⟨T.setVm vm₁, locs, cells, slots⟩ { g with stack := rest } (.invokestatic index) mk As.toArray X₁ hg (hsize.trans hml.symm) (by rw [hb]; exact hdg) hW (X₁.named hnamed) ⟨hf.1, hf.2, hp.2 (T.setVm vm₁) hT X₁.warmed⟩
  dsimp only [Pt.U, Pt.locs, Pt.cells, Pt.slots] at X' e1 e2 h1 h2 h3 hsteps
  subst h1; subst h2; subst h3
  exact ⟨v, (T.setVm vm₁).calling g' mk' As.toArray, t, U', L, hT, X', hL, e1, e2, hq, fun target h => hstep₁ _ fun acts => by rw [doInvoke_state]; exact hsteps.trans h⟩
end
theorem xm_493 : (.codeWith xy_La_changed method_3_code 4 (some .int) [((0 : Nat), (9 : Nat), (12 : Nat), (13 : Nat))] : Cond) ∈ tw_W := tw_t (i := 493) (by decide +kernel) rfl
theorem xm_567 : (.codeWith xy_La_reached method_4_code 4 (some .int) [((0 : Nat), (16 : Nat), (19 : Nat), (13 : Nat))] : Cond) ∈ tw_W := tw_t (i := 567) (by decide +kernel) rfl
theorem xm_579 : (.codeWith xy_La_kind method_5_code 5 (some .int) [((0 : Nat), (10 : Nat), (13 : Nat), (13 : Nat))] : Cond) ∈ tw_W := tw_t (i := 579) (by decide +kernel) rfl
theorem xm_593 : (.codeWith xy_La_value method_6_code 5 (some .int) [((0 : Nat), (10 : Nat), (13 : Nat), (13 : Nat))] : Cond) ∈ tw_W := tw_t (i := 593) (by decide +kernel) rfl
theorem xm_601 : (.codeWith xy_La_object method_7_code 5 (some .int) [((0 : Nat), (10 : Nat), (13 : Nat), (13 : Nat))] : Cond) ∈ tw_W := tw_t (i := 601) (by decide +kernel) rfl
