theorem xm_208 : (.native arraycopyName : Cond) ∈ tw_W := tw_t (i := 208) (by decide +kernel) rfl
theorem av_cg {cA : ClassId} {n : Nat} {f g : Nat → Value} (e : ∀ j, j < n → f j = g j) : arrV cA n f = arrV cA n g := by
  unfold arrV
  congr 1
  apply Array.ext
  · simp
  · intro i h1 h2
    simp at h1 h2 ⊢
    exact e i h1
theorem va_cg {D : va_G} {cl : List vw_C} {ws : va_W} {H : Heap} {q a : Nat} {cA : ClassId} {n : Nat} {f g : Nat → Int32} (h : va_P D cl ws H) (hq : ws[q]? = some (a, .inl (cA, n, .inl f))) (e : ∀ j, j < n → f j = g j) : va_P D cl (ws.set q (a, .inl (cA, n, .inl g))) H := by
  intro k x hk
  by_cases hkq : q = k
  · subst hkq
    have hlt : q < ws.length := (List.getElem?_eq_some_iff.mp hq).1
    rw [List.getElem?_set_self hlt] at hk
    obtain rfl := Option.some.inj hk
    have h1 := h q _ hq
    have e1 : arrV cA n (fun j => .int (f j)) = arrV cA n (fun j => .int (g j)) := av_cg (fun j hj => by rw [e j hj])
    exact h1.trans (congrArg some e1)
  · rw [List.getElem?_set_ne hkq] at hk
    exact h k x hk
section WY
variable {p : Program} {l : Launch} {e : Env} {R : Room} {s : State} {m : MethodId} {args : Array Value} {below : List Frame} {meth : Method} {c : Code} {H : Heap} {locs : List Loc} {cells slots : Nat} {Q : State → Prop}
variable {cc : ByteArray} {pc : Nat} {ls : Array Slot} {rest : List Value} {D : va_G} {cl : List vw_C} {A : Nat → Prop} {a : Nat} {tys : List (ClassId × FieldType)} {ws : va_W} {H0 : Heap}
theorem wx_copy (hx : p.tables.exec = Jvm.exec) (hb : c.code = cc) (hml : c.maxLocals = ls.size) {own : String} {index : Nat} (hown : s.vm.findClass own = some m.cls) (hlink : (Cond.methodLink own index arraycopyName).before args s = true) (hnat : (Cond.native arraycopyName).before args s = true) (hstat : (Cond.static arraycopyName).before args s = true) (hini : (Cond.initialized "java/lang/System").before args s = true)
    (hK : va_K D cl tys s) (hP : va_P D cl ws H) (hD : va_D A ws) (hS : va_S A H0 H locs) (q0 q1 t0 : Nat) {a0 : Nat} {c0 : ClassId} {n : Nat} {f g : Nat → Int32} (hn : n < 2147483648) (ha0 : ws[q0]? = some (a0, .inl (c0, n, .inl f))) (ha1 : ws[q1]? = some (a, .inl (c0, n, .inl g))) (ht0 : tys[t0]? = some (c0, .int))
    (hframes : 1 ≤ R.frames) (hlocals : (rest.map fun v => v.category).sum + (nativeFrameWords "java/lang/System" "arraycopy" 5 + 11) ≤ R.locals) (hdg : decode cc pc = .ok (.invokestatic index, 3))
    (kk : ∀ (H1 : Heap) (locs1 : List Loc), va_P D cl (ws.set q1 (a, .inl (c0, n, .inl f))) H1 → va_D A (ws.set q1 (a, .inl (c0, n, .inl f))) → va_S A H0 H1 locs1 → W p l e R s m args below meth c H1 locs1 cells slots Q (F0 m (pc + 3) ls rest)) : W p l e R s m args below meth c H locs cells slots Q (F0 m pc ls (.int (nI n) :: .int (nI 0) :: .ref a :: .int (nI 0) :: .ref a0 :: rest)) := by
  have z : (nI 0).toNatClampNeg = 0 := nI_clamp (by decide)
  have zn : (nI n).toNatClampNeg = n := nI_clamp hn
  refine va_copyi hx hb hml hown hlink hnat hstat hini hK hP hD hS q0 q1 t0 t0 ha0 ha1 ht0 ht0 rfl (by decide) (by decide) (nI_pos hn) (by rw [z, zn]; omega) (by rw [z, zn]; omega) (fun _ _ => rfl) hframes hlocals hdg (fun H1 locs1 h1 h2 h3 => ?_)
  rw [z, zn] at h1 h2
  have hlt : q1 < ws.length := (List.getElem?_eq_some_iff.mp ha1).1
  have h4 := va_cg (q := q1) (g := f) h1 (List.getElem?_set_self hlt) (fun j hj => by rw [pk_cpy_in (by omega) (by omega)]; congr 1; omega)
  have h5 := h2.set (e := .inl (c0, n, .inl f)) (List.getElem?_set_self hlt)
  rw [List.set_set] at h4 h5
  exact kk H1 locs1 h4 h5 h3
end WY
def ct_N (p : Nat → Bool) : Nat → Nat
  | 0 => 0
  | n + 1 => ct_N p n + (if p n then 1 else 0)
theorem ct_N_le (p : Nat → Bool) : ∀ n, ct_N p n ≤ n
  | 0 => Nat.le_refl _
  | n + 1 => by
    have := ct_N_le p n
    unfold ct_N
    split <;> omega
theorem ct_N_cg {p q : Nat → Bool} : ∀ {n : Nat}, (∀ j, j < n → p j = q j) → ct_N p n = ct_N q n
  | 0, _ => rfl
  | n + 1, h => by
    unfold ct_N
    rw [ct_N_cg (fun j hj => h j (by omega)), h n (by omega)]
def sp_kc (ce : Nat → Int32) (n : Nat) : Int32 := nI (ct_N (fun k => !(ce (n * 26 + k) == 0)) 26)
theorem ct_N_up (p q : Nat → Bool) (k : Nat) : ∀ n, k < n → (∀ j, j ≠ k → q j = p j) → (ct_N q n : Int) = ct_N p n + ((if q k then 1 else 0) - (if p k then 1 else 0) : Int)
  | 0, h, _ => absurd h (Nat.not_lt_zero _)
  | n + 1, h, hq => by
    unfold ct_N
    by_cases e : k = n
    · subst e
      rw [ct_N_cg (p := q) (q := p) (fun j hj => hq j (by omega))]
      split <;> split <;> omega
    · have ih := ct_N_up p q k n (by omega) hq
      rw [hq n (fun h => e h.symm)]
      split <;> omega
theorem sp_kc_0 : sp_kc (fun _ => 0) = fun _ => 0 := by
  funext n
  have : ∀ m, ct_N (fun _ => false) m = 0 := by
    intro m
    induction m with
    | zero => rfl
    | succ m ih => unfold ct_N; rw [ih]; rfl
  unfold sp_kc
  show nI (ct_N (fun _ => false) 26) = 0
  rw [this]
  rfl
theorem sp_kc_up (ce : Nat → Int32) (n k : Nat) (x : Int32) (hk : k < 26) : upd (sp_kc ce) n (sp_kc ce n + (sp_th x - sp_th (ce (n * 26 + k)))) = sp_kc (upd ce (n * 26 + k) x) := by
  funext j
  by_cases e : j = n
  · subst e
    rw [pk_us]
    have h := ct_N_up (fun i => !(ce (j * 26 + i) == 0)) (fun i => !(upd ce (j * 26 + k) x (j * 26 + i) == 0)) k 26 hk (fun i hi => by
      show (!(upd ce (j * 26 + k) x (j * 26 + i) == 0)) = _
      rw [pk_un (by omega)])
    have l1 := ct_N_le (fun i => !(ce (j * 26 + i) == 0)) 26
    have l2 := ct_N_le (fun i => !(upd ce (j * 26 + k) x (j * 26 + i) == 0)) 26
    simp only [pk_us] at h
    unfold sp_kc
    generalize ct_N (fun i => !(ce (j * 26 + i) == 0)) 26 = a at h l1 ⊢
    generalize ct_N (fun i => !(upd ce (j * 26 + k) x (j * 26 + i) == 0)) 26 = b at h l2 ⊢
    have e1 : sp_th x = if (!(x == 0)) = true then nI 1 else nI 0 := by unfold sp_th; by_cases q : x = 0 <;> simp [q]
    have e2 : sp_th (ce (j * 26 + k)) = if (!(ce (j * 26 + k) == 0)) = true then nI 1 else nI 0 := by unfold sp_th; by_cases q : ce (j * 26 + k) = 0 <;> simp [q]
    rw [e1, e2]
    by_cases q1 : (!(x == 0)) = true <;> by_cases q2 : (!(ce (j * 26 + k) == 0)) = true
    · simp only [q1, q2, if_true] at h ⊢
      rw [show b = a by omega]
      rw [show nI 1 - nI 1 = nI 0 from rfl, nI_add]; rfl
    · simp only [q1, q2, Bool.false_eq_true, if_true, if_false] at h ⊢
      rw [show b = a + 1 by omega]
      rw [show nI 1 - nI 0 = nI 1 from rfl, nI_add]
    · simp only [q1, q2, Bool.false_eq_true, if_true, if_false] at h ⊢
      rw [show a = b + 1 by omega]
      rw [show nI 0 - nI 1 = -1 from rfl, pk_m1]
    · simp only [q1, q2, Bool.false_eq_true, if_false] at h ⊢
      rw [show b = a by omega]
      rw [show nI 0 - nI 0 = nI 0 from rfl, nI_add]; rfl
  · rw [pk_un e]
    unfold sp_kc
    rw [ct_N_cg (fun i hi => ?_)]
    rw [pk_un (by omega)]
