section WZ
variable {p : Program} {l : Launch} {e : Env} {R : Room} {s : State} {m : MethodId} {args : Array Value} {below : List Frame} {meth : Method} {c : Code} {H : Heap} {locs : List Loc} {cells slots : Nat} {Q : State → Prop}
variable {cc : ByteArray} {pc : Nat} {ls : Array Slot} {rest : List Value} {D : va_G} {cl : List vw_C} {A : Nat → Prop} {a : Nat} {tys : List (ClassId × FieldType)} {ws : va_W} {H0 : Heap}
theorem wx_new_int (hx : p.tables.exec = Jvm.exec) (hb : c.code = cc) (harr : (Cond.arrayClass .int).before args s = true) (hK : va_K D cl tys s) (hP : va_P D cl ws H) (hD : va_D A ws) (hS : va_S A H0 H locs) (hA : ∀ q, H0.size ≤ q → A q) (t0 : Nat) {c0 : ClassId} (ht : tys[t0]? = some (c0, .int))
    {n : Nat} (hn : n < 2147483648) (hbytes : n * 8 ≤ 536870912) (hcells : cells + 1 ≤ R.cells) (hslots : slots + n ≤ R.slots) (hdg : decode cc pc = .ok (.newarray .int, 2))
    (kk : ∀ (q : Nat) (H1 : Heap), va_P D cl (ws ++ [(q, .inl (c0, n, .inl (fun _ => 0)))]) H1 → va_D A (ws ++ [(q, .inl (c0, n, .inl (fun _ => 0)))]) → va_S A H0 H1 locs →
      W p l e R s m args below meth c H1 locs (cells + 1) (slots + n) Q (F0 m (pc + 2) ls (.ref q :: rest))) : W p l e R s m args below meth c H locs cells slots Q (F0 m pc ls (.int (nI n) :: rest)) := by
  refine va_newa (atype := .int) (ty := .int) (a0 := (n, .inl (fun _ => 0))) hx hb harr rfl hK hP hD hS hA (fun _ => rfl) (nI_pos hn) (nI_clamp hn) (Nat.le_trans (Nat.mul_le_mul_left n (by decide)) hbytes) hcells hslots hdg (fun q cN H1 hK' hP' hD' hS' => ?_)
  have h1 := (hK'.2 tys.length _ (by rw [List.getElem?_append_right (Nat.le_refl _), Nat.sub_self]; rfl)).2
  have h2 := (hK.2 t0 _ ht).2
  have e1 : cN = c0 := Option.some.inj (h1.symm.trans h2)
  subst e1
  exact kk q H1 hP' hD' hS'
theorem wx_new_char (hx : p.tables.exec = Jvm.exec) (hb : c.code = cc) (harr : (Cond.arrayClass .char).before args s = true) (hK : va_K D cl tys s) (hP : va_P D cl ws H) (hD : va_D A ws) (hS : va_S A H0 H locs) (hA : ∀ q, H0.size ≤ q → A q) (t0 : Nat) {c0 : ClassId} (ht : tys[t0]? = some (c0, .char))
    {n : Nat} (hn : n < 2147483648) (hbytes : n * 8 ≤ 536870912) (hcells : cells + 1 ≤ R.cells) (hslots : slots + n ≤ R.slots) (hdg : decode cc pc = .ok (.newarray .char, 2))
    (kk : ∀ (q : Nat) (H1 : Heap), va_P D cl (ws ++ [(q, .inl (c0, n, .inl (fun _ => 0)))]) H1 → va_D A (ws ++ [(q, .inl (c0, n, .inl (fun _ => 0)))]) → va_S A H0 H1 locs →
      W p l e R s m args below meth c H1 locs (cells + 1) (slots + n) Q (F0 m (pc + 2) ls (.ref q :: rest))) : W p l e R s m args below meth c H locs cells slots Q (F0 m pc ls (.int (nI n) :: rest)) := by
  refine va_newa (atype := .char) (ty := .char) (a0 := (n, .inl (fun _ => 0))) hx hb harr rfl hK hP hD hS hA (fun _ => rfl) (nI_pos hn) (nI_clamp hn) (Nat.le_trans (Nat.mul_le_mul_left n (by decide)) hbytes) hcells hslots hdg (fun q cN H1 hK' hP' hD' hS' => ?_)
  have h1 := (hK'.2 tys.length _ (by rw [List.getElem?_append_right (Nat.le_refl _), Nat.sub_self]; rfl)).2
  have h2 := (hK.2 t0 _ ht).2
  have e1 : cN = c0 := Option.some.inj (h1.symm.trans h2)
  subst e1
  exact kk q H1 hP' hD' hS'
theorem wx_new_boolean (hx : p.tables.exec = Jvm.exec) (hb : c.code = cc) (harr : (Cond.arrayClass .boolean).before args s = true) (hK : va_K D cl tys s) (hP : va_P D cl ws H) (hD : va_D A ws) (hS : va_S A H0 H locs) (hA : ∀ q, H0.size ≤ q → A q) (t0 : Nat) {c0 : ClassId} (ht : tys[t0]? = some (c0, .boolean))
    {n : Nat} (hn : n < 2147483648) (hbytes : n * 8 ≤ 536870912) (hcells : cells + 1 ≤ R.cells) (hslots : slots + n ≤ R.slots) (hdg : decode cc pc = .ok (.newarray .boolean, 2))
    (kk : ∀ (q : Nat) (H1 : Heap), va_P D cl (ws ++ [(q, .inl (c0, n, .inl (fun _ => 0)))]) H1 → va_D A (ws ++ [(q, .inl (c0, n, .inl (fun _ => 0)))]) → va_S A H0 H1 locs →
      W p l e R s m args below meth c H1 locs (cells + 1) (slots + n) Q (F0 m (pc + 2) ls (.ref q :: rest))) : W p l e R s m args below meth c H locs cells slots Q (F0 m pc ls (.int (nI n) :: rest)) := by
  refine va_newa (atype := .boolean) (ty := .boolean) (a0 := (n, .inl (fun _ => 0))) hx hb harr rfl hK hP hD hS hA (fun _ => rfl) (nI_pos hn) (nI_clamp hn) (Nat.le_trans (Nat.mul_le_mul_left n (by decide)) hbytes) hcells hslots hdg (fun q cN H1 hK' hP' hD' hS' => ?_)
  have h1 := (hK'.2 tys.length _ (by rw [List.getElem?_append_right (Nat.le_refl _), Nat.sub_self]; rfl)).2
  have h2 := (hK.2 t0 _ ht).2
  have e1 : cN = c0 := Option.some.inj (h1.symm.trans h2)
  subst e1
  exact kk q H1 hP' hD' hS'
theorem wx_new_long (hx : p.tables.exec = Jvm.exec) (hb : c.code = cc) (harr : (Cond.arrayClass .long).before args s = true) (hK : va_K D cl tys s) (hP : va_P D cl ws H) (hD : va_D A ws) (hS : va_S A H0 H locs) (hA : ∀ q, H0.size ≤ q → A q) (t0 : Nat) {c0 : ClassId} (ht : tys[t0]? = some (c0, .long))
    {n : Nat} (hn : n < 2147483648) (hbytes : n * 8 ≤ 536870912) (hcells : cells + 1 ≤ R.cells) (hslots : slots + n ≤ R.slots) (hdg : decode cc pc = .ok (.newarray .long, 2))
    (kk : ∀ (q : Nat) (H1 : Heap), va_P D cl (ws ++ [(q, .inl (c0, n, .inr (.inl (fun _ => 0))))]) H1 → va_D A (ws ++ [(q, .inl (c0, n, .inr (.inl (fun _ => 0))))]) → va_S A H0 H1 locs →
      W p l e R s m args below meth c H1 locs (cells + 1) (slots + n) Q (F0 m (pc + 2) ls (.ref q :: rest))) : W p l e R s m args below meth c H locs cells slots Q (F0 m pc ls (.int (nI n) :: rest)) := by
  refine va_newa (atype := .long) (ty := .long) (a0 := (n, .inr (.inl (fun _ => 0)))) hx hb harr rfl hK hP hD hS hA (fun _ => rfl) (nI_pos hn) (nI_clamp hn) (Nat.le_trans (Nat.mul_le_mul_left n (by decide)) hbytes) hcells hslots hdg (fun q cN H1 hK' hP' hD' hS' => ?_)
  have h1 := (hK'.2 tys.length _ (by rw [List.getElem?_append_right (Nat.le_refl _), Nat.sub_self]; rfl)).2
  have h2 := (hK.2 t0 _ ht).2
  have e1 : cN = c0 := Option.some.inj (h1.symm.trans h2)
  subst e1
  exact kk q H1 hP' hD' hS'
theorem wx_newq (hx : p.tables.exec = Jvm.exec) (hb : c.code = cc) {own C : String} {index : Nat} (hown : s.vm.findClass own = some m.cls) (hclink : (Cond.classLink own index C).before args s = true) (hover : va_AO C s) (hK : va_K D cl tys s) (hP : va_P D cl ws H) (hD : va_D A ws) (hS : va_S A H0 H locs) (hA : ∀ q, H0.size ≤ q → A q) (t0 : Nat) {c0 : ClassId} (ht : tys[t0]? = some (c0, .object C))
    {n : Nat} (hn : n < 2147483648) (hbytes : n * 4 ≤ 536870912) (hcells : cells + 1 ≤ R.cells) (hslots : slots + n ≤ R.slots) (hdg : decode cc pc = .ok (.anewarray index, 3))
    (kk : ∀ (q : Nat) (H1 : Heap), va_P D cl (ws ++ [(q, .inl (c0, n, .inr (.inr (.inr (.inr (fun _ => none))))))]) H1 → va_D A (ws ++ [(q, .inl (c0, n, .inr (.inr (.inr (.inr (fun _ => none))))))]) → va_S A H0 H1 locs →
      W p l e R s m args below meth c H1 locs (cells + 1) (slots + n) Q (F0 m (pc + 3) ls (.ref q :: rest))) : W p l e R s m args below meth c H locs cells slots Q (F0 m pc ls (.int (nI n) :: rest)) := by
  refine va_newq hx hb hown hclink hover hK hP hD hS hA (nI_pos hn) (nI_clamp hn) hbytes hcells hslots hdg (fun q cN H1 hK' hP' hD' hS' => ?_)
  obtain ⟨-, -, -, -, -, h1⟩ := (hK'.2 tys.length _ (by rw [List.getElem?_append_right (Nat.le_refl _), Nat.sub_self]; rfl)).2
  obtain ⟨-, -, -, -, -, h2⟩ := (hK.2 t0 _ ht).2
  have e1 : cN = c0 := Option.some.inj (h1.symm.trans h2)
  subst e1
  exact kk q H1 hP' hD' hS'
end WZ
theorem tx_0 : (fun _ => 0 : Nat → Int32) = tx_A (fun _ => 0) := rfl
theorem mk_0 : (fun _ => 0 : Nat → Int32) = mk_A (fun _ => false) := rfl
