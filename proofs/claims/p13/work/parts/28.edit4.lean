theorem pt_dig (tn : Nat → Nat) (cnt a : Nat) : ∀ m i, i < pt_n tn cnt a m → lt_P tn cnt (a + i) := by
  intro m
  induction m with
  | zero => intro i hi; exact absurd hi (Nat.not_lt_zero _)
  | succ m ih =>
    intro i hi
    unfold pt_n at hi
    by_cases q : pt_n tn cnt a m = m ∧ lt_P tn cnt (a + m)
    · rw [if_pos q] at hi
      by_cases e : i = m
      · rw [e]; exact q.2
      · exact ih i (by rw [q.1]; omega)
    · rw [if_neg q] at hi
      exact ih i hi
def ln_V (tn : Nat → Nat) (cnt a : Nat) (L : ln_T) : Prop := match L with
  | (v, n, fs, fl, gs, gl, _, _, b) => (v = 65 ∨ v = 82 ∨ v = 71 ∨ v = 83 ∨ v = 68 ∨ v = 77 ∨ v = 67) ∧ n < 100 ∧ ((v = 83 ∨ v = 68 ∨ v = 77 ∨ v = 67) → 0 < fl ∧ fl ≤ 8 ∧ ∀ i, i < fl → lt_P tn cnt (fs + i)) ∧ (v = 77 → 0 < gl ∧ gl ≤ 8 ∧ ∀ i, i < gl → lt_P tn cnt (gs + i)) ∧ a + 4 ≤ b ∧ b ≤ cnt
theorem ln_E_s {tn : Nat → Nat} {cnt e : Nat} {x L : ln_T} (h : ln_E tn cnt e x = some L) : e < cnt ∧ x = L := by
  unfold ln_E at h
  by_cases q : tk_P tn cnt e 59
  · rw [if_pos q] at h; exact ⟨q.1, Option.some.inj h⟩
  · rw [if_neg q] at h; cases h
theorem cl_A_ge {tn : Nat → Nat} {cnt a : Nat} : a ≤ cl_A tn cnt a := by
  unfold cl_A
  split
  · omega
  · split <;> omega
theorem ln_ok {tn : Nat → Nat} {cnt a : Nat} {L : ln_T} (h : ln_P tn cnt a = some L) : ln_V tn cnt a L := by
  unfold ln_P at h
  by_cases q : tk_P tn cnt (a + 1) 32
  · rw [if_pos q] at h
    have hp8 := pt_n_le tn cnt (a + 1 + 1) 8
    have hpd := pt_dig tn cnt (a + 1 + 1) 8
    by_cases e1 : tn a = 65 ∨ tn a = 82 ∨ tn a = 71
    · rw [if_pos e1] at h
      unfold ln_1 at h
      by_cases z : dg_n tn cnt (a + 1 + 1) 2 = 0
      · rw [if_pos z] at h; cases h
      · rw [if_neg z] at h
        obtain ⟨h1, h2⟩ := ln_E_s h
        subst h2
        have hd := dg_v_9 tn (a + 1 + 1) cnt 2
        unfold ln_V
        dsimp only
        rw [show a + 1 + 1 - 2 = a by omega]
        exact ⟨by omega, by omega, fun w => by omega, fun w => by omega, by omega, by omega⟩
    rw [if_neg e1] at h
    by_cases e2 : tn a = 83
    · rw [if_pos e2] at h
      unfold ln_S at h
      by_cases z : pt_n tn cnt (a + 1 + 1) 8 = 0
      · rw [if_pos z] at h; cases h
      rw [if_neg z] at h
      by_cases z2 : tk_P tn cnt (a + 1 + 1 + pt_n tn cnt (a + 1 + 1) 8) 32
      · rw [if_pos z2] at h
        by_cases z3 : cl_R tn cnt (a + 1 + 1 + pt_n tn cnt (a + 1 + 1) 8 + 1) = 0
        · rw [if_pos z3] at h; cases h
        · rw [if_neg z3] at h
          obtain ⟨h1, h2⟩ := ln_E_s h
          subst h2
          have hge := cl_A_ge (tn := tn) (cnt := cnt) (a := a + 1 + 1 + pt_n tn cnt (a + 1 + 1) 8 + 1)
          unfold ln_V
          dsimp only
          exact ⟨by omega, by omega, fun _ => ⟨by omega, hp8, hpd⟩, fun w => by omega, by omega, by omega⟩
      · rw [if_neg z2] at h; cases h
    rw [if_neg e2] at h
    by_cases e3 : tn a = 68
    · rw [if_pos e3] at h
      unfold ln_D at h
      by_cases z : pt_n tn cnt (a + 1 + 1) 8 = 0
      · rw [if_pos z] at h; cases h
      rw [if_neg z] at h
      obtain ⟨h1, h2⟩ := ln_E_s h
      subst h2
      unfold ln_V
      dsimp only
      exact ⟨by omega, by omega, fun _ => ⟨by omega, hp8, hpd⟩, fun w => by omega, by omega, by omega⟩
    rw [if_neg e3] at h
    by_cases e4 : tn a = 77
    · rw [if_pos e4] at h
      unfold ln_M at h
      by_cases z : pt_n tn cnt (a + 1 + 1) 8 = 0
      · rw [if_pos z] at h; cases h
      rw [if_neg z] at h
      by_cases z2 : tk_P tn cnt (a + 1 + 1 + pt_n tn cnt (a + 1 + 1) 8) 32
      · rw [if_pos z2] at h
        by_cases z3 : pt_n tn cnt (a + 1 + 1 + pt_n tn cnt (a + 1 + 1) 8 + 1) 8 = 0
        · rw [if_pos z3] at h; cases h
        · rw [if_neg z3] at h
          obtain ⟨h1, h2⟩ := ln_E_s h
          subst h2
          unfold ln_V
          dsimp only
          exact ⟨by omega, by omega, fun _ => ⟨by omega, hp8, hpd⟩, fun _ => ⟨by omega, pt_n_le tn cnt _ 8, pt_dig tn cnt _ 8⟩, by omega, by omega⟩
      · rw [if_neg z2] at h; cases h
    rw [if_neg e4] at h
    by_cases e5 : tn a = 67
    · rw [if_pos e5] at h
      unfold ln_C at h
      by_cases z : pt_n tn cnt (a + 1 + 1) 8 = 0
      · rw [if_pos z] at h; cases h
      rw [if_neg z] at h
      by_cases z2 : tk_P tn cnt (a + 1 + 1 + pt_n tn cnt (a + 1 + 1) 8) 32
      · rw [if_pos z2] at h
        by_cases z3 : cl_R tn cnt (a + 1 + 1 + pt_n tn cnt (a + 1 + 1) 8 + 1) = 0
        · rw [if_pos z3] at h; cases h
        · rw [if_neg z3] at h
          have hge := cl_A_ge (tn := tn) (cnt := cnt) (a := a + 1 + 1 + pt_n tn cnt (a + 1 + 1) 8 + 1)
          generalize hb : cl_A tn cnt (a + 1 + 1 + pt_n tn cnt (a + 1 + 1) 8 + 1) = b at h hge
          by_cases z4 : tk_P tn cnt b 32
          · rw [if_pos z4] at h
            by_cases z5 : cl_R tn cnt (b + 1) = 0
            · rw [if_pos z5] at h; cases h
            · rw [if_neg z5] at h
              have hg2 := cl_A_ge (tn := tn) (cnt := cnt) (a := b + 1)
              obtain ⟨h1, h2⟩ := ln_E_s h
              subst h2
              unfold ln_V
              dsimp only
              exact ⟨by omega, by omega, fun _ => ⟨by omega, hp8, hpd⟩, fun w => by omega, by omega, by omega⟩
          · rw [if_neg z4] at h; cases h
      · rw [if_neg z2] at h; cases h
    · rw [if_neg e5] at h; cases h
  · rw [if_neg q] at h; cases h
def pk_t (tn : Nat → Nat) (s : Nat) : Nat → Nat := fun i => tn (s + i) - 97
def ex_L (fo : Int32) (st ce : Nat → Int32) (tn : Nat → Nat) (L : ln_T) : ex_T := match L with
  | (v, n, fs, fl, gs, gl, w, g, _) => ex_l fo st ce v n (pk_t tn fs) fl (pk_t tn gs) gl w g
theorem ex_l_cg {fo : Int32} {st ce : Nat → Int32} {v n : Nat} {fk fk' : Nat → Nat} {fn fn' : Nat} {gk gk' : Nat → Nat} {gn gn' : Nat} {wt gv : Int32} (h7 : v = 65 ∨ v = 82 ∨ v = 71 ∨ v = 83 ∨ v = 68 ∨ v = 77 ∨ v = 67) (h1 : (v = 83 ∨ v = 68 ∨ v = 77 ∨ v = 67) → 0 < fn ∧ fn = fn' ∧ ∀ i, i < fn → fk i = fk' i) (h2 : v = 77 → 0 < gn ∧ gn = gn' ∧ ∀ i, i < gn → gk i = gk' i) : ex_l fo st ce v n fk fn gk gn wt gv = ex_l fo st ce v n fk' fn' gk' gn' wt gv := by
  unfold ex_l
  by_cases q : wn_R (nI v) (nI n) wt gv = 0
  · rw [if_pos q, if_pos q]
    by_cases e1 : v = 65
    · rw [if_pos e1, if_pos e1]
    rw [if_neg e1, if_neg e1]
    by_cases e2 : v = 82
    · rw [if_pos e2, if_pos e2]
    rw [if_neg e2, if_neg e2]
    by_cases e3 : v = 71
    · rw [if_pos e3, if_pos e3]
    rw [if_neg e3, if_neg e3]
    obtain ⟨f0, f1, f2⟩ := h1 (by omega)
    subst f1
    have hf := fo_F_cg (st := st) (ce := ce) (i := fn - 1) (fun j hj => f2 j (by omega))
    have hl := f2 (fn - 1) (by omega)
    by_cases e4 : v = 83
    · rw [if_pos e4, if_pos e4]; unfold ex_S; rw [hf, hl]
    rw [if_neg e4, if_neg e4]
    by_cases e5 : v = 68
    · rw [if_pos e5, if_pos e5]; unfold ex_D; rw [hf, hl]
    rw [if_neg e5, if_neg e5]
    by_cases e6 : v = 77
    · rw [if_pos e6, if_pos e6]
      obtain ⟨g0, g1, g2⟩ := h2 e6
      subst g1
      have hg := fo_F_cg (st := st) (ce := ce) (i := gn - 1) (fun j hj => g2 j (by omega))
      have hm := g2 (gn - 1) (by omega)
      unfold ex_M; rw [hf, hl, hg, hm]
    · rw [if_neg e6, if_neg e6]; unfold ex_C; rw [hf, hl]
  · rw [if_neg q, if_neg q]
theorem op_l (o : Option ln_T) : o = none ∨ ∃ v n fs fl gs gl w g b, o = some (v, n, fs, fl, gs, gl, w, g, b) := by
  cases o with
  | none => exact Or.inl rfl
  | some x =>
    obtain ⟨v, n, fs, fl, gs, gl, w, g, b⟩ := x
    exact Or.inr ⟨v, n, fs, fl, gs, gl, w, g, b, rfl⟩
abbrev tx_T : Type := Int32 × (Nat → Int32) × (Nat → Int32) × Nat × Nat
def tx_F (fo : Int32) (tn : Nat → Nat) (cnt : Nat) : Nat → Nat → (Nat → Int32) → (Nat → Int32) → Nat → Nat → tx_T
  | 0, _, st, ce, k, p => (nI 0, st, ce, k, p)
  | f + 1, a, st, ce, k, p => if sp_sk tn cnt a < cnt then (match ln_P tn cnt (sp_sk tn cnt a) with
    | none => ((-1) - nI (10 * k + 1), st, ce, k, p)
    | some (v, n, fs, fl, gs, gl, w, g, b) => if (ex_L fo st ce tn (v, n, fs, fl, gs, gl, w, g, b)).1 ≤ 0 then tx_F fo tn cnt f b (ex_L fo st ce tn (v, n, fs, fl, gs, gl, w, g, b)).2.1 (ex_L fo st ce tn (v, n, fs, fl, gs, gl, w, g, b)).2.2 (k + 1) (if (ex_L fo st ce tn (v, n, fs, fl, gs, gl, w, g, b)).1 = -1 then p + 1 else p)
      else ((-1) - (nI (10 * k) + (ex_L fo st ce tn (v, n, fs, fl, gs, gl, w, g, b)).1), (ex_L fo st ce tn (v, n, fs, fl, gs, gl, w, g, b)).2.1, (ex_L fo st ce tn (v, n, fs, fl, gs, gl, w, g, b)).2.2, k, p)) else (nI 0, st, ce, k, p)
theorem tx_F_e {fo : Int32} {tn : Nat → Nat} {cnt f a : Nat} {st ce : Nat → Int32} {k p : Nat} (h : ¬ sp_sk tn cnt a < cnt) : tx_F fo tn cnt (f + 1) a st ce k p = (nI 0, st, ce, k, p) := by rw [tx_F, if_neg h]
theorem tx_F_n {fo : Int32} {tn : Nat → Nat} {cnt f a : Nat} {st ce : Nat → Int32} {k p : Nat} (h : sp_sk tn cnt a < cnt) (hn : ln_P tn cnt (sp_sk tn cnt a) = none) : tx_F fo tn cnt (f + 1) a st ce k p = ((-1) - nI (10 * k + 1), st, ce, k, p) := by rw [tx_F, if_pos h, hn]
theorem tx_F_x {fo : Int32} {tn : Nat → Nat} {cnt f a : Nat} {st ce : Nat → Int32} {k p : Nat} {v n fs fl gs gl : Nat} {w g : Int32} {b : Nat} {E : ex_T} (h : sp_sk tn cnt a < cnt) (hn : ln_P tn cnt (sp_sk tn cnt a) = some (v, n, fs, fl, gs, gl, w, g, b)) (hE : ex_L fo st ce tn (v, n, fs, fl, gs, gl, w, g, b) = E) (hx : ¬ E.1 ≤ 0) : tx_F fo tn cnt (f + 1) a st ce k p = ((-1) - (nI (10 * k) + E.1), E.2.1, E.2.2, k, p) := by rw [tx_F, if_pos h, hn]; dsimp only; rw [hE, if_neg hx]
theorem tx_F_s {fo : Int32} {tn : Nat → Nat} {cnt f a : Nat} {st ce : Nat → Int32} {k p : Nat} {v n fs fl gs gl : Nat} {w g : Int32} {b : Nat} {E : ex_T} (h : sp_sk tn cnt a < cnt) (hn : ln_P tn cnt (sp_sk tn cnt a) = some (v, n, fs, fl, gs, gl, w, g, b)) (hE : ex_L fo st ce tn (v, n, fs, fl, gs, gl, w, g, b) = E) (hx : E.1 ≤ 0) : tx_F fo tn cnt (f + 1) a st ce k p = tx_F fo tn cnt f b E.2.1 E.2.2 (k + 1) (if E.1 = -1 then p + 1 else p) := by rw [tx_F, if_pos h, hn]; dsimp only; rw [hE, if_pos hx]
theorem ln_hf {tn : Nat → Nat} {cnt v fs fl fn : Nat} {fk : Nat → Nat} {Z : Prop} (h : Z → 0 < fl ∧ fl ≤ 8 ∧ ∀ i, i < fl → lt_P tn cnt (fs + i)) (q : fl ≠ 0 → fn = fl ∧ ∀ i, i < fl → fk i = tn (fs + i) - 97) : Z → (∀ j, j < fn → fk j < 26) ∧ 0 < fn ∧ fn ≤ 8 := fun z => by
  obtain ⟨h1, h2, h3⟩ := h z
  obtain ⟨e, q2⟩ := q (by omega)
  subst e
  refine ⟨fun j hj => ?_, h1, h2⟩
  rw [q2 j hj]
  have := h3 j hj
  omega
theorem ln_cf {tn : Nat → Nat} {cnt v fs fl fn : Nat} {fk : Nat → Nat} {Z : Prop} (h : Z → 0 < fl ∧ fl ≤ 8 ∧ ∀ i, i < fl → lt_P tn cnt (fs + i)) (q : fl ≠ 0 → fn = fl ∧ ∀ i, i < fl → fk i = tn (fs + i) - 97) : Z → 0 < fn ∧ fn = fl ∧ ∀ i, i < fn → fk i = pk_t tn fs i := fun z => by
  obtain ⟨h1, h2, h3⟩ := h z
  obtain ⟨e, q2⟩ := q (by omega)
  subst e
  exact ⟨h1, rfl, q2⟩
