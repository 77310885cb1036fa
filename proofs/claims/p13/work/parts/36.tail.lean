theorem va_P_m {D : va_G} {cl : List vw_C} {ws : va_W} {H : Heap} : va_P D cl ws H ↔ ∀ q ∈ ws, va_at D cl q H := by
  constructor
  · intro h q hq
    obtain ⟨k, hk⟩ := List.getElem?_of_mem hq
    exact h k q hk
  · intro h k q hk
    exact h q (List.mem_of_getElem? hk)
theorem va_P_p {D : va_G} {cl : List vw_C} {ws ws' : va_W} {H : Heap} (e : ws.Perm ws') (h : va_P D cl ws H) : va_P D cl ws' H := va_P_m.mpr (fun q hq => va_P_m.mp h q (e.mem_iff.mpr hq))
theorem va_D_m {A : Nat → Prop} {ws : va_W} : va_D A ws ↔ (ws.map (·.1)).Nodup ∧ ∀ q ∈ ws, A q.1 := by
  constructor
  · intro h
    refine ⟨?_, fun q hq => ?_⟩
    · rw [List.nodup_iff_pairwise_ne, List.pairwise_iff_getElem]
      intro i j hi hj hij e
      rw [List.length_map] at hi hj
      rw [List.getElem_map, List.getElem_map] at e
      have := h.1 i j ws[i] ws[j] (List.getElem?_eq_getElem hi) (List.getElem?_eq_getElem hj) e
      omega
    · obtain ⟨k, hk⟩ := List.getElem?_of_mem hq
      exact h.2 k q hk
  · intro h
    refine ⟨fun i j p q hp hq e => ?_, fun k q hk => h.2 q (List.mem_of_getElem? hk)⟩
    obtain ⟨hi, rfl⟩ := List.getElem?_eq_some_iff.mp hp
    obtain ⟨hj, rfl⟩ := List.getElem?_eq_some_iff.mp hq
    have hn := h.1
    rw [List.nodup_iff_pairwise_ne, List.pairwise_iff_getElem] at hn
    rcases Nat.lt_trichotomy i j with z | z | z
    · exact absurd (by rw [List.getElem_map, List.getElem_map]; exact e) (hn i j (by rw [List.length_map]; exact hi) (by rw [List.length_map]; exact hj) z)
    · exact z
    · exact absurd (by rw [List.getElem_map, List.getElem_map]; exact e.symm) (hn j i (by rw [List.length_map]; exact hj) (by rw [List.length_map]; exact hi) z)
theorem va_D_p {A : Nat → Prop} {ws ws' : va_W} (e : ws.Perm ws') (h : va_D A ws) : va_D A ws' := by
  rw [va_D_m] at h ⊢
  exact ⟨(e.map _).nodup_iff.mp h.1, fun q hq => h.2 q (e.mem_iff.mpr hq)⟩
abbrev hs_T : Type := Nat × Nat × Nat × Nat × (Nat → Int32) × (Nat → Int32)
def hs_W (cA : Nat → ClassId) (x : hs_T) : va_W := match x with
  | (o, a1, a2, a3, st, ce) => [(o, .inr (2, [.ref a1, .ref a2, .ref a3])), (a1, .inl (cA 0, 40, .inl st)), (a2, .inl (cA 0, 40, .inl (sp_kc ce))), (a3, .inl (cA 0, 1040, .inl ce))]
def hw_W (cA : Nat → ClassId) (L : List hs_T) : va_W := L.flatMap (hs_W cA)
def rg_F (L : List hs_T) : Nat → Option Nat := fun i => (L[i]?).map (·.1)
theorem er_p {α : Type} {L : List α} {i : Nat} {x : α} (h : L[i]? = some x) : L.Perm (x :: L.eraseIdx i) := by
  induction L generalizing i with
  | nil => simp at h
  | cons y L ih =>
    cases i with
    | zero =>
      have e : y = x := by simpa using h
      rw [e]
      exact List.Perm.refl _
    | succ i =>
      have h2 : L[i]? = some x := by simpa using h
      show (y :: L).Perm (x :: y :: L.eraseIdx i)
      exact ((ih h2).cons y).trans (List.Perm.swap x y _)
theorem er_s {α : Type} {L : List α} {i : Nat} {x z : α} (h : L[i]? = some x) : (L.set i z).Perm (z :: L.eraseIdx i) := by
  have hl : i < L.length := (List.getElem?_eq_some_iff.mp h).1
  have h1 : (L.set i z)[i]? = some z := List.getElem?_set_self hl
  have h2 := er_p h1
  rw [List.eraseIdx_set_eq] at h2
  exact h2
theorem hw_o {cA : Nat → ClassId} {E : va_W} {L : List hs_T} {i : Nat} {x : hs_T} (h : L[i]? = some x) : (E ++ hw_W cA L).Perm ((E ++ hs_W cA x) ++ hw_W cA (L.eraseIdx i)) := by
  rw [List.append_assoc]
  exact List.Perm.append_left E ((er_p h).flatMap_right (hs_W cA))
theorem hw_c {cA : Nat → ClassId} {E : va_W} {L : List hs_T} {i : Nat} {x z : hs_T} (h : L[i]? = some x) : ((E ++ hs_W cA z) ++ hw_W cA (L.eraseIdx i)).Perm (E ++ hw_W cA (L.set i z)) := by
  rw [List.append_assoc]
  exact (List.Perm.append_left E ((er_s h).flatMap_right (hs_W cA))).symm
theorem hw_n {cA : Nat → ClassId} {E : va_W} {L : List hs_T} {z : hs_T} : ((E ++ hs_W cA z) ++ hw_W cA L).Perm (E ++ hw_W cA (L ++ [z])) := by
  rw [List.append_assoc]
  refine List.Perm.append_left E ?_
  unfold hw_W
  rw [List.flatMap_append]
  have e : List.flatMap (hs_W cA) [z] = hs_W cA z := by simp
  rw [e]
  exact List.perm_append_comm
theorem rg_set {L : List hs_T} {i : Nat} {o a1 a2 a3 : Nat} {st ce st' ce' : Nat → Int32} (h : L[i]? = some (o, a1, a2, a3, st, ce)) : rg_F (L.set i (o, a1, a2, a3, st', ce')) = rg_F L := by
  funext j
  unfold rg_F
  have hl : i < L.length := (List.getElem?_eq_some_iff.mp h).1
  by_cases e : i = j
  · rw [← e, List.getElem?_set_self hl, h]; rfl
  · rw [List.getElem?_set_ne e]
theorem rg_app {L : List hs_T} {z : hs_T} : rg_F (L ++ [z]) = va_up (rg_F L) L.length (some z.1) := by
  funext j
  unfold rg_F va_up
  by_cases e : j = L.length
  · rw [if_pos e, e, List.getElem?_append_right (Nat.le_refl _), Nat.sub_self]; rfl
  · rw [if_neg e]
    by_cases q : j < L.length
    · rw [List.getElem?_append_left q]
    · have h1 : L[j]? = none := List.getElem?_eq_none (by omega)
      have h2 : (L ++ [z])[j]? = none := List.getElem?_eq_none (by rw [List.length_append]; simp; omega)
      dsimp only
      rw [h1, h2]
