/-! the world made is the small machine's world -/
section
variable {A : AC} {D : va_G} {Ba : Nat → Prop}
def d3 : ST3 := (0, fun _ => 0, fun _ => 0)
def adF (T : List ST3) (x h ha t tq tb q0 q1 q2 q3 q4 q5 q6 q7 q8 b : Nat) : PR → Nat := fun r => match r.1 with
  | 0 => (T.getD r.2.2 d3).1
  | 1 => if r.2.1 = 11 then tq else (T.getD r.2.2 d3).2.1 r.2.1
  | 2 => if r.2.1 = 11 then tb else (T.getD r.2.2 d3).2.2 r.2.1
  | 3 => x
  | 4 => h
  | 5 => ha
  | 6 => t
  | 8 => match r.2.1 with
    | 0 => q0
    | 1 => q1
    | 2 => q2
    | 3 => q3
    | 4 => q4
    | 5 => q5
    | 6 => q6
    | 7 => q7
    | _ => q8
  | _ => b
def m0 (L9 : Nat) (xs : Nat → Int32) : PM := (fun t k g i => match t with
  | 2 => if k < 11 then c0 k i else 0
  | 10 => if g = 1 then nI L9 else xs i
  | _ => 0, fun _ _ _ _ => 0)
def blkI (g : Nat) : List PR := (0, 0, g) :: (List.range 11).flatMap fun k => [(1, k, g), (2, k, g)]
def tlI : List PR := [(1, 11, 0), (2, 11, 0), (3, 0, 0), (4, 0, 0), (5, 0, 0), (6, 0, 0), (8, 0, 0), (8, 1, 0), (8, 2, 0), (8, 3, 0), (8, 4, 0), (8, 5, 0), (8, 6, 0), (8, 7, 0), (8, 8, 0)]
theorem ids_eq : ids = (List.range 8).flatMap blkI ++ tlI := rfl
theorem rng_map {α β : Type} (T : List α) (d : α) (F : α → List β) : ∀ n, T.length = n → (List.range n).flatMap (fun g => F (T.getD g d)) = T.flatMap F := by
  intro n hn
  have e : (List.range n).map (fun g => T.getD g d) = T := by
    apply List.ext_getElem?
    intro i
    rw [List.getElem?_map]
    by_cases hi : i < n
    · rw [List.getElem?_range hi, List.getElem?_eq_getElem (by omega)]
      show some (T.getD i d) = _
      rw [List.getD_eq_getElem?_getD, List.getElem?_eq_getElem (by omega)]
      rfl
    · rw [List.getElem?_eq_none (by rw [List.length_range]; omega), List.getElem?_eq_none (by omega)]
      rfl
  rw [← e, List.flatMap_map]
  rw [e]
theorem blk_eq {L9 : Nat} {xs : Nat → Int32} {T : List ST3} {x h ha t tq tb q0 q1 q2 q3 q4 q5 q6 q7 q8 b : Nat} (g : Nat) : (blkI g).map (fun r => (adF T x h ha t tq tb q0 q1 q2 q3 q4 q5 q6 q7 q8 b r, ce A (adF T x h ha t tq tb q0 q1 q2 q3 q4 q5 q6 q7 q8 b) (m0 L9 xs) r)) = stW A (T.getD g d3).1 (T.getD g d3).2.1 (T.getD g d3).2.2 := rfl
def tlW (A : AC) (T : List ST3) (x h ha t tq tb q0 q1 q2 q3 q4 q5 q6 q7 q8 : Nat) (f : Nat → Option Nat) : va_W := [(tq, .inr (1, [.ref tb])), (tb, .inl (A.1, 60, .inl (fun _ => 0))), (x, .inr (4, [.ref (T.getD 0 d3).1, .ref (T.getD 1 d3).1, .ref h, .ref t])), (h, .inr (0, [.ref ha, .int 0, .int 0])), (ha, .inl (A.2.2, 6, .inr (.inr (.inr (.inr f))))), (t, .inr (3, [.ref tq, .int 0]))] ++ arW A q0 q1 q2 q3 q4 q5 q6 q7 q8
theorem wd_eq {L9 : Nat} {xs : Nat → Int32} {T : List ST3} {x h ha t tq tb q0 q1 q2 q3 q4 q5 q6 q7 q8 b : Nat} (hT : T.length = 8) : wd A (adF T x h ha t tq tb q0 q1 q2 q3 q4 q5 q6 q7 q8 b) (m0 L9 xs) = stL A T ++ tlW A T x h ha t tq tb q0 q1 q2 q3 q4 q5 q6 q7 q8 (fun i => some (T.getD (2 + i) d3).1) := by
  unfold wd
  rw [ids_eq, List.map_append]
  congr 1
  · rw [List.map_flatMap]
    have e : (fun a => List.map (fun r => (adF T x h ha t tq tb q0 q1 q2 q3 q4 q5 q6 q7 q8 b r, ce A (adF T x h ha t tq tb q0 q1 q2 q3 q4 q5 q6 q7 q8 b) (m0 L9 xs) r)) (blkI a)) = fun g => (fun t9 : ST3 => stW A t9.1 t9.2.1 t9.2.2) (T.getD g d3) := by
      funext g
      exact blk_eq g
    rw [e, rng_map T d3 (fun t9 : ST3 => stW A t9.1 t9.2.1 t9.2.2) 8 hT]
    rfl
/-- by membership -/
theorem va_P_mem {D : va_G} {cl : List vw_C} {ws ws2 : va_W} {H : Heap} (h : va_P D cl ws H) (k : ∀ q ∈ ws2, q ∈ ws) : va_P D cl ws2 H := by
  intro i q hq
  obtain ⟨j, hj⟩ := List.getElem?_of_mem (k q (List.mem_of_getElem? hq))
  exact h j q hj
theorem va_D_nd {A : Nat → Prop} {ws : va_W} (h : va_D A ws) : (ws.map fun q => q.1).Nodup := by
  refine List.pairwise_iff_getElem.mpr (fun i j hi hj hij e => ?_)
  rw [List.length_map] at hi hj
  rw [List.getElem_map, List.getElem_map] at e
  have := h.1 i j _ _ (List.getElem?_eq_getElem hi) (List.getElem?_eq_getElem hj) e
  omega
theorem va_D_of {A : Nat → Prop} {ws : va_W} (h : (ws.map fun q => q.1).Nodup) (k : ∀ q ∈ ws, A q.1) : va_D A ws := by
  refine ⟨fun i j p q hp hq e => ?_, fun i q hq => k q (List.mem_of_getElem? hq)⟩
  obtain ⟨li, ei⟩ := List.getElem?_eq_some_iff.mp hp
  obtain ⟨lj, ej⟩ := List.getElem?_eq_some_iff.mp hq
  have h9 := List.pairwise_iff_getElem.mp h
  rcases Nat.lt_trichotomy i j with c | c | c
  · exact absurd (by rw [List.getElem_map, List.getElem_map, ei, ej]; exact e) (h9 i j (by rw [List.length_map]; exact li) (by rw [List.length_map]; exact lj) c)
  · exact c
  · exact absurd (by rw [List.getElem_map, List.getElem_map, ei, ej]; exact e.symm) (h9 j i (by rw [List.length_map]; exact lj) (by rw [List.length_map]; exact li) c)
theorem cell_q {cA : ClassId} {n : Nat} {f g : Nat → Option Nat} (h : ∀ j, j < n → f j = g j) : vp_cell cA (n, .inr (.inr (.inr (.inr f)))) = vp_cell cA (n, .inr (.inr (.inr (.inr g)))) := by
  rw [vp_cell_q, vp_cell_q]
  unfold arrV
  have e : (fun j : Fin n => va_rf (f j.val)) = fun j : Fin n => va_rf (g j.val) := by
    funext j
    rw [h j.val j.isLt]
  rw [e]
theorem all_made {L9 : Nat} {xs : Nat → Int32} {s0 s1 : Nat} {n0 b0 n1 b1 : Nat → Nat} {L : List ST3} {x h ha t tq tb q0 q1 q2 q3 q4 q5 q6 q7 q8 b : Nat} {H : Heap} (hL : L.length = 6) (hP : va_P D vwCl (alW A x s0 n0 b0 s1 n1 b1 h ha L t tq tb q0 q1 q2 q3 q4 q5 q6 q7 q8) H) (hD : va_D Ba (alW A x s0 n0 b0 s1 n1 b1 h ha L t tq tb q0 q1 q2 q3 q4 q5 q6 q7 q8)) :
    va_P D vwCl (wd A (adF ((s0, n0, b0) :: (s1, n1, b1) :: L) x h ha t tq tb q0 q1 q2 q3 q4 q5 q6 q7 q8 b) (m0 L9 xs)) H ∧ va_D Ba (wd A (adF ((s0, n0, b0) :: (s1, n1, b1) :: L) x h ha t tq tb q0 q1 q2 q3 q4 q5 q6 q7 q8 b) (m0 L9 xs)) := by
  rw [wd_eq (T := (s0, n0, b0) :: (s1, n1, b1) :: L) (by show L.length + 1 + 1 = 8; omega)]
  have eT : stL A ((s0, n0, b0) :: (s1, n1, b1) :: L) = stW A s0 n0 b0 ++ (stW A s1 n1 b1 ++ stL A L) := by
    unfold stL
    rw [List.flatMap_cons, List.flatMap_cons]
  rw [eT]
  have hf : ∀ j, j < 6 → stF L j = (fun i => some ((((s0, n0, b0) :: (s1, n1, b1) :: L).getD (2 + i) d3).1)) j := fun j hj => by
    show (L[j]?).map _ = some _
    rw [show 2 + j = j + 1 + 1 by omega, List.getD_cons_succ, List.getD_cons_succ, List.getD_eq_getElem?_getD, List.getElem?_eq_getElem (by omega)]
    rfl
  have hP1 : va_P D vwCl ((stW A s0 n0 b0 ++ (stW A s1 n1 b1 ++ stL A L)) ++ tlW A ((s0, n0, b0) :: (s1, n1, b1) :: L) x h ha t tq tb q0 q1 q2 q3 q4 q5 q6 q7 q8 (stF L)) H := by
    refine va_P_mem hP (fun q hq => ?_)
    unfold alW hpW
    unfold tlW at hq
    simp only [List.mem_append, List.mem_cons, List.not_mem_nil, or_false] at hq ⊢
    rcases hq with (c | c | c) | (c | c | c | c | c | c) | c
    · exact Or.inl (Or.inr (Or.inl c))
    · exact Or.inl (Or.inr (Or.inr (Or.inl c)))
    · exact Or.inl (Or.inr (Or.inr (Or.inr (Or.inr (Or.inr (Or.inl c))))))
    · exact Or.inl (Or.inr (Or.inr (Or.inr (Or.inr (Or.inr (Or.inr (Or.inr (Or.inl c))))))))
    · exact Or.inl (Or.inr (Or.inr (Or.inr (Or.inr (Or.inr (Or.inr (Or.inr (Or.inr c))))))))
    · exact Or.inl (Or.inl c)
    · exact Or.inl (Or.inr (Or.inr (Or.inr (Or.inl c))))
    · exact Or.inl (Or.inr (Or.inr (Or.inr (Or.inr (Or.inl c)))))
    · exact Or.inl (Or.inr (Or.inr (Or.inr (Or.inr (Or.inr (Or.inr (Or.inl c)))))))
    · exact Or.inr c
  refine ⟨?_, ?_⟩
  · intro i q hq
    have hm := List.mem_of_getElem? hq
    by_cases hqa : q = (ha, .inl (A.2.2, 6, .inr (.inr (.inr (.inr (fun i => some ((((s0, n0, b0) :: (s1, n1, b1) :: L).getD (2 + i) d3).1)))))))
    · rw [hqa]
      have h1 : va_at D vwCl (ha, .inl (A.2.2, 6, .inr (.inr (.inr (.inr (stF L)))))) H := by
        obtain ⟨j, hj⟩ := List.getElem?_of_mem (show (ha, (.inl (A.2.2, 6, .inr (.inr (.inr (.inr (stF L))))) : va_E)) ∈ (stW A s0 n0 b0 ++ (stW A s1 n1 b1 ++ stL A L)) ++ tlW A ((s0, n0, b0) :: (s1, n1, b1) :: L) x h ha t tq tb q0 q1 q2 q3 q4 q5 q6 q7 q8 (stF L) from List.mem_append_right _ (by unfold tlW; simp))
        exact hP1 j _ hj
      have h2 : H[ha]? = some (vp_cell A.2.2 (6, .inr (.inr (.inr (.inr (stF L)))))) := h1
      show H[ha]? = some (vp_cell A.2.2 (6, .inr (.inr (.inr (.inr _)))))
      rw [h2, cell_q hf]
    · have hm2 : q ∈ (stW A s0 n0 b0 ++ (stW A s1 n1 b1 ++ stL A L)) ++ tlW A ((s0, n0, b0) :: (s1, n1, b1) :: L) x h ha t tq tb q0 q1 q2 q3 q4 q5 q6 q7 q8 (stF L) := by
        rcases List.mem_append.mp hm with c | c
        · exact List.mem_append_left _ c
        · refine List.mem_append_right _ ?_
          unfold tlW at c ⊢
          simp only [List.mem_append, List.mem_cons, List.not_mem_nil, or_false] at c ⊢
          rcases c with (c | c | c | c | c | c) | c
          · exact Or.inl (Or.inl c)
          · exact Or.inl (Or.inr (Or.inl c))
          · exact Or.inl (Or.inr (Or.inr (Or.inl c)))
          · exact Or.inl (Or.inr (Or.inr (Or.inr (Or.inl c))))
          · exact absurd c hqa
          · exact Or.inl (Or.inr (Or.inr (Or.inr (Or.inr (Or.inr c)))))
          · exact Or.inr c
      obtain ⟨j, hj⟩ := List.getElem?_of_mem hm2
      exact hP1 j q hj
  · have hn := va_D_nd hD
    have hp : List.Perm ((alW A x s0 n0 b0 s1 n1 b1 h ha L t tq tb q0 q1 q2 q3 q4 q5 q6 q7 q8).map fun q => q.1) (((stW A s0 n0 b0 ++ (stW A s1 n1 b1 ++ stL A L)) ++ tlW A ((s0, n0, b0) :: (s1, n1, b1) :: L) x h ha t tq tb q0 q1 q2 q3 q4 q5 q6 q7 q8 (fun i => some ((((s0, n0, b0) :: (s1, n1, b1) :: L).getD (2 + i) d3).1))).map fun q => q.1) := by
      unfold alW hpW tlW arW
      simp only [List.map_append, List.map_cons, List.map_nil]
      rw [List.perm_iff_count]
      intro a
      simp only [List.count_append, List.count_cons, List.count_nil]
      omega
    refine va_D_of (hp.nodup_iff.mp hn) (fun q hq => ?_)
    have h1 : q.1 ∈ (alW A x s0 n0 b0 s1 n1 b1 h ha L t tq tb q0 q1 q2 q3 q4 q5 q6 q7 q8).map fun q => q.1 := hp.mem_iff.mpr (List.mem_map.mpr ⟨q, hq, rfl⟩)
    obtain ⟨q2, hq2, e⟩ := List.mem_map.mp h1
    obtain ⟨j, hj⟩ := List.getElem?_of_mem hq2
    have e : q2.1 = q.1 := e
    rw [← e]
    exact hD.2 j q2 hj
end
