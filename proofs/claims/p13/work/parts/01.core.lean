/-! THE SIMPLE MACHINE: states of one method as plain data (place, locals, stack, cells from 'base' on), and its steps as a relation; behind it: what it does, the real machine does. -/
abbrev xC : Type := (Nat × vp_A) ⊕ (Nat × List Value)
abbrev xL : Type := List (Nat × Value)
abbrev xS : Type := Nat × xL × List Value × List xC
def x_E (dA : Nat → ClassId) : xC → va_E := fun q => match q with
  | .inl a => .inl (dA a.1, a.2)
  | .inr o => .inr o
def x_W (dA : Nat → ClassId) (base : Nat) (h : List xC) : va_W := h.mapIdx (fun i q => (base + i, x_E dA q))
def x_n : xC → Nat := fun q => match q with
  | .inl a => a.2.1
  | .inr o => o.2.length
def x_sl (h : List xC) : Nat := (h.map x_n).sum
theorem x_W_at (dA : Nat → ClassId) (base : Nat) (h : List xC) (i : Nat) : (x_W dA base h)[i]? = (h[i]?).map (fun q => (base + i, x_E dA q)) := by
  unfold x_W
  rw [List.getElem?_mapIdx]
theorem x_W_get {dA : Nat → ClassId} {base : Nat} {h : List xC} {i : Nat} {q : xC} (e : h[i]? = some q) : (x_W dA base h)[i]? = some (base + i, x_E dA q) := by
  rw [x_W_at, e]; rfl
theorem x_W_len (dA : Nat → ClassId) (base : Nat) (h : List xC) : (x_W dA base h).length = h.length := by
  unfold x_W
  rw [List.length_mapIdx]
theorem x_W_set (dA : Nat → ClassId) (base : Nat) (h : List xC) (i : Nat) (q : xC) : (x_W dA base h).set i (base + i, x_E dA q) = x_W dA base (h.set i q) := by
  apply List.ext_getElem?
  intro j
  rw [x_W_at, List.getElem?_set, List.getElem?_set, x_W_len, x_W_at]
  by_cases hij : i = j
  · subst hij
    by_cases hl : i < h.length
    · simp [hl]
    · simp [hl]
  · simp [hij]
theorem x_W_app (dA : Nat → ClassId) (base : Nat) (h : List xC) (q : xC) : x_W dA base h ++ [(base + h.length, x_E dA q)] = x_W dA base (h ++ [q]) := by
  unfold x_W
  rw [List.mapIdx_concat]
theorem x_D (dA : Nat → ClassId) (base : Nat) (h : List xC) : va_D (fun q => base ≤ q) (x_W dA base h) := by
  refine ⟨fun i j p q hi hj hpq => ?_, fun k q hk => ?_⟩
  · rw [x_W_at] at hi hj
    obtain ⟨a, -, rfl⟩ := Option.map_eq_some_iff.mp hi
    obtain ⟨b, -, rfl⟩ := Option.map_eq_some_iff.mp hj
    dsimp only at hpq
    omega
  · rw [x_W_at] at hk
    obtain ⟨a, -, rfl⟩ := Option.map_eq_some_iff.mp hk
    exact Nat.le_add_right _ _
theorem x_sl_set {h : List xC} {i : Nat} {q q2 : xC} (e : h[i]? = some q) (hn : x_n q2 = x_n q) : x_sl (h.set i q2) = x_sl h := by
  unfold x_sl
  rw [List.map_set, hn]
  congr 1
  apply List.ext_getElem?
  intro j
  rw [List.getElem?_set]
  by_cases hij : i = j
  · subst hij
    have hl : i < h.length := (List.getElem?_eq_some_iff.mp e).1
    simp [hl, e, List.getElem?_map]
    have := (List.getElem?_eq_some_iff.mp e).2
    rw [this]
  · simp [hij]
theorem x_sl_app (h : List xC) (q : xC) : x_sl (h ++ [q]) = x_sl h + x_n q := by
  simp [x_sl]
section XW
variable {p : Program} {l : Launch} {e : Env} {R : Room} {s : State} {m : MethodId} {args : Array Value} {below : List Frame} {meth : Method} {c : Code} {H : Heap} {locs : List Loc} {cells slots : Nat} {Q : State → Prop}
variable {D : va_G} {cl : List vw_C} {dA : Nat → ClassId} {base : Nat} {h : List xC}
/-- the heap ends where the cells end -/
theorem x_size {g : JFrame} (hP : va_P D cl (x_W dA base h) H) (hb : base ≤ s.heap.size) (hz : s.heap.size ≤ H.size) (hc : base + h.length = s.heap.size + cells) (kk : H.size = base + h.length → W p l e R s m args below meth c H locs cells slots Q g) : W p l e R s m args below meth c H locs cells slots Q g := by
  intro T hT X
  refine kk ?_ T hT X
  have h1 : T.heap.size ≤ s.heap.size + cells := X.heapSize
  rw [hT] at h1
  by_cases h0 : h.length = 0
  · omega
  · have hi : h.length - 1 < h.length := by omega
    have h2 := (hP (h.length - 1) _ (x_W_get (List.getElem?_eq_getElem hi))).lt
    dsimp only at h2
    omega
/-- a new cell lies behind the others -/
theorem x_fresh {g : JFrame} {q : Nat} {x : va_E} {sl : Nat} (hP : va_P D cl (x_W dA base h ++ [(q, x)]) H) (hD : va_D (fun q => base ≤ q) (x_W dA base h ++ [(q, x)])) (hc : base + h.length = s.heap.size + cells) (kk : q = base + h.length → W p l e R s m args below meth c H locs (cells + 1) sl Q g) : W p l e R s m args below meth c H locs (cells + 1) sl Q g := by
  intro T hT X
  refine kk ?_ T hT X
  have h1 : T.heap.size ≤ s.heap.size + (cells + 1) := X.heapSize
  rw [hT] at h1
  have hl : (x_W dA base h ++ [(q, x)])[h.length]? = some (q, x) := by
    rw [List.getElem?_append_right (by rw [x_W_len]; exact Nat.le_refl _), x_W_len]
    simp
  have h2 := (hP _ _ hl).lt
  have h3 := hD.2 _ _ hl
  dsimp only at h2 h3
  rcases Nat.lt_or_ge q (base + h.length) with h4 | h4
  · have hi : q - base < h.length := by omega
    have h5 : (x_W dA base h ++ [(q, x)])[q - base]? = some (base + (q - base), x_E dA h[q - base]) := by
      rw [List.getElem?_append_left (by rw [x_W_len]; exact hi)]
      exact x_W_get (List.getElem?_eq_getElem hi)
    have h6 := hD.1 _ _ _ _ h5 hl (by dsimp only; omega)
    omega
  · omega
end XW
