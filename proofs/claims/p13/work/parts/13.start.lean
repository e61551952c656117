/-! THE CLAIM OUT OF ONE WALK OF THE LAW'S BODY. Your part is whole_start (and what it stands on); all else here is the same for every law, but numbers. -/
def R_law : String := "LocationDeskLaw"
def lw_P (b : Addr) (xs : List Int32) (args : Array Value) (s : State) : Prop := args = #[.ref b] ∧ s.IntsAt b xs ∧ xs.length ≤ 3584 ∧ (Jvm.Cond.and given_1 narrow_1).before args s = true
def lw_Q (_ : Array Value) (s : State) (o : Outcome) (t : State) : Prop := o = .returned (some (.int 1)) ∧ Framed s o t [] 600000 7302250
def lw_Z (below : List Frame) (a : Array Value) (s : State) : State → Prop := fun t => ∃ o, t.status = .running ∧ Ended t below o ∧ lw_Q a s o t
/-- the law's own end, with 1 on the stack, nothing written that was there before, its room as the claim has it -/
theorem lw_ret {p : Program} {l : Launch} {e : Env} {s : State} {m : MethodId} {below : List Frame} {meth : Method} {c : Code} {b : Nat} (hx : p.tables.exec = Jvm.exec) (hb : c.code = code) (hr : meth.sig.returnType = ret) (hlocks : meth.locks = false) {pc : Nat} {H : Heap} {ls : Array Slot} (hdg : decode code pc = .ok (.ireturn, 1)) : W p l e room_1 s m #[Value.ref b] below meth c H [] 600000 7302250 (lw_Z below #[Value.ref b] s) (F0 m pc ls [.int 1]) := by
  intro T hT X
  obtain ⟨fs, hret, hrun, hended, hW, hframe⟩ := X.leave (v := some (.int 1)) (hlocks := hlocks) (fun h => by rw [hr] at h; cases h)
  have hmeth' : T.vm.method? m = some meth := X.method'
  refine ⟨T.setFrames fs, ?_, .returned (some (.int 1)), hrun, hended, rfl, ⟨_, rfl⟩, hW, hframe⟩
  jvm_step X.here [X.here.top, hx, hb, hdg, hmeth', hr, ret, narrow_b1]
  (try refine ⟨rfl, ?_⟩); (try refine ⟨rfl, ?_⟩)
  first | (intro acts; rw [hret _ acts rfl rfl rfl]) | rw [hret _ _ rfl rfl rfl]
  exact Steps.refl _
/-- what holds at the law's entry: the machine, the code, the tables' words (any of lw_tbl by 'hts w (by decide +kernel)'), the script of L ints xs at the cell b, what the Statement gives of the start (any of its parts by flat_of_before) -/
def lw_At (p : Program) (s : State) (m : MethodId) (meth : Method) (c : Code) (b L : Nat) (xs : Nat → Int32) : Prop :=
  p.tables.exec = Jvm.exec ∧ c.code = code ∧ meth.sig.returnType = ret ∧ c.maxLocals = 4 ∧ s.vm.findClass R_law = some m.cls ∧ (∀ w ∈ lw_tbl, w.before #[Value.ref b] s = true) ∧ va_X b L xs s s.heap ∧ b < s.heap.size ∧ meth.locks = false ∧ (Jvm.Cond.and given_1 narrow_1).before #[Value.ref b] s = true ∧ meth.name = x.name
/-! THE CLAIM OUT OF THE SIMPLE MACHINE -/
def x_kn : List FieldType := [.int, .long, .boolean, .object "LocationDesk$Part", .object "LocationDesk$Variable", .object "LocationDesk$Place", .array .int]
/-- what is left to be shown: the simple machine's run of the law -/
def x_Law : Prop := ∀ (sk : xK) (base b L : Nat) (xs : Nat → Int32), x_kb sk base → L ≤ 3584 → b < base → ∃ h' : List xC, x_G sk vwCl x_kn x_Ts x_AO xMM base 1000 (some (b, L, xs)) 0 (0, [(0, .ref b)], [], []) (some (.int 1)) h' ∧ h'.length ≤ 600000 ∧ x_sl h' ≤ 7302250
theorem x_arrT {s : State} {c : ClassId} {k : Class} {comp : ClassId} {ty : FieldType} (h1 : s.vm.classes[c]? = some k) (h2 : k.kind = .array comp ty) : ArrOfT s c ty := by
  intro n z
  refine ⟨?_, k, h1, comp, h2⟩
  intro q hq
  cases hq
theorem x_overA_any {args : Array Value} {s : State} {t : FieldType} (h : (Cond.arrayOver (.array t)).before args s = true) : va_Nw (.arrayOver (.array t)) s := h
theorem x_overA {args : Array Value} {s : State} {t : FieldType} (h : (Cond.arrayOver (.array t)).before args s = true) : ∃ comp c k, s.vm.classes[c]? = some k ∧ k.kind = .array comp (.array t) ∧ s.vm.findClass ("[" ++ (FieldType.array t).toString) = some c := by
  simp only [Cond.before, Cond.holds, Cond.value, beq_iff_eq] at h
  cases hc : s.vm.findClass (FieldType.array t).toString with
  | none => simp [hc] at h
  | some comp =>
    simp only [hc, Option.bind_some, Option.bind_eq_some_iff, Option.map_eq_some_iff] at h
    obtain ⟨c, -, k, hk, h⟩ := h
    cases hkd : k.kind with
    | array component ty =>
      rw [hkd] at h
      simp only [Bool.and_eq_true, decide_eq_true_eq] at h
      obtain ⟨rfl, h2⟩ := h
      exact ⟨component, c, k, hk, hkd, h2⟩
    | _ => rw [hkd] at h; simp at h
theorem x_inst : ∀ (ci : Nat) (C : String) (T : u_T) (N : Nat), vwCl[ci]? = some (C, T, N) → Cond.instantiable C N ∈ x_Ts := by
  intro ci C T N h
  match ci, h with
  | 0, h => cases h; exact tin_2 (i := 89) rfl rfl
  | 1, h => cases h; exact tin_1 (i := 89) rfl rfl
  | 2, h => cases h; exact tin_1 (i := 216) rfl rfl
  | 3, h => cases h; exact tin_5 (i := 89) rfl rfl
  | 4, h => cases h; exact tin_2 (i := 3) rfl rfl
  | 5, h => cases h; exact tin_1 (i := 38) rfl rfl
  | 6, h => cases h; exact tin_5 (i := 31) rfl rfl
  | 7, h => cases h; exact tin_2 (i := 9) rfl rfl
  | 8, h => cases h; exact tin_1 (i := 31) rfl rfl
  | 9, h => cases h; exact tin_1 (i := 152) rfl rfl
  | 10, h => cases h; exact tin_4 (i := 200) rfl rfl
  | 11, h => cases h; exact tin_1 (i := 23) rfl rfl
  | 12, h => cases h; exact tin_6 (i := 45) rfl rfl
  | ci + 13, h => simp [vwCl] at h
/-! where the strings lie -/
def x_stm (i : Nat) : Term := .string "LocationDesk$Reader" (x_strI.getD i 0)
theorem x_sr : ∀ i, i < 11 → Cond.stringRef "LocationDesk$Reader" (x_strI.getD i 0) (x_strT.getD i "") ∈ lw_tbl := by
  intro i hi
  match i, hi with
  | 0, _ => exact (List.mem_append_right _ (List.mem_append_right _ (List.mem_append_right _ (List.mem_append_right _ (List.mem_append_left _ (List.mem_of_getElem? (i := 30) rfl))))))
  | 1, _ => exact (List.mem_append_right _ (List.mem_append_right _ (List.mem_append_right _ (List.mem_append_right _ (List.mem_append_left _ (List.mem_of_getElem? (i := 83) rfl))))))
  | 2, _ => exact (List.mem_append_right _ (List.mem_append_right _ (List.mem_append_right _ (List.mem_append_right _ (List.mem_append_left _ (List.mem_of_getElem? (i := 84) rfl))))))
  | 3, _ => exact (List.mem_append_right _ (List.mem_append_right _ (List.mem_append_right _ (List.mem_append_right _ (List.mem_append_left _ (List.mem_of_getElem? (i := 85) rfl))))))
  | 4, _ => exact (List.mem_append_right _ (List.mem_append_right _ (List.mem_append_right _ (List.mem_append_right _ (List.mem_append_left _ (List.mem_of_getElem? (i := 86) rfl))))))
  | 5, _ => exact (List.mem_append_right _ (List.mem_append_right _ (List.mem_append_right _ (List.mem_append_right _ (List.mem_append_left _ (List.mem_of_getElem? (i := 87) rfl))))))
  | 6, _ => exact (List.mem_append_right _ (List.mem_append_right _ (List.mem_append_right _ (List.mem_append_right _ (List.mem_append_left _ (List.mem_of_getElem? (i := 88) rfl))))))
  | 7, _ => exact (List.mem_append_right _ (List.mem_append_right _ (List.mem_append_right _ (List.mem_append_right _ (List.mem_append_left _ (List.mem_of_getElem? (i := 89) rfl))))))
  | 8, _ => exact (List.mem_append_right _ (List.mem_append_right _ (List.mem_append_right _ (List.mem_append_right _ (List.mem_append_left _ (List.mem_of_getElem? (i := 90) rfl))))))
  | 9, _ => exact (List.mem_append_right _ (List.mem_append_right _ (List.mem_append_right _ (List.mem_append_right _ (List.mem_append_left _ (List.mem_of_getElem? (i := 91) rfl))))))
  | 10, _ => exact (List.mem_append_right _ (List.mem_append_right _ (List.mem_append_right _ (List.mem_append_right _ (List.mem_append_left _ (List.mem_of_getElem? (i := 108) rfl))))))
  | i + 11, hi => exact absurd hi (by omega)
theorem x_sn1 : ∀ i, i < 11 → Cond.exactly (x_stm i) "java/lang/String" ∈ Jvm.Free.XT.flat narrow_1 := by decide +kernel
theorem x_sn2 : ∀ i, i < 11 → Cond.eq (.field (x_stm i) "java/lang/String" "coder" "B") (.int 0) ∈ Jvm.Free.XT.flat narrow_1 := by decide +kernel
theorem x_sn3 : ∀ i, i < 11 → Cond.arrayOf (.field (x_stm i) "java/lang/String" "value" "[B") .byte ∈ Jvm.Free.XT.flat narrow_1 := by decide +kernel
theorem x_sn4 : ∀ i, i < 11 → Cond.eq (.length (.field (x_stm i) "java/lang/String" "value" "[B")) (.int (Int32.ofNat (x_strN.getD i 0))) ∈ Jvm.Free.XT.flat narrow_1 := by decide +kernel
theorem x_sn5 : ∀ i, i < 11 → ∀ j, j < x_strN.getD i 0 → Cond.eq (.elem (.field (x_stm i) "java/lang/String" "value" "[B") (.int (Int32.ofNat j))) (.int ((x_strB.getD i []).getD j 0)) ∈ Jvm.Free.XT.flat narrow_1 := by decide +kernel
theorem x_sn6 : ∀ i, i < 11 → ∀ j, j < 11 → i ≠ j → Cond.not (Cond.eq (x_stm i) (x_stm j)) ∈ Jvm.Free.XT.flat narrow_1 ∨ Cond.not (Cond.eq (x_stm j) (x_stm i)) ∈ Jvm.Free.XT.flat narrow_1 := by decide +kernel
theorem x_strings {b : Nat} {s : State} (hts : ∀ w ∈ lw_tbl, w.before #[Value.ref b] s = true) (hgv : (Jvm.Cond.and given_1 narrow_1).before #[Value.ref b] s = true) : ∃ sk : xK, x_KS sk s.heap.size s s.heap := by
  rw [Cond.before_and, Bool.and_eq_true] at hgv
  have hs := flat_of_before _ hgv.2
  have hA : ∀ a : Nat, a < s.heap.size → ¬ (fun q => s.heap.size ≤ q) a := fun a ha => Nat.not_le_of_lt ha
  obtain ⟨adK, adV, h1, h2⟩ := vk_Sof (args := #[Value.ref b]) (s := s) (N := 11) (tm := x_stm) (len := x_strN) (byt := x_strB) (A := fun q => s.heap.size ≤ q) (by decide) (fun i hi => hs _ (x_sn1 i hi)) (fun i hi => hs _ (x_sn2 i hi)) (fun i hi => hs _ (x_sn3 i hi)) (fun i hi => hs _ (x_sn4 i hi)) (fun i hi j hj => hs _ (x_sn5 i hi j hj)) (fun i j hi hj hij => (x_sn6 i hi j hj hij).imp (fun h => hs _ h) (fun h => hs _ h)) hA
  have hZ := va_Zqof (A := fun q => s.heap.size ≤ q) (hts (Cond.laysStatic "jdk/internal/util/Preconditions" "SIOOBE_FORMATTER" "Ljava/util/function/BiFunction;") (List.mem_append_right _ (List.mem_append_right _ (List.mem_append_right _ (List.mem_append_right _ (List.mem_append_left _ (List.mem_of_getElem? (i := 60) rfl))))))) (hts (Cond.initialized "jdk/internal/util/Preconditions") (List.mem_append_right _ (List.mem_append_left _ (List.mem_of_getElem? (i := 16) rfl)))) (hs _ (by decide +kernel)) hA
  have h3 : va_Z "java/lang/String" "COMPACT_STRINGS" "Z" (.int 1) (fun q => s.heap.size ≤ q) s s.heap := va_Zof (hts (Cond.laysStatic "java/lang/String" "COMPACT_STRINGS" "Z") (List.mem_append_right _ (List.mem_append_right _ (List.mem_append_right _ (List.mem_append_right _ (List.mem_append_left _ (List.mem_of_getElem? (i := 44) rfl))))))) (hts (Cond.initialized "java/lang/String") (List.mem_append_right _ (List.mem_append_left _ (List.mem_of_getElem? (i := 14) rfl)))) (va_eqt (hs (Cond.eq (.static "java/lang/String" "COMPACT_STRINGS" "Z") (.int 1)) (by decide +kernel))) hA
  rcases hZ with hz | ⟨t, hz⟩
  · exact ⟨(adK, adV, none), h1, fun i hi => vk_R.of (hts _ (x_sr i hi)) (h2 i hi), h3, hz⟩
  · exact ⟨(adK, adV, some t), h1, fun i hi => vk_R.of (hts _ (x_sr i hi)) (h2 i hi), h3, hz⟩
set_option maxHeartbeats 4000000 in
set_option maxRecDepth 100000 in
theorem x_whole (hp : x_Law) {p : Program} {e : Env} {s : State} {m : MethodId} {below : List Frame} {meth : Method} {c : Code} (l : Launch) {b L : Nat} {xs : Nat → Int32} (hL : L ≤ 3584) (C0 : lw_At p s m meth c b L xs) : W p l e room_1 s m #[Value.ref b] below meth c s.heap [] 0 0 (lw_Z below #[Value.ref b] s) (entryFrame m ([Value.ref b] : List Value).toArray 4) := by
  obtain ⟨hx, hb, hr, hml, hown, hts, hX, hbl, hlocks, hgv, hname⟩ := id C0
  obtain ⟨sk, hKS⟩ := x_strings hts hgv
  obtain ⟨h', ⟨n, hg⟩, hr1, hr2⟩ := hp sk s.heap.size b L xs (x_kb_of hKS) hL hbl
  have hts2 : ∀ w ∈ x_Ts, w.before #[Value.ref b] s = true := fun w hw => hts w (List.mem_filter.mp hw).1
  have known : ∀ (ci : Nat), ∃ (cC : ClassId) (iS : Nat → Nat), ∀ q, vwCl[ci]? = some q → u_Kn s q.1 q.2.1 q.2.2 cC iS := by
    intro ci
    cases hq : vwCl[ci]? with
    | none => exact ⟨0, fun _ => 0, fun q h => by cases h⟩
    | some q =>
      obtain ⟨C, T, N⟩ := q
      have hins : (Cond.instantiable C N).before #[Value.ref b] s = true := hts2 _ (x_inst ci C T N hq)
      obtain ⟨cC, iS, hKn⟩ := u_known (C := C) (T := T) (N := N) (n := N) hts2 (x_cl_ok ci C T N hq).1 hins
      exact ⟨cC, iS, fun q h => by cases h; exact hKn⟩
  have prim : ∀ ty : FieldType, (Cond.arrayClass ty).before #[Value.ref b] s = true → (∀ C, ty ≠ .object C) → ∃ cA : ClassId, ArrOfT s cA ty ∧ va_RA s cA ty := by
    intro ty h hne
    obtain ⟨c1, k1, comp, f1, f2, f3⟩ := Cond.arrayClass_spec h
    refine ⟨c1, x_arrT f2 f3, ?_⟩
    cases ty with
    | object C => exact absurd rfl (hne C)
    | _ => exact f1
  have obj : ∀ C : String, (Cond.arrayOver (.object C)).before #[Value.ref b] s = true → ∃ cA : ClassId, ArrOfT s cA (.object C) ∧ va_RA s cA (.object C) := by
    intro C h
    obtain ⟨comp, c1, k1, f1, -, f3, f4, f5⟩ := Cond.arrayOver_spec h
    exact ⟨c1, x_arrT f3 f4, k1, comp, f3, f4, f1, f5⟩
  have arrs : ∀ (k : Nat), ∃ cA : ClassId, ∀ ty, x_kn[k]? = some ty → ArrOfT s cA ty ∧ va_RA s cA ty := by
    intro k
    match k with
    | 0 =>
      obtain ⟨cA, h⟩ := prim .int (hts2 _ (tin_1 (i := 149) rfl rfl)) (fun _ h => by cases h)
      exact ⟨cA, fun ty e => by cases e; exact h⟩
    | 1 =>
      obtain ⟨cA, h⟩ := prim .long (hts2 _ (tin_1 (i := 150) rfl rfl)) (fun _ h => by cases h)
      exact ⟨cA, fun ty e => by cases e; exact h⟩
    | 2 =>
      obtain ⟨cA, h⟩ := prim .boolean (hts2 _ (tin_7 (i := 126) rfl rfl)) (fun _ h => by cases h)
      exact ⟨cA, fun ty e => by cases e; exact h⟩
    | 3 =>
      obtain ⟨cA, h⟩ := obj "LocationDesk$Part" (hts _ (List.mem_append_right _ (List.mem_append_left _ (List.mem_of_getElem? (i := 37) rfl))))
      exact ⟨cA, fun ty e => by cases e; exact h⟩
    | 4 =>
      obtain ⟨cA, h⟩ := obj "LocationDesk$Variable" (hts _ (List.mem_append_right _ (List.mem_append_left _ (List.mem_of_getElem? (i := 87) rfl))))
      exact ⟨cA, fun ty e => by cases e; exact h⟩
    | 5 =>
      obtain ⟨cA, h⟩ := obj "LocationDesk$Place" (hts _ (List.mem_append_right _ (List.mem_append_right _ (List.mem_append_right _ (List.mem_append_right _ (List.mem_append_left _ (List.mem_of_getElem? (i := 206) rfl)))))))
      exact ⟨cA, fun ty e => by cases e; exact h⟩
    | 6 =>
      obtain ⟨comp, c1, k1, f1, f2, f3⟩ := x_overA (hts _ (List.mem_append_right _ (List.mem_append_left _ (List.mem_of_getElem? (i := 95) rfl))))
      exact ⟨c1, fun ty e => by cases e; exact ⟨x_arrT f1 f2, f3⟩⟩
    | k + 7 => exact ⟨0, fun ty e => by simp [x_kn] at e⟩
  have hKK : x_K (fun k => Classical.choose (known k), fun k => Classical.choose (Classical.choose_spec (known k))) vwCl (fun k => Classical.choose (arrs k)) x_kn x_AO s := by
    refine ⟨⟨fun ci q hq => Classical.choose_spec (Classical.choose_spec (known ci)) q hq, fun k q hq => ?_⟩, fun w hw => ?_⟩
    · rw [List.getElem?_mapIdx] at hq
      obtain ⟨ty, h1, rfl⟩ := Option.map_eq_some_iff.mp hq
      exact Classical.choose_spec (arrs k) ty h1
    · have h1 := hts w (List.mem_filter.mp hw).1
      have h2 := (List.mem_filter.mp hw).2
      cases w with
      | fieldLinkNest a i b n d h => exact va_Nw.of rfl h1
      | methodLinkNest a i x h => exact va_Nw.of rfl h1
      | castable a b => exact va_Nw.of rfl h1
      | arrayOver t =>
        cases t with
        | object C => exact va_AO.of h1
        | array t => exact x_overA_any h1
        | _ => exact absurd h2 (by simp [x_isN])
      | _ => exact absurd h2 (by simp [x_isN])
  have hl := lv_entry ([.ref b]) (n := 4) (Nat.le_of_ble_eq_true rfl)
  rw [lg_entry_eq]
  generalize (lg_sl ([.ref b]) ++ List.replicate (4 - (lg_sl ([.ref b])).length) Slot.unset).toArray = ls at hl ⊢
  refine x_body (l := l) x_ok n 1000 (some (b, L, xs)) 0 (0, [(0, .ref b)], [], []) (some (.int 1)) h' hg p e room_1 s m #[Value.ref b] below meth c (lw_Z below #[Value.ref b] s) x code 4 (some .boolean) 0 s.heap [] 0 0 ls rfl ⟨⟨hx, hb, hml, hown, hts2⟩, hKK, Nat.le_refl _, (fun q n f h => by cases h; exact ⟨hX, hbl⟩), x_cl_ok⟩ hKS ?_ (by decide) (by decide) (by show s.heap.size + h'.length ≤ s.heap.size + 600000; omega) (by show x_sl h' ≤ 0 + 7302250; omega) ?_ ⟨fun k q h => by simp [x_W] at h, va_S.rf, rfl, rfl, hl⟩
  · exact hname
  · intro pc i len st Lx H1 locs1 cells1 slots1 ls1 hd hret hR
    obtain ⟨gP, gS, gc, gs, gl⟩ := hR
    cases i with
    | ireturn =>
      obtain ⟨rfl, x1, ty, rfl, hx1, -, -⟩ := hret
      cases hx1
      refine va_forget (fun q hq => gS.2.2 q hq) ?_
      refine W.widen (k := 600000) (n := 7302250) (by omega) (by omega) ?_
      exact lw_ret hx hb hr hlocks hd
    | lreturn =>
      obtain ⟨rfl, x1, rfl, hx1, h3⟩ := hret
      cases h3
    | areturn =>
      obtain ⟨rfl, x1, ty, rfl, hx1, h3, h4⟩ := hret
      cases h3
      rcases h4 with ⟨_, h4⟩ | ⟨_, h4⟩ <;> cases h4
    | return_ =>
      obtain ⟨rfl, rfl, h3, h4⟩ := hret
      cases h3
    | _ => exact hret.elim
