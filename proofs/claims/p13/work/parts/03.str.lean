/-! STRINGS: the class's eleven String constants, where they lie, what they hold; the steps that look at them. -/
def x_strI : List Nat := [85, 91, 93, 95, 97, 99, 101, 103, 105, 107, 123]
def x_strT : List String := ["reg", "value", "bytes", "none", "fb", "cfa", "obj", "tls", "div", "mod", "=;,:{}[]()/%?|^&<>+-*~"]
def x_strB : List (List Int32) := [[114, 101, 103], [118, 97, 108, 117, 101], [98, 121, 116, 101, 115], [110, 111, 110, 101], [102, 98], [99, 102, 97], [111, 98, 106], [116, 108, 115], [100, 105, 118], [109, 111, 100], [61, 59, 44, 58, 123, 125, 91, 93, 40, 41, 47, 37, 63, 124, 94, 38, 60, 62, 43, 45, 42, 126]]
def x_strN : List Nat := [3, 5, 5, 4, 2, 3, 3, 3, 3, 3, 22]
/-- where the strings lie, where their bytes, and the formatter of a failed test -/
abbrev xK : Type := (Nat → Nat) × (Nat → Nat) × Option Nat
def x_KS (sk : xK) (base : Nat) (U : State) (H : Heap) : Prop :=
  vk_S 11 x_strN x_strB sk.1 sk.2.1 (fun q => base ≤ q) U H ∧ (∀ i, i < 11 → vk_R "LocationDesk$Reader" (x_strI.getD i 0) (x_strT.getD i "") (sk.1 i) U) ∧ va_Z "java/lang/String" "COMPACT_STRINGS" "Z" (.int 1) (fun q => base ≤ q) U H ∧ va_Z "jdk/internal/util/Preconditions" "SIOOBE_FORMATTER" "Ljava/util/function/BiFunction;" (va_rf sk.2.2) (fun q => base ≤ q) U H
theorem x_KS.same {sk : xK} {base : Nat} {u U : State} {H : Heap} (e : U.vm = u.vm) (h : x_KS sk base u H) : x_KS sk base U H :=
  ⟨vk_S.moved (by rw [e]; exact Vm.Alike.refl _) h.1, fun i hi => vk_R.same e (h.2.1 i hi), va_Z.moved (by rw [e]; exact Vm.Alike.refl _) h.2.2.1, va_Z.moved (by rw [e]; exact Vm.Alike.refl _) h.2.2.2⟩
theorem x_KS.warm {sk : xK} {base : Nat} {u U : State} {H : Heap} (hW : u.WarmedH U.vm) (h : x_KS sk base u H) : x_KS sk base U H :=
  ⟨vk_S.moved hW.alike h.1, fun i hi => vk_R.warm hW (h.2.1 i hi), va_Z.moved hW.alike h.2.2.1, va_Z.moved hW.alike h.2.2.2⟩
theorem x_KS.kept {sk : xK} {base : Nat} {U : State} {H H1 : Heap} (hq : ∀ a : Nat, a < H.size → ¬ base ≤ a → H1[a]? = H[a]?) (h : x_KS sk base U H) : x_KS sk base U H1 :=
  ⟨vk_S.kept h.1 hq, h.2.1, va_Z.kept h.2.2.1 hq, va_Z.kept h.2.2.2 hq⟩
def x_sins (sk : xK) (Ts : List Cond) (own : String) (i : Jvm.ClassFile.Instr) (len : Nat) (a b : xS) : Prop :=
  match i with
  | .ldc idx => len = 2 ∧ ∃ k, k < 11 ∧ own = "LocationDesk$Reader" ∧ idx = x_strI.getD k 0 ∧ b = x_k a 2 (.ref (sk.1 k) :: a.2.2.1)
  | .getfield idx => len = 3 ∧ ∃ k r, k < 11 ∧ a.2.2.1 = .ref (sk.1 k) :: r ∧ ((Cond.fieldLink own idx "java/lang/String" "value" "[B" ∈ Ts ∧ b = x_k a 3 (.ref (sk.2.1 k) :: r)) ∨ (Cond.fieldLink own idx "java/lang/String" "coder" "B" ∈ Ts ∧ b = x_k a 3 (.int 0 :: r)))
  | .arraylength => len = 1 ∧ ∃ k r, k < 11 ∧ a.2.2.1 = .ref (sk.2.1 k) :: r ∧ b = x_k a 1 (.int (Int32.ofNat (x_strN.getD k 0)) :: r)
  | .baload => len = 1 ∧ ∃ k x r, k < 11 ∧ vp_in x (x_strN.getD k 0) ∧ a.2.2.1 = .int x :: .ref (sk.2.1 k) :: r ∧ b = x_k a 1 (.int ((x_strB.getD k []).getD x.toNatClampNeg 0) :: r)
  | .getstatic idx => len = 3 ∧ ((Cond.fieldLink own idx "java/lang/String" "COMPACT_STRINGS" "Z" ∈ Ts ∧ b = x_k a 3 (.int 1 :: a.2.2.1)) ∨ (Cond.fieldLink own idx "jdk/internal/util/Preconditions" "SIOOBE_FORMATTER" "Ljava/util/function/BiFunction;" ∈ Ts ∧ b = x_k a 3 (va_rf sk.2.2 :: a.2.2.1)))
  | .i2b => len = 1 ∧ ∃ x r, a.2.2.1 = .int x :: r ∧ b = x_k a 1 (.int x.toInt8.toInt32 :: r)
  | _ => False
section XS
variable {p : Program} {l : Launch} {e : Env} {R : Room} {s : State} {m : MethodId} {args : Array Value} {below : List Frame} {meth : Method} {c : Code} {H : Heap} {locs : List Loc} {cells slots : Nat} {Q : State → Prop}
variable {D : va_G} {cl : List vw_C} {dA : Nat → ClassId} {base : Nat} {kd : List FieldType} {AO : List Cond} {Ts : List Cond} {X : Option (Nat × Nat × (Nat → Int32))} {own : String} {cc : ByteArray} {nL s0 : Nat} {ls : Array Slot}
theorem x_sins_W {sk : xK} {i : Jvm.ClassFile.Instr} {len : Nat} {a b : xS} (F : x_F p m meth c cc nL s args Ts own D cl dA kd AO X base) (hKS : x_KS sk base s s.heap) (hdg : decode cc a.1 = .ok (i, len)) (hi : x_sins sk Ts own i len a b) (hR : x_R D cl dA base s0 nL s H locs cells slots ls a.2.1 a.2.2.2)
    (kk : ∀ (H1 : Heap) (locs1 : List Loc) (cells1 slots1 : Nat) (ls1 : Array Slot), x_R D cl dA base s0 nL s H1 locs1 cells1 slots1 ls1 b.2.1 b.2.2.2 → W p l e R s m args below meth c H1 locs1 cells1 slots1 Q (F0 m b.1 ls1 b.2.2.1)) : W p l e R s m args below meth c H locs cells slots Q (F0 m a.1 ls a.2.2.1) := by
  obtain ⟨⟨hx, hb, hml, hown, hts⟩, hK, hbs, hX, hcl⟩ := F
  obtain ⟨pc, L, st, h⟩ := a
  dsimp only at hdg hi hR ⊢
  have hR0 := hR
  obtain ⟨hP, hS, hc, hsl, hl⟩ := hR
  obtain ⟨k1, k2, k3, k4⟩ := hKS
  cases i with
  | ldc idx =>
    obtain ⟨rfl, k, hk, rfl, rfl, rfl⟩ := hi
    exact va_ldcS hx hb hown (k2 k hk) hdg (kk _ _ _ _ _ hR0)
  | getfield idx =>
    obtain ⟨rfl, k, r, hk, rfl, hh⟩ := hi
    rcases hh with ⟨hw, rfl⟩ | ⟨hw, rfl⟩
    · exact vk_getf hx hb (k1.1 k hk).2.2.1 hS hown (hts _ hw) (fun _ h => h) hdg (kk _ _ _ _ _ hR0)
    · exact vk_getf hx hb (k1.1 k hk).2.1 hS hown (hts _ hw) (fun _ h => h) hdg (kk _ _ _ _ _ hR0)
  | arraylength =>
    obtain ⟨rfl, k, r, hk, rfl, rfl⟩ := hi
    exact va_tlen hx hb (k1.1 k hk).2.2.2 hS rfl hdg (kk _ _ _ _ _ hR0)
  | baload =>
    obtain ⟨rfl, k, x, r, hk, hin, rfl, rfl⟩ := hi
    exact va_tb hx hb (k1.1 k hk).2.2.2 hS hin rfl hdg (kk _ _ _ _ _ hR0)
  | getstatic idx =>
    obtain ⟨rfl, hh⟩ := hi
    rcases hh with ⟨hw, rfl⟩ | ⟨hw, rfl⟩
    · exact va_gets hx hb k3 hS hown (hts _ hw) (fun _ h => h) hdg (kk _ _ _ _ _ hR0)
    · exact va_gets hx hb k4 hS hown (hts _ hw) (fun _ h => h) hdg (kk _ _ _ _ _ hR0)
  | i2b =>
    obtain ⟨rfl, x, r, rfl, rfl⟩ := hi
    exact lv_i2b hx hb hdg rfl (kk _ _ _ _ _ hR0)
  | _ => exact hi.elim
end XS
/-- where the strings lie: below the cells -/
def x_kb (sk : xK) (base : Nat) : Prop := (∀ k, k < 11 → sk.1 k < base ∧ sk.2.1 k < base) ∧ ∀ a b, a < 11 → b < 11 → (sk.1 a = sk.1 b → a = b) ∧ (sk.2.1 a = sk.2.1 b → a = b)
theorem x_kb_of {sk : xK} {base : Nat} {U : State} {H : Heap} (h : x_KS sk base U H) : x_kb sk base := by
  obtain ⟨⟨h1, h2⟩, -⟩ := h
  refine ⟨fun k hk => ?_, fun a b ha hb => ⟨h2 a b ha hb, fun e => ?_⟩⟩
  · obtain ⟨⟨c, -, -, -, o⟩, -, -, ⟨c2, -, -, -, -, -, -, o2⟩⟩ := h1 k hk
    exact ⟨Nat.lt_of_not_le o, Nat.lt_of_not_le o2⟩
  · obtain ⟨-, -, -, ⟨c, p1, -, -, p4, p5, p6, -⟩⟩ := h1 a ha
    obtain ⟨-, -, -, ⟨c', q1, -, -, q4, q5, q6, -⟩⟩ := h1 b hb
    rw [e, q1] at p1
    cases p1
    have k1 : ∀ a b : Fin 11, Int32.ofNat (x_strN.getD a.val 0) = Int32.ofNat (x_strN.getD b.val 0) → x_strN.getD a.val 0 = x_strN.getD b.val 0 := by decide
    have hl := k1 ⟨a, ha⟩ ⟨b, hb⟩ (p5.symm.trans q5)
    have hl : x_strN.getD a 0 = x_strN.getD b 0 := hl
    have hby : ∀ j, j < x_strN.getD a 0 → (x_strB.getD a []).getD j 0 = (x_strB.getD b []).getD j 0 := fun j hj => by
      have x1 := p6 j hj
      have x2 := q6 j (by rw [← hl]; exact hj)
      rw [x1] at x2
      exact Value.int.inj (Option.some.inj x2)
    have k2 : ∀ a b : Fin 11, x_strN.getD a.val 0 = x_strN.getD b.val 0 → (∀ j : Fin 22, j.val < x_strN.getD a.val 0 → (x_strB.getD a.val []).getD j.val 0 = (x_strB.getD b.val []).getD j.val 0) → a = b := by decide
    exact congrArg Fin.val (k2 ⟨a, ha⟩ ⟨b, hb⟩ hl (fun j hj => hby j.val hj))
