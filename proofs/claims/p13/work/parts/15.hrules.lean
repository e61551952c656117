/-! Rules over the cells as functions. -/
abbrev hw (sk : xK) (base d : Nat) (X : Option (Nat × Nat × (Nat → Int32))) (j pc : Nat) (L : xL) (st : List Value) (s : hS) (Φ : Option Value → hS → Prop) : Prop := xw sk vwCl x_kn x_Ts x_AO xMM base d X (h_Rel base) j pc L st s Φ
theorem h_same {α : Type} (f : Nat → α) (c : Nat) : va_up f c (f c) = f := by
  funext i
  by_cases h : i = c
  · subst h; simp [va_up]
  · simp [va_up, h]
theorem h_noF : ∀ t, t < 13 → ∀ k, k < 105 → h_ty t k ≠ .float ∧ h_ty t k ≠ .double := by decide +kernel
theorem h_nle : ∀ t, t < 13 → h_nf t ≤ 105 := by decide +kernel
def h_up {α : Type} (F : Nat → Nat → α) (c k : Nat) (x : α) : Nat → Nat → α := va_up F c (va_up (F c) k x)
theorem h_up_eq {α : Type} {F : Nat → Nat → α} {c k : Nat} {x : α} : h_up F c k x c k = x := by simp [h_up, va_up]
theorem h_up_ne {α : Type} {F : Nat → Nat → α} {c k k2 : Nat} {x : α} (h : k2 ≠ k) : h_up F c k x c k2 = F c k2 := by simp [h_up, va_up, h]
theorem h_up_nc {α : Type} {F : Nat → Nat → α} {c k c2 : Nat} {x : α} (h : c2 ≠ c) : h_up F c k x c2 = F c2 := by simp [h_up, va_up, h]
section HW
variable {sk : xK} {base d : Nat} {X : Option (Nat × Nat × (Nat → Int32))} {j : Nat} {y : MethodName} {nL : Nat} {ret : Option FieldType} {len pc : Nat} {L : xL} {st : List Value} {Φ : Option Value → hS → Prop} {n sl : Nat} {SH : Nat → Nat × Nat} {FI : Nat → Nat → Int32} {FL : Nat → Nat → Int64} {FR : Nat → Nat → Option Nat}
theorem hw_st {i : Jvm.ClassFile.Instr} {s s' : hS} {pc' : Nat} {L' : xL} {st' : List Value} (q : x_at xMM j pc i len y nL ret) (hi : ∀ h, h_Rel base s h → ∃ h2, x_ins vwCl x_kn x_Ts x_AO X base y.cls y.name nL i len (pc, L, st, h) (pc', L', st', h2) ∧ h_Rel base s' h2) (k : hw sk base d X j pc' L' st' s' Φ) : hw sk base d X j pc L st s Φ := by
  intro h hR
  obtain ⟨h2, g1, g2⟩ := hi h hR
  obtain ⟨r, h', g3, k2⟩ := k h2 g2
  exact ⟨r, h', x_G.step q g1 g3, k2⟩
theorem hw_aload {i a : Nat} {s : hS} (q : x_at xMM j pc (.aload i) 2 y nL ret) (hl : x_get L i = some (.ref a)) (k : hw sk base d X j (pc + 2) L (.ref a :: st) s Φ) : hw sk base d X j pc L st s Φ := xw_aload (x := some a) q hl k
theorem hw_aloadn {i : Fin 4} {a : Nat} {s : hS} (q : x_at xMM j pc (.aload_n i) 1 y nL ret) (hl : x_get L i = some (.ref a)) (k : hw sk base d X j (pc + 1) L (.ref a :: st) s Φ) : hw sk base d X j pc L st s Φ := xw_aloadn (x := some a) q hl k
theorem hw_astore {i a : Nat} {L2 : xL} {s : hS} (q : x_at xMM j pc (.astore i) 2 y nL ret) (hn : i < nL) (hl : x_s1 L i (.ref a) = L2) (k : hw sk base d X j (pc + 2) L2 st s Φ) : hw sk base d X j pc L (.ref a :: st) s Φ := xw_astore (x := some a) q hn hl k
theorem hw_astoren {i : Fin 4} {a : Nat} {L2 : xL} {s : hS} (q : x_at xMM j pc (.astore_n i) 1 y nL ret) (hn : (i : Nat) < nL) (hl : x_s1 L i (.ref a) = L2) (k : hw sk base d X j (pc + 1) L2 st s Φ) : hw sk base d X j pc L (.ref a :: st) s Φ := xw_astoren (x := some a) q hn hl k
theorem hw_aret {a : Nat} {ty : FieldType} {s : hS} (q : x_at xMM j pc .areturn 1 y nL ret) (hr : ret = some ty) (ht : (∃ n, ty = .object n) ∨ ∃ t, ty = .array t) (k : Φ (some (.ref a)) s) : hw sk base d X j pc L [.ref a] s Φ := xw_aret (v := some a) q hr ht k
/-- a field is read -/
theorem hw_get {idx t k N c z : Nat} {C : String} {T : u_T} {v : Value} (q : x_at xMM j pc (.getfield idx) 3 y nL ret) (hf : x_fl vwCl x_Ts x_AO y.cls idx t k C T N) (hc : c < n) (hs : SH c = (t, z)) (ht : t < 100) (hv : h_fv base (h_ty t k) (FI c k) (FL c k) (FR c k) = v) (kk : hw sk base d X j (pc + 3) L (v :: st) (n, sl, SH, FI, FL, FR) Φ) : hw sk base d X j pc L (.ref (base + c) :: st) (n, sl, SH, FI, FL, FR) Φ := by
  refine hw_st q (fun h hR => ⟨h, ⟨rfl, t, k, C, T, N, c, h_fs base t (FI c) (FL c) (FR c), v, st, hf, rfl, ?_, ?_, rfl⟩, hR⟩) kk
  · rw [hR.2.2 c hc, h_obj (congrArg Prod.fst hs) ht]
  · rw [h_fs_at (by rw [h_nf_of hf.1]; exact hf.2.1), hv]
theorem h_fs_len {base t : Nat} {f : Nat → Int32} {g : Nat → Int64} {r : Nat → Option Nat} : (h_fs base t f g r).length = h_nf t := by simp [h_fs]
theorem hw_put {idx t k N c z : Nat} {C : String} {T : u_T} {v : Value} {f' : Nat → Int32} {g' : Nat → Int64} {r' : Nat → Option Nat} (q : x_at xMM j pc (.putfield idx) 3 y nL ret) (hf : x_fl vwCl x_Ts x_AO y.cls idx t k C T N) (hc : c < n) (hs : SH c = (t, z)) (ht : t < 100) (hn : narrow (h_ty t k) v = v) (hfi : fits (h_ty t k) v = true) (hfin : (T k).2.2.2 = false ∨ ((T k).2.2.2 = true ∧ y.name = "<init>" ∧ (T k).1 = y.cls ∧ Cond.fieldLink y.cls idx (T k).1 (T k).2.1 (T k).2.2.1 ∈ x_Ts)) (hv : h_fv base (h_ty t k) (f' k) (g' k) (r' k) = v) (ho : ∀ i, i ≠ k → f' i = FI c i ∧ g' i = FL c i ∧ r' i = FR c i) (kk : hw sk base d X j (pc + 3) L st (n, sl, SH, va_up FI c f', va_up FL c g', va_up FR c r') Φ) : hw sk base d X j pc L (v :: .ref (base + c) :: st) (n, sl, SH, FI, FL, FR) Φ := by
  have hk : k < h_nf t := by rw [h_nf_of hf.1]; exact hf.2.1
  refine hw_st q (fun h hR => ⟨h.set c (.inr (t, (h_fs base t (FI c) (FL c) (FR c)).set k v)), ⟨rfl, t, k, C, T, N, c, h_fs base t (FI c) (FL c) (FR c), v, st, h_ty t k, hf, rfl, ?_, by rw [h_fs_len]; exact hk, h_ty_ok hf.1 hf.2.1, hn, hfi, hfin, rfl⟩, ?_⟩) kk
  · rw [hR.2.2 c hc, h_obj (congrArg Prod.fst hs) ht]
  · refine h_set hR hc ?_ ?_ (fun i hi => ⟨if_neg hi, if_neg hi, if_neg hi⟩)
    · rw [h_obj (congrArg Prod.fst hs) ht]
      have e : (h_fs base t (FI c) (FL c) (FR c)).set k v = h_fs base t f' g' r' := h_fs_set hk hv (fun i hi => by obtain ⟨a1, a2, a3⟩ := ho i hi; rw [a1, a2, a3])
      rw [show va_up FI c f' c = f' from if_pos rfl, show va_up FL c g' c = g' from if_pos rfl, show va_up FR c r' c = r' from if_pos rfl, e]
    · rw [h_obj (congrArg Prod.fst hs) ht]
      simp [x_n]
theorem hw_puti {idx t k N c z : Nat} {C : String} {T : u_T} {x : Int32} (q : x_at xMM j pc (.putfield idx) 3 y nL ret) (hf : x_fl vwCl x_Ts x_AO y.cls idx t k C T N) (hc : c < n) (hs : SH c = (t, z)) (ht : t < 100) (hty : h_ty t k = .int) (hfin : (T k).2.2.2 = false) (kk : hw sk base d X j (pc + 3) L st (n, sl, SH, h_up FI c k x, FL, FR) Φ) : hw sk base d X j pc L (.int x :: .ref (base + c) :: st) (n, sl, SH, FI, FL, FR) Φ := by
  refine hw_put q hf hc hs ht (by rw [hty]; rfl) (by rw [hty]; rfl) (Or.inl hfin) (f' := va_up (FI c) k x) (g' := FL c) (r' := FR c) (by rw [hty]; simp [h_fv, va_up]) (fun i hi => ⟨by simp [va_up, hi], rfl, rfl⟩) ?_
  rw [h_same FL, h_same FR]
  exact kk
theorem hw_putz {idx t k N c z : Nat} {C : String} {T : u_T} {x : Int32} (q : x_at xMM j pc (.putfield idx) 3 y nL ret) (hf : x_fl vwCl x_Ts x_AO y.cls idx t k C T N) (hc : c < n) (hs : SH c = (t, z)) (ht : t < 100) (hty : h_ty t k = .boolean) (hfin : (T k).2.2.2 = false) (hx : x = 0 ∨ x = 1) (kk : hw sk base d X j (pc + 3) L st (n, sl, SH, h_up FI c k x, FL, FR) Φ) : hw sk base d X j pc L (.int x :: .ref (base + c) :: st) (n, sl, SH, FI, FL, FR) Φ := by
  refine hw_put q hf hc hs ht (by rw [hty]; rcases hx with rfl | rfl <;> rfl) (by rw [hty]; rcases hx with rfl | rfl <;> rfl) (Or.inl hfin) (f' := va_up (FI c) k x) (g' := FL c) (r' := FR c) (by rw [hty]; simp [h_fv, va_up]) (fun i hi => ⟨by simp [va_up, hi], rfl, rfl⟩) ?_
  rw [h_same FL, h_same FR]
  exact kk
theorem hw_putl {idx t k N c z : Nat} {C : String} {T : u_T} {x : Int64} (q : x_at xMM j pc (.putfield idx) 3 y nL ret) (hf : x_fl vwCl x_Ts x_AO y.cls idx t k C T N) (hc : c < n) (hs : SH c = (t, z)) (ht : t < 100) (hty : h_ty t k = .long) (hfin : (T k).2.2.2 = false) (kk : hw sk base d X j (pc + 3) L st (n, sl, SH, FI, h_up FL c k x, FR) Φ) : hw sk base d X j pc L (.long x :: .ref (base + c) :: st) (n, sl, SH, FI, FL, FR) Φ := by
  refine hw_put q hf hc hs ht (by rw [hty]; rfl) (by rw [hty]; rfl) (Or.inl hfin) (f' := FI c) (g' := va_up (FL c) k x) (r' := FR c) (by rw [hty]; simp [h_fv, va_up]) (fun i hi => ⟨rfl, by simp [va_up, hi], rfl⟩) ?_
  rw [h_same FI, h_same FR]
  exact kk
theorem hw_putr {idx t k N c z : Nat} {C : String} {T : u_T} {r : Option Nat} (q : x_at xMM j pc (.putfield idx) 3 y nL ret) (hf : x_fl vwCl x_Ts x_AO y.cls idx t k C T N) (hc : c < n) (hs : SH c = (t, z)) (ht : t < 100) (hty : (∃ C2, h_ty t k = .object C2) ∨ ∃ t2, h_ty t k = .array t2) (hfin : (T k).2.2.2 = false ∨ ((T k).2.2.2 = true ∧ y.name = "<init>" ∧ (T k).1 = y.cls ∧ Cond.fieldLink y.cls idx (T k).1 (T k).2.1 (T k).2.2.1 ∈ x_Ts)) (kk : hw sk base d X j (pc + 3) L st (n, sl, SH, FI, FL, h_up FR c k r) Φ) : hw sk base d X j pc L (va_rf (h_rf base r) :: .ref (base + c) :: st) (n, sl, SH, FI, FL, FR) Φ := by
  have hn : narrow (h_ty t k) (va_rf (h_rf base r)) = va_rf (h_rf base r) := by
    rcases hty with ⟨C2, e⟩ | ⟨t2, e⟩ <;> rw [e] <;> cases r <;> rfl
  have hfi : fits (h_ty t k) (va_rf (h_rf base r)) = true := by
    rcases hty with ⟨C2, e⟩ | ⟨t2, e⟩ <;> rw [e] <;> cases r <;> rfl
  refine hw_put q hf hc hs ht hn hfi hfin (f' := FI c) (g' := FL c) (r' := va_up (FR c) k r) (by rcases hty with ⟨C2, e⟩ | ⟨t2, e⟩ <;> rw [e] <;> simp [h_fv, va_up]) (fun i hi => ⟨rfl, rfl, by simp [va_up, hi]⟩) ?_
  rw [h_same FI, h_same FL]
  exact kk
theorem hw_iald {c z : Nat} {i v : Int32} (q : x_at xMM j pc .iaload 1 y nL ret) (hc : c < n) (hs : SH c = (100, z)) (hin : vp_in i z) (hv : FI c i.toNatClampNeg = v) (kk : hw sk base d X j (pc + 1) L (.int v :: st) (n, sl, SH, FI, FL, FR) Φ) : hw sk base d X j pc L (.int i :: .ref (base + c) :: st) (n, sl, SH, FI, FL, FR) Φ := by
  subst hv
  exact hw_st q (fun h hR => ⟨h, ⟨rfl, i, st, Or.inl ⟨c, 0, z, FI c, rfl, hin, rfl, by rw [hR.2.2 c hc]; exact congrArg some (h_arr hs), rfl⟩⟩, hR⟩) kk
theorem hw_zald {c z : Nat} {i v : Int32} (q : x_at xMM j pc .baload 1 y nL ret) (hc : c < n) (hs : SH c = (102, z)) (hin : vp_in i z) (hv : FI c i.toNatClampNeg = v) (kk : hw sk base d X j (pc + 1) L (.int v :: st) (n, sl, SH, FI, FL, FR) Φ) : hw sk base d X j pc L (.int i :: .ref (base + c) :: st) (n, sl, SH, FI, FL, FR) Φ := by
  subst hv
  exact hw_st q (fun h hR => ⟨h, ⟨rfl, i, st, c, 2, z, FI c, rfl, hin, rfl, by rw [hR.2.2 c hc]; exact congrArg some (h_arr (k := 2) hs), rfl⟩, hR⟩) kk
theorem hw_lald {c z : Nat} {i : Int32} {v : Int64} (q : x_at xMM j pc .laload 1 y nL ret) (hc : c < n) (hs : SH c = (101, z)) (hin : vp_in i z) (hv : FL c i.toNatClampNeg = v) (kk : hw sk base d X j (pc + 1) L (.long v :: st) (n, sl, SH, FI, FL, FR) Φ) : hw sk base d X j pc L (.int i :: .ref (base + c) :: st) (n, sl, SH, FI, FL, FR) Φ := by
  subst hv
  exact hw_st q (fun h hR => ⟨h, ⟨rfl, i, st, c, 1, z, FL c, rfl, hin, rfl, by rw [hR.2.2 c hc]; exact congrArg some (h_arr (k := 1) hs), rfl⟩, hR⟩) kk
theorem h_arr_set {z c k : Nat} {f' : Nat → Int32} {g' : Nat → Int64} {r' : Nat → Option Nat} {h : List xC} (hR : h_Rel base (n, sl, SH, FI, FL, FR) h) (hc : c < n) (hs : SH c = (100 + k, z)) : h_Rel base (n, sl, SH, va_up FI c f', va_up FL c g', va_up FR c r') (h.set c (.inl (k, z, h_av base k f' g' r'))) := by
  refine h_set hR hc ?_ ?_ (fun i hi => ⟨if_neg hi, if_neg hi, if_neg hi⟩)
  · rw [show va_up FI c f' c = f' from if_pos rfl, show va_up FL c g' c = g' from if_pos rfl, show va_up FR c r' c = r' from if_pos rfl]
    exact h_arr hs
  · rw [h_arr hs]; rfl
theorem h_upd {f : Nat → Int32} {k : Nat} {x : Int32} : upd f k x = va_up f k x := by
  funext i; rfl
theorem h_updL {f : Nat → Int64} {k : Nat} {x : Int64} : vp_updL f k x = va_up f k x := by
  funext i; rfl
theorem hw_iast {c z : Nat} {i x : Int32} (q : x_at xMM j pc .iastore 1 y nL ret) (hc : c < n) (hs : SH c = (100, z)) (hin : vp_in i z) (kk : hw sk base d X j (pc + 1) L st (n, sl, SH, h_up FI c i.toNatClampNeg x, FL, FR) Φ) : hw sk base d X j pc L (.int x :: .int i :: .ref (base + c) :: st) (n, sl, SH, FI, FL, FR) Φ := by
  refine hw_st q (fun h hR => ⟨h.set c (.inl (0, z, .inl (upd (FI c) i.toNatClampNeg x))), ⟨rfl, i, x, st, c, 0, z, FI c, rfl, hin, rfl, by rw [hR.2.2 c hc]; exact congrArg some (h_arr hs), rfl⟩, ?_⟩) kk
  have e := h_arr_set (k := 0) (f' := va_up (FI c) i.toNatClampNeg x) (g' := FL c) (r' := FR c) hR hc hs
  rw [h_same FL, h_same FR] at e
  rw [h_upd]
  exact e
theorem hw_last {c z : Nat} {i : Int32} {x : Int64} (q : x_at xMM j pc .lastore 1 y nL ret) (hc : c < n) (hs : SH c = (101, z)) (hin : vp_in i z) (kk : hw sk base d X j (pc + 1) L st (n, sl, SH, FI, h_up FL c i.toNatClampNeg x, FR) Φ) : hw sk base d X j pc L (.long x :: .int i :: .ref (base + c) :: st) (n, sl, SH, FI, FL, FR) Φ := by
  refine hw_st q (fun h hR => ⟨h.set c (.inl (1, z, .inr (.inl (vp_updL (FL c) i.toNatClampNeg x)))), ⟨rfl, i, x, st, c, 1, z, FL c, rfl, hin, rfl, by rw [hR.2.2 c hc]; exact congrArg some (h_arr (k := 1) hs), rfl⟩, ?_⟩) kk
  have e := h_arr_set (k := 1) (f' := FI c) (g' := va_up (FL c) i.toNatClampNeg x) (r' := FR c) hR hc hs
  rw [h_same FI, h_same FR] at e
  rw [h_updL]
  exact e
theorem hw_zast {c z : Nat} {i x : Int32} (q : x_at xMM j pc .bastore 1 y nL ret) (hc : c < n) (hs : SH c = (102, z)) (hin : vp_in i z) (kk : hw sk base d X j (pc + 1) L st (n, sl, SH, h_up FI c i.toNatClampNeg (vp_nar .boolean x), FL, FR) Φ) : hw sk base d X j pc L (.int x :: .int i :: .ref (base + c) :: st) (n, sl, SH, FI, FL, FR) Φ := by
  refine hw_st q (fun h hR => ⟨h.set c (.inl (2, z, .inl (upd (FI c) i.toNatClampNeg (vp_nar .boolean x)))), ⟨rfl, i, x, st, c, 2, z, FI c, rfl, hin, rfl, by rw [hR.2.2 c hc]; exact congrArg some (h_arr (k := 2) hs), rfl⟩, ?_⟩) kk
  have e := h_arr_set (k := 2) (f' := va_up (FI c) i.toNatClampNeg (vp_nar .boolean x)) (g' := FL c) (r' := FR c) hR hc hs
  rw [h_same FL, h_same FR] at e
  rw [h_upd]
  exact e
theorem hw_aald {c k z : Nat} {i : Int32} {v : Option Nat} (q : x_at xMM j pc .aaload 1 y nL ret) (hc : c < n) (hs : SH c = (100 + k, z)) (hk : 3 ≤ k) (hk2 : k < 7) (hin : vp_in i z) (hv : FR c i.toNatClampNeg = v) (kk : hw sk base d X j (pc + 1) L (va_rf (h_rf base v) :: st) (n, sl, SH, FI, FL, FR) Φ) : hw sk base d X j pc L (.int i :: .ref (base + c) :: st) (n, sl, SH, FI, FL, FR) Φ := by
  subst hv
  have hkd : ∃ ty, x_kn[k]? = some ty ∧ ty.isReference = true := by
    rcases (show k = 3 ∨ k = 4 ∨ k = 5 ∨ k = 6 by omega) with rfl | rfl | rfl | rfl <;> exact ⟨_, rfl, rfl⟩
  obtain ⟨ty, e1, e2⟩ := hkd
  have hav : h_av base k (FI c) (FL c) (FR c) = .inr (.inr (.inr (.inr (fun i => h_rf base (FR c i))))) := by
    rcases (show k = 3 ∨ k = 4 ∨ k = 5 ∨ k = 6 by omega) with rfl | rfl | rfl | rfl <;> rfl
  exact hw_st q (fun h hR => ⟨h, ⟨rfl, i, st, c, k, z, fun i => h_rf base (FR c i), ty, e1, e2, hin, rfl, by rw [hR.2.2 c hc]; exact congrArg some ((h_arr hs).trans (by rw [hav])), rfl⟩, hR⟩) kk
theorem hw_alen {c k z : Nat} {v : Int32} (q : x_at xMM j pc .arraylength 1 y nL ret) (hc : c < n) (hs : SH c = (100 + k, z)) (hk2 : k < 7) (hv : Int32.ofNat z = v) (kk : hw sk base d X j (pc + 1) L (.int v :: st) (n, sl, SH, FI, FL, FR) Φ) : hw sk base d X j pc L (.ref (base + c) :: st) (n, sl, SH, FI, FL, FR) Φ := by
  subst hv
  exact hw_st q (fun h hR => ⟨h, ⟨rfl, st, Or.inl ⟨c, k, (z, h_av base k (FI c) (FL c) (FR c)), by simpa [x_kn] using hk2, rfl, by rw [hR.2.2 c hc]; exact congrArg some (h_arr hs), rfl⟩⟩, hR⟩) kk
theorem hw_sld {b LL : Nat} {xs : Nat → Int32} {i v : Int32} {s : hS} (q : x_at xMM j pc .iaload 1 y nL ret) (hX : X = some (b, LL, xs)) (hin : vp_in i LL) (hv : xs i.toNatClampNeg = v) (kk : hw sk base d X j (pc + 1) L (.int v :: st) s Φ) : hw sk base d X j pc L (.int i :: .ref b :: st) s Φ := by
  subst hv
  exact xw_pu q (fun h => ⟨rfl, i, st, Or.inr ⟨b, LL, xs, hX, hin, rfl, rfl⟩⟩) kk
theorem hw_slen {b LL : Nat} {xs : Nat → Int32} {v : Int32} {s : hS} (q : x_at xMM j pc .arraylength 1 y nL ret) (hX : X = some (b, LL, xs)) (hv : Int32.ofNat LL = v) (kk : hw sk base d X j (pc + 1) L (.int v :: st) s Φ) : hw sk base d X j pc L (.ref b :: st) s Φ := by
  subst hv
  exact xw_pu q (fun h => ⟨rfl, st, Or.inr ⟨b, LL, xs, hX, rfl, rfl⟩⟩) kk
theorem hw_new {idx t N : Nat} {C : String} {T : u_T} (q : x_at xMM j pc (.new idx) 3 y nL ret) (ht : vwCl[t]? = some (C, T, N)) (hl : Cond.classLink y.cls idx C ∈ x_Ts) (hi : Cond.initialized C ∈ x_Ts) (kk : hw sk base d X j (pc + 3) L (.ref (base + n) :: st) (n + 1, sl + N, va_up SH n (t, 0), va_up FI n (fun _ => 0), va_up FL n (fun _ => 0), va_up FR n (fun _ => none)) Φ) : hw sk base d X j pc L st (n, sl, SH, FI, FL, FR) Φ := by
  have ht2 : t < 100 := Nat.lt_trans (List.getElem?_eq_some_iff.mp ht).1 (by decide)
  refine hw_st q (fun h hR => ⟨h ++ [.inr (t, (List.range N).map (fun k => defaultValue (h_ty t k)))], ⟨rfl, t, C, T, N, h_ty t, ht, fun k hk => h_ty_ok ht hk, hl, x_inst t C T N ht, hi, by rw [hR.1]; rfl⟩, ?_⟩) kk
  refine h_push hR ?_ (by simp [x_n])
  rw [h_obj rfl ht2]
  congr 2
  unfold h_fs
  rw [h_nf_of ht]
  apply List.map_congr_left
  intro k hk
  have hk2 : k < N := List.mem_range.mp hk
  have ht3 : t < 13 := (List.getElem?_eq_some_iff.mp ht).1
  have h105 := h_nle t ht3
  rw [h_nf_of ht] at h105
  obtain ⟨f1, f2⟩ := h_noF t ht3 k (by omega)
  cases e : h_ty t k with
  | float => exact absurd e f1
  | double => exact absurd e f2
  | _ => rfl
theorem hw_newa {aty : ArrayType} {k z : Nat} {m : Int32} (q : x_at xMM j pc (.newarray aty) 2 y nL ret) (hk : x_kn[k]? = some (Jvm.Op.newarray.typeOf aty)) (hk2 : k < 3) (hl : Cond.arrayClass (Jvm.Op.newarray.typeOf aty) ∈ x_Ts) (hm : ¬ m < 0) (hz : m.toNatClampNeg = z) (hb : z * 8 ≤ 536870912) (kk : hw sk base d X j (pc + 2) L (.ref (base + n) :: st) (n + 1, sl + z, va_up SH n (100 + k, z), va_up FI n (fun _ => 0), va_up FL n (fun _ => 0), va_up FR n (fun _ => none)) Φ) : hw sk base d X j pc L (.int m :: st) (n, sl, SH, FI, FL, FR) Φ := by
  subst hz
  refine hw_st q (fun h hR => ⟨h ++ [.inl (k, m.toNatClampNeg, h_av base k (fun _ => 0) (fun _ => 0) (fun _ => none))], ⟨rfl, m, st, k, h_av base k (fun _ => 0) (fun _ => 0) (fun _ => none), hk, hl, hm, ?_, ?_, rfl, by rw [hR.1]; rfl⟩, ?_⟩) kk
  · have hcb : componentBytes (Jvm.Op.newarray.typeOf aty) ≤ 8 := by cases aty <;> decide
    exact Nat.le_trans (Nat.mul_le_mul_left _ hcb) hb
  · refine ⟨fun cA => ?_, ?_⟩
    · rcases (show k = 0 ∨ k = 1 ∨ k = 2 by omega) with rfl | rfl | rfl <;> (have e := Option.some.inj hk; rw [← e]; rfl)
    · rcases (show k = 0 ∨ k = 1 ∨ k = 2 by omega) with rfl | rfl | rfl <;> (have e := Option.some.inj hk; rw [← e]; rfl)
  · exact h_push hR (h_arr rfl) rfl
theorem hw_newq {idx k z : Nat} {C : String} {m : Int32} (q : x_at xMM j pc (.anewarray idx) 3 y nL ret) (hk : x_kn[k]? = some (.object C)) (hk3 : 3 ≤ k) (hl : Cond.classLink y.cls idx C ∈ x_Ts) (ha : Cond.arrayOver (.object C) ∈ x_AO) (hm : ¬ m < 0) (hz : m.toNatClampNeg = z) (hb : z * 4 ≤ 536870912) (kk : hw sk base d X j (pc + 3) L (.ref (base + n) :: st) (n + 1, sl + z, va_up SH n (100 + k, z), va_up FI n (fun _ => 0), va_up FL n (fun _ => 0), va_up FR n (fun _ => none)) Φ) : hw sk base d X j pc L (.int m :: st) (n, sl, SH, FI, FL, FR) Φ := by
  subst hz
  refine hw_st q (fun h hR => ⟨h ++ [.inl (k, m.toNatClampNeg, .inr (.inr (.inr (.inr (fun _ => none)))))], ⟨rfl, m, st, k, C, hk, hl, ha, hm, hb, rfl, by rw [hR.1]; rfl⟩, ?_⟩) kk
  refine h_push hR ((h_arr rfl).trans ?_) rfl
  obtain ⟨k, rfl⟩ : ∃ k', k = k' + 3 := ⟨k - 3, by omega⟩
  rfl
theorem hw_aast {c v k z ci zv N : Nat} {i : Int32} {C : String} {T : u_T} (q : x_at xMM j pc .aastore 1 y nL ret) (hc : c < n) (hs : SH c = (100 + k, z)) (hk : x_kn[k]? = some (.object C)) (hk3 : 3 ≤ k) (hcv : v < n) (hsv : SH v = (ci, zv)) (hci : vwCl[ci]? = some (C, T, N)) (hin : vp_in i z) (kk : hw sk base d X j (pc + 1) L st (n, sl, SH, FI, FL, h_up FR c i.toNatClampNeg (some v)) Φ) : hw sk base d X j pc L (.ref (base + v) :: .int i :: .ref (base + c) :: st) (n, sl, SH, FI, FL, FR) Φ := by
  have hci2 : ci < 100 := Nat.lt_trans (List.getElem?_eq_some_iff.mp hci).1 (by decide)
  obtain ⟨k, rfl⟩ : ∃ k', k = k' + 3 := ⟨k - 3, by omega⟩
  refine hw_st q (fun h hR => ⟨h.set c (.inl (k + 3, z, .inr (.inr (.inr (.inr (va_up (fun i => h_rf base (FR c i)) i.toNatClampNeg (some (base + v)))))))), ⟨rfl, i, v, st, c, k + 3, z, fun i => h_rf base (FR c i), hin, rfl, by rw [hR.2.2 c hc]; exact congrArg some (h_arr hs), rfl, Or.inl ⟨ci, h_fs base ci (FI v) (FL v) (FR v), C, T, N, hk, hci, by rw [hR.2.2 v hcv]; exact congrArg some (h_obj (congrArg Prod.fst hsv) hci2)⟩⟩, ?_⟩) kk
  have e := h_arr_set (k := k + 3) (f' := FI c) (g' := FL c) (r' := va_up (FR c) i.toNatClampNeg (some v)) hR hc hs
  rw [h_same FI, h_same FL] at e
  have e2 : (va_up (fun i => h_rf base (FR c i)) i.toNatClampNeg (some (base + v))) = fun i2 => h_rf base (va_up (FR c) i.toNatClampNeg (some v) i2) := by
    funext i2
    by_cases h9 : i2 = i.toNatClampNeg
    · simp [va_up, h9, h_rf]
    · simp [va_up, h9]
  rw [e2]
  exact e
/-- an int[] into an int[][] -/
theorem hw_aastI {c v z zv : Nat} {i : Int32} (q : x_at xMM j pc .aastore 1 y nL ret) (hc : c < n) (hs : SH c = (106, z)) (hA : Cond.arrayOver (.array .int) ∈ x_AO) (hcv : v < n) (hsv : SH v = (100, zv)) (hin : vp_in i z) (kk : hw sk base d X j (pc + 1) L st (n, sl, SH, FI, FL, h_up FR c i.toNatClampNeg (some v)) Φ) : hw sk base d X j pc L (.ref (base + v) :: .int i :: .ref (base + c) :: st) (n, sl, SH, FI, FL, FR) Φ := by
  refine hw_st q (fun h hR => ⟨h.set c (.inl (6, z, .inr (.inr (.inr (.inr (va_up (fun i => h_rf base (FR c i)) i.toNatClampNeg (some (base + v)))))))), ⟨rfl, i, v, st, c, 6, z, fun i => h_rf base (FR c i), hin, rfl, by rw [hR.2.2 c hc]; exact congrArg some (h_arr (k := 6) hs), rfl, Or.inr ⟨0, (zv, .inl (FI v)), rfl, rfl, hA, by rw [hR.2.2 v hcv]; exact congrArg some (h_arr (k := 0) hsv)⟩⟩, ?_⟩) kk
  have e := h_arr_set (k := 6) (f' := FI c) (g' := FL c) (r' := va_up (FR c) i.toNatClampNeg (some v)) hR hc hs
  rw [h_same FI, h_same FL] at e
  have e2 : (va_up (fun i => h_rf base (FR c i)) i.toNatClampNeg (some (base + v))) = fun i2 => h_rf base (va_up (FR c) i.toNatClampNeg (some v) i2) := by
    funext i2
    by_cases h9 : i2 = i.toNatClampNeg
    · simp [va_up, h9, h_rf]
    · simp [va_up, h9]
  rw [e2]
  exact e
/-- many cells alike behind the others -/
theorem h_pushs {z : Nat} {c : xC} {sh : Nat × Nat} {f : Nat → Int32} {g : Nat → Int64} {r : Nat → Option Nat} (hc : h_cell base sh f g r = c) (hz : x_n c = z) : ∀ (m n sl : Nat) (SH : Nat → Nat × Nat) (FI : Nat → Nat → Int32) (FL : Nat → Nat → Int64) (FR : Nat → Nat → Option Nat) (h : List xC), h_Rel base (n, sl, SH, FI, FL, FR) h → h_Rel base (n + m, sl + m * z, (fun q => if n ≤ q ∧ q < n + m then sh else SH q), (fun q => if n ≤ q ∧ q < n + m then f else FI q), (fun q => if n ≤ q ∧ q < n + m then g else FL q), (fun q => if n ≤ q ∧ q < n + m then r else FR q)) (h ++ List.replicate m c)
  | m, n, sl, SH, FI, FL, FR, h, hR => by
    obtain ⟨h1, h2, h3⟩ := hR
    dsimp only at h1 h2 h3
    refine ⟨by simp [h1], by simp [x_sl, List.map_replicate, hz] at h2 ⊢; omega, fun i hi => ?_⟩
    dsimp only at hi ⊢
    by_cases hin : i < n
    · have hno : ¬ (n ≤ i ∧ i < n + m) := by omega
      rw [List.getElem?_append_left (by omega)]
      simp only [if_neg hno]
      exact h3 i hin
    · have hyes : n ≤ i ∧ i < n + m := by omega
      rw [List.getElem?_append_right (by omega), List.getElem?_replicate, if_pos (by omega)]
      simp only [if_pos hyes]
      rw [hc]
theorem hw_mna {idx : Nat} {m w : Int32} {N K : Nat} (q : x_at xMM j pc (.multianewarray idx 2) 4 y nL ret) (h3 : Cond.classLink y.cls idx ("[" ++ (FieldType.array .int).toString) ∈ x_Ts) (h4 : Cond.arrayOver (.array .int) ∈ x_AO) (h5 : Cond.arrayClass .int ∈ x_Ts) (hm : ¬ m < 0) (hw0 : ¬ w < 0) (hN : m.toNatClampNeg = N) (hK : w.toNatClampNeg = K) (b1 : N * 4 ≤ 536870912) (b2 : K * 4 ≤ 536870912) (kk : hw sk base d X j (pc + 4) L (.ref (base + n) :: st) (n + 1 + N, sl + N + N * K, (fun q => if n + 1 ≤ q ∧ q < n + 1 + N then (100, K) else va_up SH n (106, N) q), (fun q => if n + 1 ≤ q ∧ q < n + 1 + N then (fun _ => 0) else va_up FI n (fun _ => 0) q), (fun q => if n + 1 ≤ q ∧ q < n + 1 + N then (fun _ => 0) else va_up FL n (fun _ => 0) q), (fun q => if n + 1 ≤ q ∧ q < n + 1 + N then (fun _ => none) else va_up FR n (fun i => if i < N then some (n + 1 + i) else none) q)) Φ) : hw sk base d X j pc L (.int w :: .int m :: st) (n, sl, SH, FI, FL, FR) Φ := by
  subst hN; subst hK
  refine hw_st q (fun h hR => ⟨(h ++ [.inl (6, m.toNatClampNeg, .inr (.inr (.inr (.inr (fun i => if i < m.toNatClampNeg then some (base + h.length + 1 + i) else none)))))]) ++ List.replicate m.toNatClampNeg (.inl (0, w.toNatClampNeg, .inl (fun _ => 0))), ⟨rfl, rfl, m, w, st, 6, 0, rfl, rfl, h3, h4, h5, hm, hw0, b1, b2, rfl, by rw [show n = h.length from hR.1.symm]; rfl⟩, ?_⟩) kk
  have hc : h_cell base (106, m.toNatClampNeg) (fun _ => 0) (fun _ => 0) (fun i => if i < m.toNatClampNeg then some (n + 1 + i) else none) = .inl (6, m.toNatClampNeg, .inr (.inr (.inr (.inr (fun i => if i < m.toNatClampNeg then some (base + h.length + 1 + i) else none))))) := by
    refine (h_arr (k := 6) rfl).trans ?_
    show Sum.inl (6, m.toNatClampNeg, Sum.inr (Sum.inr (Sum.inr (Sum.inr (fun i => h_rf base (if i < m.toNatClampNeg then some (n + 1 + i) else none)))))) = _
    congr 7
    funext i
    have e : h.length = n := hR.1
    by_cases hi : i < m.toNatClampNeg
    · rw [if_pos hi, if_pos hi, e]
      show some (base + (n + 1 + i)) = _
      rw [show base + (n + 1 + i) = base + n + 1 + i by omega]
    · rw [if_neg hi, if_neg hi]; rfl
  have e1 := h_push hR hc rfl
  exact h_pushs (sh := (100, w.toNatClampNeg)) (f := fun _ => 0) (g := fun _ => 0) (r := fun _ => none) (h_arr (k := 0) rfl) rfl m.toNatClampNeg _ _ _ _ _ _ _ e1
/-- what a method answers, by its type -/
def h_I (P : Int32 → hS → Prop) : Option Value → hS → Prop := fun v s => ∃ r, v = some (.int r) ∧ P r s
def h_J (P : Int64 → hS → Prop) : Option Value → hS → Prop := fun v s => ∃ r, v = some (.long r) ∧ P r s
def h_V (P : hS → Prop) : Option Value → hS → Prop := fun v s => v = none ∧ P s
def h_A (base : Nat) (P : Option Nat → hS → Prop) : Option Value → hS → Prop := fun v s => ∃ r, v = some (va_rf (h_rf base r)) ∧ P r s
theorem hw_callV {idx j2 nL2 c t z N nb : Nat} {y2 : MethodName} {cc2 : ByteArray} {ret2 : Option FieldType} {T : u_T} {st0 Bs rest : List Value} {Φ2 : Option Value → hS → Prop} (q : x_at xMM j pc (.invokevirtual idx) 3 y nL ret) (w : x_cw y.cls idx y2 nb) (hj2 : 0 < j2) (hM2 : xMM j2 = some (y2, cc2, nL2, ret2)) (wi : Cond.instanceMethod y2 ∈ x_Ts) (wv : Cond.selects y2.cls y2 y2 ∈ x_Ts) (hc : c < n) (hs : SH c = (t, z)) (ht : vwCl[t]? = some (y2.cls, T, N)) (hn : Bs.length = nb) (hst : st0 = Bs.reverse ++ .ref (base + c) :: rest) (hsum : (rest.map fun v => v.category).sum ≤ 8) (hl : (lg_sl (.ref (base + c) :: Bs)).length ≤ nL2) (k1 : hw sk base d none j2 0 (lv_args 0 (.ref (base + c) :: Bs)) [] (n, sl, SH, FI, FL, FR) Φ2) (k2 : ∀ v s', Φ2 v s' → hw sk base (d + 1) X j (pc + 3) L (v.toList ++ rest) s' Φ) : hw sk base (d + 1) X j pc L st0 (n, sl, SH, FI, FL, FR) Φ := by
  subst hn
  have ht2 : t < 100 := Nat.lt_trans (List.getElem?_eq_some_iff.mp ht).1 (by decide)
  exact xw_call q hj2 hM2 (fun h hR => ⟨hsum, w.2.1, w.2.2.1, w.2.2.2.1, rfl, w.1, wi, wv, Or.inl ⟨c, t, h_fs base t (FI c) (FL c) (FR c), T, N, Bs, rfl, hst, by rw [hR.2.2 c hc]; exact congrArg some (h_obj (congrArg Prod.fst hs) ht2), ht, w.2.2.2.2⟩⟩) hl k1 k2
/-- a string is asked -/
theorem hw_callT {idx j2 nL2 k nb : Nat} {y2 : MethodName} {cc2 : ByteArray} {ret2 : Option FieldType} {st0 Bs rest : List Value} {Φ2 : Option Value → hS → Prop} {s : hS} (q : x_at xMM j pc (.invokevirtual idx) 3 y nL ret) (w : x_cw y.cls idx y2 nb) (hj2 : 0 < j2) (hM2 : xMM j2 = some (y2, cc2, nL2, ret2)) (wi : Cond.instanceMethod y2 ∈ x_Ts) (wv : Cond.selects y2.cls y2 y2 ∈ x_Ts) (hk : k < 11) (hcs : y2.cls = "java/lang/String") (hn : Bs.length = nb) (hst : st0 = Bs.reverse ++ .ref (sk.1 k) :: rest) (hsum : (rest.map fun v => v.category).sum ≤ 8) (hl : (lg_sl (.ref (sk.1 k) :: Bs)).length ≤ nL2) (k1 : hw sk base d none j2 0 (lv_args 0 (.ref (sk.1 k) :: Bs)) [] s Φ2) (k2 : ∀ v s', Φ2 v s' → hw sk base (d + 1) X j (pc + 3) L (v.toList ++ rest) s' Φ) : hw sk base (d + 1) X j pc L st0 s Φ := by
  subst hn
  exact xw_call q hj2 hM2 (fun h hR => ⟨hsum, w.2.1, w.2.2.1, w.2.2.2.1, rfl, w.1, wi, wv, Or.inr ⟨k, Bs, hk, hcs, rfl, hst, w.2.2.2.2⟩⟩) hl k1 k2
theorem hw_ldcS {idx k : Nat} {s : hS} (q : x_at xMM j pc (.ldc idx) 2 y nL ret) (hk : k < 11) (ho : y.cls = "LocationDesk$Reader") (hi : idx = x_strI.getD k 0) (kk : hw sk base d X j (pc + 2) L (.ref (sk.1 k) :: st) s Φ) : hw sk base d X j pc L st s Φ :=
  xw_su q (fun _ => ⟨rfl, k, hk, ho, hi, rfl⟩) kk
theorem hw_sval {idx k : Nat} {s : hS} (q : x_at xMM j pc (.getfield idx) 3 y nL ret) (hk : k < 11) (hw0 : Cond.fieldLink y.cls idx "java/lang/String" "value" "[B" ∈ x_Ts) (kk : hw sk base d X j (pc + 3) L (.ref (sk.2.1 k) :: st) s Φ) : hw sk base d X j pc L (.ref (sk.1 k) :: st) s Φ :=
  xw_su q (fun _ => ⟨rfl, k, st, hk, rfl, Or.inl ⟨hw0, rfl⟩⟩) kk
theorem hw_scod {idx k : Nat} {s : hS} (q : x_at xMM j pc (.getfield idx) 3 y nL ret) (hk : k < 11) (hw0 : Cond.fieldLink y.cls idx "java/lang/String" "coder" "B" ∈ x_Ts) (kk : hw sk base d X j (pc + 3) L (.int 0 :: st) s Φ) : hw sk base d X j pc L (.ref (sk.1 k) :: st) s Φ :=
  xw_su q (fun _ => ⟨rfl, k, st, hk, rfl, Or.inr ⟨hw0, rfl⟩⟩) kk
theorem hw_strl {k : Nat} {v : Int32} {s : hS} (q : x_at xMM j pc .arraylength 1 y nL ret) (hk : k < 11) (hv : Int32.ofNat (x_strN.getD k 0) = v) (kk : hw sk base d X j (pc + 1) L (.int v :: st) s Φ) : hw sk base d X j pc L (.ref (sk.2.1 k) :: st) s Φ := by
  subst hv
  exact xw_su q (fun _ => ⟨rfl, k, st, hk, rfl, rfl⟩) kk
theorem hw_sbld {k : Nat} {x v : Int32} {s : hS} (q : x_at xMM j pc .baload 1 y nL ret) (hk : k < 11) (hin : vp_in x (x_strN.getD k 0)) (hv : (x_strB.getD k []).getD x.toNatClampNeg 0 = v) (kk : hw sk base d X j (pc + 1) L (.int v :: st) s Φ) : hw sk base d X j pc L (.int x :: .ref (sk.2.1 k) :: st) s Φ := by
  subst hv
  exact xw_su q (fun _ => ⟨rfl, k, x, st, hk, hin, rfl, rfl⟩) kk
theorem hw_sone {idx : Nat} {s : hS} (q : x_at xMM j pc (.getstatic idx) 3 y nL ret) (hw0 : Cond.fieldLink y.cls idx "java/lang/String" "COMPACT_STRINGS" "Z" ∈ x_Ts) (kk : hw sk base d X j (pc + 3) L (.int 1 :: st) s Φ) : hw sk base d X j pc L st s Φ :=
  xw_su q (fun _ => ⟨rfl, Or.inl ⟨hw0, rfl⟩⟩) kk
theorem hw_sfmt {idx : Nat} {s : hS} (q : x_at xMM j pc (.getstatic idx) 3 y nL ret) (hw0 : Cond.fieldLink y.cls idx "jdk/internal/util/Preconditions" "SIOOBE_FORMATTER" "Ljava/util/function/BiFunction;" ∈ x_Ts) (kk : hw sk base d X j (pc + 3) L (va_rf sk.2.2 :: st) s Φ) : hw sk base d X j pc L st s Φ :=
  xw_su q (fun _ => ⟨rfl, Or.inr ⟨hw0, rfl⟩⟩) kk
theorem hw_i2b {x v : Int32} {s : hS} (q : x_at xMM j pc .i2b 1 y nL ret) (hv : x.toInt8.toInt32 = v) (kk : hw sk base d X j (pc + 1) L (.int v :: st) s Φ) : hw sk base d X j pc L (.int x :: st) s Φ := by
  subst hv
  exact xw_su q (fun _ => ⟨rfl, x, st, rfl, rfl⟩) kk
theorem hw_callS {idx j2 nL2 nb : Nat} {y2 : MethodName} {cc2 : ByteArray} {ret2 : Option FieldType} {st0 As rest : List Value} {Φ2 : Option Value → hS → Prop} {s : hS} (q : x_at xMM j pc (.invokestatic idx) 3 y nL ret) (w : x_cw y.cls idx y2 nb) (hj2 : 0 < j2) (hM2 : xMM j2 = some (y2, cc2, nL2, ret2)) (wt : Cond.static y2 ∈ x_Ts) (hn : As.length = nb) (hst : st0 = As.reverse ++ rest) (hsum : (rest.map fun v => v.category).sum ≤ 8) (hl : (lg_sl As).length ≤ nL2) (k1 : hw sk base d none j2 0 (lv_args 0 As) [] s Φ2) (k2 : ∀ v s', Φ2 v s' → hw sk base (d + 1) X j (pc + 3) L (v.toList ++ rest) s' Φ) : hw sk base (d + 1) X j pc L st0 s Φ := by
  subst hn
  exact xw_call q hj2 hM2 (fun h hR => ⟨hsum, w.2.1, w.2.2.1, w.2.2.2.1, rfl, w.1, hst, w.2.2.2.2, wt⟩) hl k1 k2
theorem hw_callN {idx j2 nL2 nb a : Nat} {y2 : MethodName} {cc2 : ByteArray} {ret2 : Option FieldType} {st0 Bs rest : List Value} {Φ2 : Option Value → hS → Prop} {s : hS} (q : x_at xMM j pc (.invokespecial idx) 3 y nL ret) (w : x_cw y.cls idx y2 nb) (hj2 : 0 < j2) (hM2 : xMM j2 = some (y2, cc2, nL2, ret2)) (wi : Cond.instanceMethod y2 ∈ x_Ts) (hnm : y2.name = "<init>") (hn : Bs.length = nb) (hst : st0 = Bs.reverse ++ .ref a :: rest) (hsum : (rest.map fun v => v.category).sum ≤ 8) (hl : (lg_sl (.ref a :: Bs)).length ≤ nL2) (k1 : hw sk base d none j2 0 (lv_args 0 (.ref a :: Bs)) [] s Φ2) (k2 : ∀ v s', Φ2 v s' → hw sk base (d + 1) X j (pc + 3) L (v.toList ++ rest) s' Φ) : hw sk base (d + 1) X j pc L st0 s Φ := by
  subst hn
  exact xw_call q hj2 hM2 (fun h hR => ⟨hsum, w.2.1, w.2.2.1, w.2.2.2.1, rfl, w.1, hnm, a, Bs, rfl, hst, w.2.2.2.2, wi⟩) hl k1 k2
theorem hw_nat {i : Jvm.ClassFile.Instr} {s s' : hS} {pc' : Nat} {L' : xL} {st' : List Value} (q : x_at xMM j pc i len y nL ret) (hi : ∀ h, h_Rel base s h → ∃ h2, x_nat x_kn x_Ts x_AO base y.cls i len (pc, L, st, h) (pc', L', st', h2) ∧ h_Rel base s' h2) (k : hw sk base (d + 1) X j pc' L' st' s' Φ) : hw sk base (d + 1) X j pc L st s Φ := by
  intro h hR
  obtain ⟨h2, g1, g2⟩ := hi h hR
  obtain ⟨r, h', g3, k2⟩ := k h2 g2
  exact ⟨r, h', x_G.nat q g1 g3, k2⟩
theorem hw_obj {idx a : Nat} {s : hS} (q : x_at xMM j pc (.invokespecial idx) 3 y nL ret) (hl : Cond.methodLink y.cls idx Jvm.Lib.objectInit ∈ x_Ts) (hi : Cond.instanceMethod Jvm.Lib.objectInit ∈ x_Ts) (hc : Cond.code Jvm.Lib.objectInit ⟨#[0xb1]⟩ 1 none ∈ x_Ts) (hsum : (st.map fun v => v.category).sum ≤ 8) (k : hw sk base (d + 1) X j (pc + 3) L st s Φ) : hw sk base (d + 1) X j pc L (.ref a :: st) s Φ :=
  hw_nat q (fun h hR => ⟨h, ⟨rfl, a, st, rfl, hsum, hl, hi, hc, rfl⟩, hR⟩) k
theorem hw_cpy {idx c0 c1 z0 z1 : Nat} {sp dp m : Int32} (q : x_at xMM j pc (.invokestatic idx) 3 y nL ret) (w1 : Cond.methodLink y.cls idx arraycopyName ∈ x_Ts) (w2 : Cond.native arraycopyName ∈ x_Ts) (w3 : Cond.static arraycopyName ∈ x_Ts) (w4 : Cond.initialized "java/lang/System" ∈ x_Ts) (hc0 : c0 < n) (hs0 : SH c0 = (100, z0)) (hc1 : c1 < n) (hs1 : SH c1 = (100, z1)) (h1 : ¬ sp < 0) (h2 : ¬ dp < 0) (h3 : ¬ m < 0) (h4 : sp.toNatClampNeg + m.toNatClampNeg ≤ z0) (h5 : dp.toNatClampNeg + m.toNatClampNeg ≤ z1) (hsum : (st.map fun v => v.category).sum ≤ 8) (kk : hw sk base (d + 1) X j (pc + 3) L st (n, sl, SH, va_up FI c1 (va_cpy (FI c0) (FI c1) sp.toNatClampNeg dp.toNatClampNeg m.toNatClampNeg), FL, FR) Φ) : hw sk base (d + 1) X j pc L (.int m :: .int dp :: .ref (base + c1) :: .int sp :: .ref (base + c0) :: st) (n, sl, SH, FI, FL, FR) Φ := by
  refine hw_nat q (fun h hR => ⟨h.set c1 (.inl (0, z1, .inl (va_cpy (FI c0) (FI c1) sp.toNatClampNeg dp.toNatClampNeg m.toNatClampNeg))), ⟨rfl, w1, w2, w3, w4, c0, c1, 0, z0, z1, FI c0, FI c1, sp, dp, m, st, rfl, by rw [hR.2.2 c0 hc0]; exact congrArg some (h_arr hs0), by rw [hR.2.2 c1 hc1]; exact congrArg some (h_arr hs1), h1, h2, h3, h4, h5, hsum, rfl, rfl⟩, ?_⟩) kk
  have e := h_arr_set (k := 0) (f' := va_cpy (FI c0) (FI c1) sp.toNatClampNeg dp.toNatClampNeg m.toNatClampNeg) (g' := FL c1) (r' := FR c1) hR hc1 hs1
  rw [h_same FL, h_same FR] at e
  exact e
theorem hw_cast {idx c z : Nat} (q : x_at xMM j pc (.checkcast idx) 3 y nL ret) (hl : Cond.classLink y.cls idx "[I" ∈ x_Ts) (hc : c < n) (hs : SH c = (100, z)) (kk : hw sk base d X j (pc + 3) L (.ref (base + c) :: st) (n, sl, SH, FI, FL, FR) Φ) : hw sk base d X j pc L (.ref (base + c) :: st) (n, sl, SH, FI, FL, FR) Φ :=
  hw_st q (fun h hR => ⟨h, ⟨rfl, c, 0, (z, h_av base 0 (FI c) (FL c) (FR c)), st, rfl, hl, rfl, by rw [hR.2.2 c hc]; exact congrArg some (h_arr (k := 0) hs), rfl⟩, hR⟩) kk
/-- an int[] once more -/
theorem hw_clone {idx c z : Nat} (q : x_at xMM j pc (.invokevirtual idx) 3 y nL ret) (w1 : Cond.methodLink y.cls idx ⟨"[I", "clone", "()Ljava/lang/Object;"⟩ ∈ x_Ts) (w2 : Cond.sameMethod "[I" "java/lang/Object" "clone" "()Ljava/lang/Object;" ∈ x_Ts) (w3 : Cond.native ⟨"java/lang/Object", "clone", "()Ljava/lang/Object;"⟩ ∈ x_Ts) (w4 : Cond.instanceMethod ⟨"java/lang/Object", "clone", "()Ljava/lang/Object;"⟩ ∈ x_Ts) (w5 : Cond.selects "[I" ⟨"[I", "clone", "()Ljava/lang/Object;"⟩ ⟨"java/lang/Object", "clone", "()Ljava/lang/Object;"⟩ ∈ x_Ts) (w6 : Cond.castable "[I" "java/lang/Cloneable" ∈ x_AO) (hc : c < n) (hs : SH c = (100, z)) (hsum : (st.map fun v => v.category).sum ≤ 8) (kk : hw sk base (d + 1) X j (pc + 3) L (.ref (base + n) :: st) (n + 1, sl + z, va_up SH n (100, z), va_up FI n (FI c), va_up FL n (fun _ => 0), va_up FR n (fun _ => none)) Φ) : hw sk base (d + 1) X j pc L (.ref (base + c) :: st) (n, sl, SH, FI, FL, FR) Φ := by
  refine hw_nat q (fun h hR => ⟨h ++ [.inl (0, z, .inl (FI c))], ⟨rfl, w1, w2, w3, w4, w5, w6, c, 0, z, FI c, st, rfl, by rw [hR.2.2 c hc]; exact congrArg some (h_arr (k := 0) hs), hsum, rfl, by rw [hR.1]; rfl⟩, ?_⟩) kk
  exact h_push hR (h_arr (k := 0) rfl) rfl
end HW
