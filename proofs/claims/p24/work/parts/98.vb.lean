/-! NEW ARRAYS, read backwards (behind newz.py: newarray's cell is named). -/
section PBN
variable {ρ : Type} {inj : ρ → Option Value} {sk : xK} {base N d : Nat} {j : Nat} {y : MethodName} {nL : Nat} {ret : Option FieldType} {len pc : Nat} {L : xL} {st : List Value} {s : hS} {Ψ : ρ → hS → Prop} {n sl : Nat} {SH : Nat → Nat × Nat} {FI : Nat → Nat → Int32} {FL : Nat → Nat → Int64} {FR : Nat → Nat → Option Nat} {A : Unit → Nat → Nat → (Nat → Nat × Nat) → (Nat → Nat → Int32) → (Nat → Nat → Int64) → (Nat → Nat → Option Nat) → ρ → hS → Prop}
theorem pw_newa {aty : ArrayType} {k : Nat} {z : Int32} {zz : Nat} (hok : pk n SH FR) (q : x_at xMM j pc (.newarray aty) 2 y nL ret) (hk : x_kn[k]? = some (Jvm.Op.newarray.typeOf aty)) (hz : z.toInt.toNat = zz) (kk : ∀ v n1 sl1 SH1 FI1 FL1 FR1, pk n1 SH1 FR1 → P_na k zz n sl SH FI FL FR v (n1, sl1, SH1, FI1, FL1, FR1) → pw inj sk base N d none j (pc + 2) L (.ref (base + n) :: st) (n1, sl1, SH1, FI1, FL1, FR1) (A v n1 sl1 SH1 FI1 FL1 FR1)) : pw inj sk base N d none j pc L (.int z :: st) (n, sl, SH, FI, FL, FR) (P_bi (P_na k zz n sl SH FI FL FR) A) :=
  pw_st q rfl (fun h b hR hb m hm r h' hg => by
    obtain ⟨-, z2, r2, k2, zv, hk2, -, -, -, ⟨-, hzv⟩, e, rfl⟩ := hb
    cases e
    subst hz
    have hkk : k2 = k := by
      have nd : ∀ a b : Fin 7, x_kn[a.val]? = x_kn[b.val]? → a = b := by decide
      have h1 := (List.getElem?_eq_some_iff.mp hk2).1
      have h2 := (List.getElem?_eq_some_iff.mp hk).1
      have l7 : x_kn.length = 7 := by decide
      have := nd ⟨k2, by omega⟩ ⟨k, by omega⟩ (by dsimp only; rw [hk2, hk])
      exact congrArg Fin.val this
    subst hkk
    have hav : h_av base k2 (fun _ => 0) (fun _ => 0) (fun _ => none) = zv := by
      rw [hzv]
      have h2 := (List.getElem?_eq_some_iff.mp hk).1
      have l7 : x_kn.length = 7 := by decide
      have h3 : k2 = 0 ∨ k2 = 1 ∨ k2 = 2 ∨ k2 = 3 ∨ k2 = 4 ∨ k2 = 5 ∨ k2 = 6 := by omega
      rcases h3 with rfl | rfl | rfl | rfl | rfl | rfl | rfl
      · have e := Option.some.inj hk; rw [← e]; rfl
      · have e := Option.some.inj hk; rw [← e]; rfl
      · have e := Option.some.inj hk; rw [← e]; rfl
      · exfalso; cases aty <;> exact absurd hk (by decide)
      · exfalso; cases aty <;> exact absurd hk (by decide)
      · exfalso; cases aty <;> exact absurd hk (by decide)
      · exfalso; cases aty <;> exact absurd hk (by decide)
    have hR2 := h_push (sh := (100 + k2, z.toNatClampNeg)) (f := fun _ => 0) (g := fun _ => 0) (r := fun _ => none) (c := .inl (k2, z.toNatClampNeg, zv)) (z := z.toNatClampNeg) hR ((h_arr rfl).trans (by rw [hav])) rfl
    have hlen : h.length = n := hR.1
    have hg2 : x_go sk vwCl x_kn x_Ts x_AO xMM base m d none j (pc + 2, L, .ref (base + n) :: st, h ++ [.inl (k2, z.toNatClampNeg, zv)]) r h' := by rw [← hlen]; exact hg
    obtain ⟨x, s', e4, g1, hp0, g2⟩ := kk () _ _ _ _ _ _ (pk_n hok (by decide +kernel)) rfl m (by omega) _ r h' hR2 hg2
    exact ⟨x, s', e4, g1, hp0, (), _, _, _, _, _, _, rfl, g2⟩)
end PBN
