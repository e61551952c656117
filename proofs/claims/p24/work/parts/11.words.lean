/-! words of the tables, by their places -/
def x_Ts : List Cond := lw_tbl.filter goodWord
theorem x_Ts_good : GoodIn x_Ts x_Ts := fun w h => ⟨h, good_of_word (List.mem_filter.mp h).2⟩
def x_isN : Cond → Bool
  | .fieldLinkNest .. => true
  | .methodLinkNest .. => true
  | .castable .. => true
  | .arrayOver (.object _) => true
  | .arrayOver (.array _) => true
  | _ => false
def x_AO : List Cond := lw_tbl.filter x_isN
theorem x_AO_mv : ∀ w ∈ x_AO, x_mv w := fun w h => by
  have h2 := (List.mem_filter.mp h).2
  cases w with
  | fieldLinkNest a i b n d h => exact x_mv_fld
  | methodLinkNest a i x h => exact x_mv_met
  | castable a b => exact ⟨fun _ _ e hZ => va_Nw.same rfl e hZ, fun _ _ hW hZ => va_Nw.warmC hW hZ⟩
  | arrayOver t =>
    cases t with
    | object C => exact x_mv_arr C
    | array t => exact x_mv_arrA t
    | _ => exact absurd h2 (by simp [x_isN])
  | _ => exact absurd h2 (by simp [x_isN])
theorem x_Ts_in {w : Cond} (h : w ∈ lw_tbl) (hg : goodWord w = true) : w ∈ x_Ts := List.mem_filter.mpr ⟨h, hg⟩
theorem x_pn_of {y : MethodName} {n : Nat} (h : (parseMethodDescriptor y.desc).map (fun d => d.parameters.length) = some n) : x_pn y n := h
theorem tin_1 {i : Nat} {w : Cond} (h : tables_1_1[i]? = some w) (hg : goodWord w = true) : w ∈ x_Ts := x_Ts_in (List.mem_append_right _ (List.mem_append_left _ (List.mem_of_getElem? h))) hg
theorem nin_1 {i : Nat} {w : Cond} (h : tables_1_1[i]? = some w) (hg : x_isN w = true) : w ∈ x_AO := List.mem_filter.mpr ⟨List.mem_append_right _ (List.mem_append_left _ (List.mem_of_getElem? h)), hg⟩
theorem tin_2 {i : Nat} {w : Cond} (h : tables_1_2[i]? = some w) (hg : goodWord w = true) : w ∈ x_Ts := x_Ts_in (List.mem_append_right _ (List.mem_append_right _ (List.mem_append_left _ (List.mem_of_getElem? h)))) hg
theorem nin_2 {i : Nat} {w : Cond} (h : tables_1_2[i]? = some w) (hg : x_isN w = true) : w ∈ x_AO := List.mem_filter.mpr ⟨List.mem_append_right _ (List.mem_append_right _ (List.mem_append_left _ (List.mem_of_getElem? h))), hg⟩
theorem tin_3 {i : Nat} {w : Cond} (h : tables_1_3[i]? = some w) (hg : goodWord w = true) : w ∈ x_Ts := x_Ts_in (List.mem_append_right _ (List.mem_append_right _ (List.mem_append_right _ (List.mem_append_left _ (List.mem_of_getElem? h))))) hg
theorem nin_3 {i : Nat} {w : Cond} (h : tables_1_3[i]? = some w) (hg : x_isN w = true) : w ∈ x_AO := List.mem_filter.mpr ⟨List.mem_append_right _ (List.mem_append_right _ (List.mem_append_right _ (List.mem_append_left _ (List.mem_of_getElem? h)))), hg⟩
theorem tin_4 {i : Nat} {w : Cond} (h : tables_1_4[i]? = some w) (hg : goodWord w = true) : w ∈ x_Ts := x_Ts_in (List.mem_append_right _ (List.mem_append_right _ (List.mem_append_right _ (List.mem_append_right _ (List.mem_append_left _ (List.mem_of_getElem? h)))))) hg
theorem nin_4 {i : Nat} {w : Cond} (h : tables_1_4[i]? = some w) (hg : x_isN w = true) : w ∈ x_AO := List.mem_filter.mpr ⟨List.mem_append_right _ (List.mem_append_right _ (List.mem_append_right _ (List.mem_append_right _ (List.mem_append_left _ (List.mem_of_getElem? h))))), hg⟩
theorem tin_5 {i : Nat} {w : Cond} (h : tables_1_5[i]? = some w) (hg : goodWord w = true) : w ∈ x_Ts := x_Ts_in (List.mem_append_right _ (List.mem_append_right _ (List.mem_append_right _ (List.mem_append_right _ (List.mem_append_right _ (List.mem_append_left _ (List.mem_of_getElem? h))))))) hg
theorem nin_5 {i : Nat} {w : Cond} (h : tables_1_5[i]? = some w) (hg : x_isN w = true) : w ∈ x_AO := List.mem_filter.mpr ⟨List.mem_append_right _ (List.mem_append_right _ (List.mem_append_right _ (List.mem_append_right _ (List.mem_append_right _ (List.mem_append_left _ (List.mem_of_getElem? h)))))), hg⟩
theorem tin_6 {i : Nat} {w : Cond} (h : tables_1_6[i]? = some w) (hg : goodWord w = true) : w ∈ x_Ts := x_Ts_in (List.mem_append_right _ (List.mem_append_right _ (List.mem_append_right _ (List.mem_append_right _ (List.mem_append_right _ (List.mem_append_right _ (List.mem_append_left _ (List.mem_of_getElem? h)))))))) hg
theorem nin_6 {i : Nat} {w : Cond} (h : tables_1_6[i]? = some w) (hg : x_isN w = true) : w ∈ x_AO := List.mem_filter.mpr ⟨List.mem_append_right _ (List.mem_append_right _ (List.mem_append_right _ (List.mem_append_right _ (List.mem_append_right _ (List.mem_append_right _ (List.mem_append_left _ (List.mem_of_getElem? h))))))), hg⟩
theorem tin_7 {i : Nat} {w : Cond} (h : tables_1_7[i]? = some w) (hg : goodWord w = true) : w ∈ x_Ts := x_Ts_in (List.mem_append_right _ (List.mem_append_right _ (List.mem_append_right _ (List.mem_append_right _ (List.mem_append_right _ (List.mem_append_right _ (List.mem_append_right _ (List.mem_append_left _ (List.mem_of_getElem? h))))))))) hg
theorem nin_7 {i : Nat} {w : Cond} (h : tables_1_7[i]? = some w) (hg : x_isN w = true) : w ∈ x_AO := List.mem_filter.mpr ⟨List.mem_append_right _ (List.mem_append_right _ (List.mem_append_right _ (List.mem_append_right _ (List.mem_append_right _ (List.mem_append_right _ (List.mem_append_right _ (List.mem_append_left _ (List.mem_of_getElem? h)))))))), hg⟩
theorem tin_8 {i : Nat} {w : Cond} (h : tables_1_8[i]? = some w) (hg : goodWord w = true) : w ∈ x_Ts := x_Ts_in (List.mem_append_right _ (List.mem_append_right _ (List.mem_append_right _ (List.mem_append_right _ (List.mem_append_right _ (List.mem_append_right _ (List.mem_append_right _ (List.mem_append_right _ (List.mem_append_left _ (List.mem_of_getElem? h)))))))))) hg
theorem nin_8 {i : Nat} {w : Cond} (h : tables_1_8[i]? = some w) (hg : x_isN w = true) : w ∈ x_AO := List.mem_filter.mpr ⟨List.mem_append_right _ (List.mem_append_right _ (List.mem_append_right _ (List.mem_append_right _ (List.mem_append_right _ (List.mem_append_right _ (List.mem_append_right _ (List.mem_append_right _ (List.mem_append_left _ (List.mem_of_getElem? h))))))))), hg⟩
theorem tin_9 {i : Nat} {w : Cond} (h : tables_1_9[i]? = some w) (hg : goodWord w = true) : w ∈ x_Ts := x_Ts_in (List.mem_append_right _ (List.mem_append_right _ (List.mem_append_right _ (List.mem_append_right _ (List.mem_append_right _ (List.mem_append_right _ (List.mem_append_right _ (List.mem_append_right _ (List.mem_append_right _ (List.mem_of_getElem? h)))))))))) hg
theorem nin_9 {i : Nat} {w : Cond} (h : tables_1_9[i]? = some w) (hg : x_isN w = true) : w ∈ x_AO := List.mem_filter.mpr ⟨List.mem_append_right _ (List.mem_append_right _ (List.mem_append_right _ (List.mem_append_right _ (List.mem_append_right _ (List.mem_append_right _ (List.mem_append_right _ (List.mem_append_right _ (List.mem_append_right _ (List.mem_of_getElem? h))))))))), hg⟩
theorem sin_1 {i n : Nat} {y : MethodName} (h : lw_privs_1[i]? = some (y, n)) (hg : goodWord (Cond.selects y.cls y y) = true) : Cond.selects y.cls y y ∈ x_Ts := x_Ts_in (List.mem_append_left _ (List.mem_map.mpr ⟨(y, n), (List.mem_append_left _ (List.mem_of_getElem? h)), rfl⟩)) hg
theorem sin_2 {i n : Nat} {y : MethodName} (h : lw_privs_2[i]? = some (y, n)) (hg : goodWord (Cond.selects y.cls y y) = true) : Cond.selects y.cls y y ∈ x_Ts := x_Ts_in (List.mem_append_left _ (List.mem_map.mpr ⟨(y, n), (List.mem_append_right _ (List.mem_append_left _ (List.mem_of_getElem? h))), rfl⟩)) hg
theorem sin_3 {i n : Nat} {y : MethodName} (h : lw_privs_3[i]? = some (y, n)) (hg : goodWord (Cond.selects y.cls y y) = true) : Cond.selects y.cls y y ∈ x_Ts := x_Ts_in (List.mem_append_left _ (List.mem_map.mpr ⟨(y, n), (List.mem_append_right _ (List.mem_append_right _ (List.mem_append_left _ (List.mem_of_getElem? h)))), rfl⟩)) hg
theorem sin_4 {i n : Nat} {y : MethodName} (h : lw_privs_4[i]? = some (y, n)) (hg : goodWord (Cond.selects y.cls y y) = true) : Cond.selects y.cls y y ∈ x_Ts := x_Ts_in (List.mem_append_left _ (List.mem_map.mpr ⟨(y, n), (List.mem_append_right _ (List.mem_append_right _ (List.mem_append_right _ (List.mem_append_left _ (List.mem_of_getElem? h))))), rfl⟩)) hg
theorem sin_5 {i n : Nat} {y : MethodName} (h : lw_privs_5[i]? = some (y, n)) (hg : goodWord (Cond.selects y.cls y y) = true) : Cond.selects y.cls y y ∈ x_Ts := x_Ts_in (List.mem_append_left _ (List.mem_map.mpr ⟨(y, n), (List.mem_append_right _ (List.mem_append_right _ (List.mem_append_right _ (List.mem_append_right _ (List.mem_append_left _ (List.mem_of_getElem? h)))))), rfl⟩)) hg
theorem sin_6 {i n : Nat} {y : MethodName} (h : lw_privs_6[i]? = some (y, n)) (hg : goodWord (Cond.selects y.cls y y) = true) : Cond.selects y.cls y y ∈ x_Ts := x_Ts_in (List.mem_append_left _ (List.mem_map.mpr ⟨(y, n), (List.mem_append_right _ (List.mem_append_right _ (List.mem_append_right _ (List.mem_append_right _ (List.mem_append_right _ (List.mem_append_left _ (List.mem_of_getElem? h))))))), rfl⟩)) hg
theorem sin_7 {i n : Nat} {y : MethodName} (h : lw_privs_7[i]? = some (y, n)) (hg : goodWord (Cond.selects y.cls y y) = true) : Cond.selects y.cls y y ∈ x_Ts := x_Ts_in (List.mem_append_left _ (List.mem_map.mpr ⟨(y, n), (List.mem_append_right _ (List.mem_append_right _ (List.mem_append_right _ (List.mem_append_right _ (List.mem_append_right _ (List.mem_append_right _ (List.mem_append_left _ (List.mem_of_getElem? h)))))))), rfl⟩)) hg
theorem sin_8 {i n : Nat} {y : MethodName} (h : lw_privs_8[i]? = some (y, n)) (hg : goodWord (Cond.selects y.cls y y) = true) : Cond.selects y.cls y y ∈ x_Ts := x_Ts_in (List.mem_append_left _ (List.mem_map.mpr ⟨(y, n), (List.mem_append_right _ (List.mem_append_right _ (List.mem_append_right _ (List.mem_append_right _ (List.mem_append_right _ (List.mem_append_right _ (List.mem_append_right _ (List.mem_append_left _ (List.mem_of_getElem? h))))))))), rfl⟩)) hg
theorem sin_9 {i n : Nat} {y : MethodName} (h : lw_privs_9[i]? = some (y, n)) (hg : goodWord (Cond.selects y.cls y y) = true) : Cond.selects y.cls y y ∈ x_Ts := x_Ts_in (List.mem_append_left _ (List.mem_map.mpr ⟨(y, n), (List.mem_append_right _ (List.mem_append_right _ (List.mem_append_right _ (List.mem_append_right _ (List.mem_append_right _ (List.mem_append_right _ (List.mem_append_right _ (List.mem_append_right _ (List.mem_append_left _ (List.mem_of_getElem? h)))))))))), rfl⟩)) hg
theorem sin_10 {i n : Nat} {y : MethodName} (h : lw_privs_10[i]? = some (y, n)) (hg : goodWord (Cond.selects y.cls y y) = true) : Cond.selects y.cls y y ∈ x_Ts := x_Ts_in (List.mem_append_left _ (List.mem_map.mpr ⟨(y, n), (List.mem_append_right _ (List.mem_append_right _ (List.mem_append_right _ (List.mem_append_right _ (List.mem_append_right _ (List.mem_append_right _ (List.mem_append_right _ (List.mem_append_right _ (List.mem_append_right _ (List.mem_append_left _ (List.mem_of_getElem? h))))))))))), rfl⟩)) hg
theorem sin_11 {i n : Nat} {y : MethodName} (h : lw_privs_11[i]? = some (y, n)) (hg : goodWord (Cond.selects y.cls y y) = true) : Cond.selects y.cls y y ∈ x_Ts := x_Ts_in (List.mem_append_left _ (List.mem_map.mpr ⟨(y, n), (List.mem_append_right _ (List.mem_append_right _ (List.mem_append_right _ (List.mem_append_right _ (List.mem_append_right _ (List.mem_append_right _ (List.mem_append_right _ (List.mem_append_right _ (List.mem_append_right _ (List.mem_append_right _ (List.mem_append_left _ (List.mem_of_getElem? h)))))))))))), rfl⟩)) hg
theorem sin_12 {i n : Nat} {y : MethodName} (h : lw_privs_12[i]? = some (y, n)) (hg : goodWord (Cond.selects y.cls y y) = true) : Cond.selects y.cls y y ∈ x_Ts := x_Ts_in (List.mem_append_left _ (List.mem_map.mpr ⟨(y, n), (List.mem_append_right _ (List.mem_append_right _ (List.mem_append_right _ (List.mem_append_right _ (List.mem_append_right _ (List.mem_append_right _ (List.mem_append_right _ (List.mem_append_right _ (List.mem_append_right _ (List.mem_append_right _ (List.mem_append_right _ (List.mem_of_getElem? h)))))))))))), rfl⟩)) hg
def x_cw (own : String) (idx : Nat) (y : MethodName) (n : Nat) : Prop := x_lk x_Ts x_AO own idx y ∧ Cond.initialized y.cls ∈ x_Ts ∧ y.cls ≠ "java/lang/invoke/MethodHandle" ∧ y.cls ≠ "java/lang/invoke/VarHandle" ∧ x_pn y n
theorem wc_RL_9 : x_cw RL 9 yX11_init 0 := ⟨Or.inl (tin_1 (i := 24) rfl rfl), tin_1 (i := 1) rfl rfl, by decide +kernel, by decide +kernel, x_pn_of (by decide +kernel)⟩
theorem wc_RX11_9 : x_cw RX11 9 yX8_init 0 := ⟨Or.inr ⟨_, nin_1 (i := 32) rfl rfl⟩, tin_1 (i := 2) rfl rfl, by decide +kernel, by decide +kernel, x_pn_of (by decide +kernel)⟩
theorem wc_RX8_17 : x_cw RX8 17 yX5_init 0 := ⟨Or.inr ⟨_, nin_1 (i := 39) rfl rfl⟩, tin_1 (i := 3) rfl rfl, by decide +kernel, by decide +kernel, x_pn_of (by decide +kernel)⟩
theorem wf_RX5_9 : x_fl vwCl x_Ts x_AO RX5 9 5 0 RX5 TX5 6 := ⟨rfl, by decide, Or.inl (tin_1 (i := 43) rfl rfl)⟩
theorem wf_RX1_50 : x_fl vwCl x_Ts x_AO RX1 50 5 0 RX5 TX5 6 := ⟨rfl, by decide, Or.inr ⟨_, nin_1 (i := 44) rfl rfl⟩⟩
theorem wf_RX9_127 : x_fl vwCl x_Ts x_AO RX9 127 5 0 RX5 TX5 6 := ⟨rfl, by decide, Or.inr ⟨_, nin_1 (i := 45) rfl rfl⟩⟩
theorem wf_RX11_192 : x_fl vwCl x_Ts x_AO RX11 192 5 0 RX5 TX5 6 := ⟨rfl, by decide, Or.inr ⟨_, nin_1 (i := 46) rfl rfl⟩⟩
theorem wf_RX5_15 : x_fl vwCl x_Ts x_AO RX5 15 5 1 RX5 TX5 6 := ⟨rfl, by decide, Or.inl (tin_1 (i := 47) rfl rfl)⟩
theorem wf_RX1_55 : x_fl vwCl x_Ts x_AO RX1 55 5 1 RX5 TX5 6 := ⟨rfl, by decide, Or.inr ⟨_, nin_1 (i := 48) rfl rfl⟩⟩
theorem wf_RX11_197 : x_fl vwCl x_Ts x_AO RX11 197 5 1 RX5 TX5 6 := ⟨rfl, by decide, Or.inr ⟨_, nin_1 (i := 49) rfl rfl⟩⟩
theorem wf_RX9_259 : x_fl vwCl x_Ts x_AO RX9 259 5 1 RX5 TX5 6 := ⟨rfl, by decide, Or.inr ⟨_, nin_1 (i := 50) rfl rfl⟩⟩
theorem wf_RX5_19 : x_fl vwCl x_Ts x_AO RX5 19 5 2 RX5 TX5 6 := ⟨rfl, by decide, Or.inl (tin_1 (i := 51) rfl rfl)⟩
theorem wf_RX8_41 : x_fl vwCl x_Ts x_AO RX8 41 5 2 RX5 TX5 6 := ⟨rfl, by decide, Or.inr ⟨_, nin_1 (i := 52) rfl rfl⟩⟩
theorem wf_RX11_199 : x_fl vwCl x_Ts x_AO RX11 199 5 2 RX5 TX5 6 := ⟨rfl, by decide, Or.inr ⟨_, nin_1 (i := 53) rfl rfl⟩⟩
theorem wf_RX5_22 : x_fl vwCl x_Ts x_AO RX5 22 5 3 RX5 TX5 6 := ⟨rfl, by decide, Or.inl (tin_1 (i := 54) rfl rfl)⟩
theorem wf_RX8_42 : x_fl vwCl x_Ts x_AO RX8 42 5 3 RX5 TX5 6 := ⟨rfl, by decide, Or.inr ⟨_, nin_1 (i := 55) rfl rfl⟩⟩
theorem wf_RX11_202 : x_fl vwCl x_Ts x_AO RX11 202 5 3 RX5 TX5 6 := ⟨rfl, by decide, Or.inr ⟨_, nin_1 (i := 56) rfl rfl⟩⟩
theorem wf_RX5_29 : x_fl vwCl x_Ts x_AO RX5 29 5 4 RX5 TX5 6 := ⟨rfl, by decide, Or.inl (tin_1 (i := 57) rfl rfl)⟩
theorem wf_RX5_33 : x_fl vwCl x_Ts x_AO RX5 33 5 5 RX5 TX5 6 := ⟨rfl, by decide, Or.inl (tin_1 (i := 58) rfl rfl)⟩
theorem wf_RX8_13 : x_fl vwCl x_Ts x_AO RX8 13 8 0 RX8 TX8 3 := ⟨rfl, by decide, Or.inl (tin_1 (i := 72) rfl rfl)⟩
theorem wf_RX8_13F : Cond.fieldLink RX8 13 (TX8 0).1 (TX8 0).2.1 (TX8 0).2.2.1 ∈ x_Ts := tin_1 (i := 72) rfl rfl
theorem wf_RX11_188 : x_fl vwCl x_Ts x_AO RX11 188 8 0 RX8 TX8 3 := ⟨rfl, by decide, Or.inr ⟨_, nin_1 (i := 73) rfl rfl⟩⟩
theorem wf_RX8_18 : x_fl vwCl x_Ts x_AO RX8 18 8 1 RX8 TX8 3 := ⟨rfl, by decide, Or.inl (tin_1 (i := 74) rfl rfl)⟩
theorem wf_RX9_146 : x_fl vwCl x_Ts x_AO RX9 146 8 1 RX8 TX8 3 := ⟨rfl, by decide, Or.inr ⟨_, nin_1 (i := 75) rfl rfl⟩⟩
theorem wf_RX11_218 : x_fl vwCl x_Ts x_AO RX11 218 8 1 RX8 TX8 3 := ⟨rfl, by decide, Or.inr ⟨_, nin_1 (i := 76) rfl rfl⟩⟩
theorem wf_RX8_22 : x_fl vwCl x_Ts x_AO RX8 22 8 2 RX8 TX8 3 := ⟨rfl, by decide, Or.inl (tin_1 (i := 77) rfl rfl)⟩
theorem wf_RX9_151 : x_fl vwCl x_Ts x_AO RX9 151 8 2 RX8 TX8 3 := ⟨rfl, by decide, Or.inr ⟨_, nin_1 (i := 78) rfl rfl⟩⟩
theorem wc_RX11_34 : x_cw RX11 34 yX1_init 0 := ⟨Or.inr ⟨_, nin_1 (i := 90) rfl rfl⟩, tin_1 (i := 4) rfl rfl, by decide +kernel, by decide +kernel, x_pn_of (by decide +kernel)⟩
theorem wf_RX1_11 : x_fl vwCl x_Ts x_AO RX1 11 1 0 RX1 TX1 11 := ⟨rfl, by decide, Or.inl (tin_1 (i := 96) rfl rfl)⟩
theorem wf_RX1_11F : Cond.fieldLink RX1 11 (TX1 0).1 (TX1 0).2.1 (TX1 0).2.2.1 ∈ x_Ts := tin_1 (i := 96) rfl rfl
theorem wf_RX11_94 : x_fl vwCl x_Ts x_AO RX11 94 1 0 RX1 TX1 11 := ⟨rfl, by decide, Or.inr ⟨_, nin_1 (i := 97) rfl rfl⟩⟩
theorem wf_RX1_15 : x_fl vwCl x_Ts x_AO RX1 15 1 1 RX1 TX1 11 := ⟨rfl, by decide, Or.inl (tin_1 (i := 98) rfl rfl)⟩
theorem wf_RX1_15F : Cond.fieldLink RX1 15 (TX1 1).1 (TX1 1).2.1 (TX1 1).2.2.1 ∈ x_Ts := tin_1 (i := 98) rfl rfl
theorem wf_RX11_102 : x_fl vwCl x_Ts x_AO RX11 102 1 1 RX1 TX1 11 := ⟨rfl, by decide, Or.inr ⟨_, nin_1 (i := 99) rfl rfl⟩⟩
theorem wf_RX1_21 : x_fl vwCl x_Ts x_AO RX1 21 1 2 RX1 TX1 11 := ⟨rfl, by decide, Or.inl (tin_1 (i := 100) rfl rfl)⟩
theorem wf_RX1_21F : Cond.fieldLink RX1 21 (TX1 2).1 (TX1 2).2.1 (TX1 2).2.2.1 ∈ x_Ts := tin_1 (i := 100) rfl rfl
theorem wf_RX11_77 : x_fl vwCl x_Ts x_AO RX11 77 1 2 RX1 TX1 11 := ⟨rfl, by decide, Or.inr ⟨_, nin_1 (i := 101) rfl rfl⟩⟩
theorem wf_RX9_154 : x_fl vwCl x_Ts x_AO RX9 154 1 2 RX1 TX1 11 := ⟨rfl, by decide, Or.inr ⟨_, nin_1 (i := 102) rfl rfl⟩⟩
theorem wf_RX1_24 : x_fl vwCl x_Ts x_AO RX1 24 1 3 RX1 TX1 11 := ⟨rfl, by decide, Or.inl (tin_1 (i := 103) rfl rfl)⟩
theorem wf_RX1_24F : Cond.fieldLink RX1 24 (TX1 3).1 (TX1 3).2.1 (TX1 3).2.2.1 ∈ x_Ts := tin_1 (i := 103) rfl rfl
theorem wf_RX11_85 : x_fl vwCl x_Ts x_AO RX11 85 1 3 RX1 TX1 11 := ⟨rfl, by decide, Or.inr ⟨_, nin_1 (i := 104) rfl rfl⟩⟩
theorem wf_RX1_27 : x_fl vwCl x_Ts x_AO RX1 27 1 4 RX1 TX1 11 := ⟨rfl, by decide, Or.inl (tin_1 (i := 105) rfl rfl)⟩
theorem wf_RX11_105 : x_fl vwCl x_Ts x_AO RX11 105 1 4 RX1 TX1 11 := ⟨rfl, by decide, Or.inr ⟨_, nin_1 (i := 106) rfl rfl⟩⟩
theorem wf_RX9_252 : x_fl vwCl x_Ts x_AO RX9 252 1 4 RX1 TX1 11 := ⟨rfl, by decide, Or.inr ⟨_, nin_1 (i := 107) rfl rfl⟩⟩
theorem wf_RX1_31 : x_fl vwCl x_Ts x_AO RX1 31 1 5 RX1 TX1 11 := ⟨rfl, by decide, Or.inl (tin_1 (i := 108) rfl rfl)⟩
theorem wf_RX2_139 : x_fl vwCl x_Ts x_AO RX2 139 1 5 RX1 TX1 11 := ⟨rfl, by decide, Or.inr ⟨_, nin_1 (i := 109) rfl rfl⟩⟩
theorem wf_RX11_108 : x_fl vwCl x_Ts x_AO RX11 108 1 5 RX1 TX1 11 := ⟨rfl, by decide, Or.inr ⟨_, nin_1 (i := 110) rfl rfl⟩⟩
theorem wf_RX9_228 : x_fl vwCl x_Ts x_AO RX9 228 1 5 RX1 TX1 11 := ⟨rfl, by decide, Or.inr ⟨_, nin_1 (i := 111) rfl rfl⟩⟩
theorem wf_RX1_38 : x_fl vwCl x_Ts x_AO RX1 38 1 6 RX1 TX1 11 := ⟨rfl, by decide, Or.inl (tin_1 (i := 112) rfl rfl)⟩
theorem wf_RX11_111 : x_fl vwCl x_Ts x_AO RX11 111 1 6 RX1 TX1 11 := ⟨rfl, by decide, Or.inr ⟨_, nin_1 (i := 113) rfl rfl⟩⟩
theorem wf_RX2_146 : x_fl vwCl x_Ts x_AO RX2 146 1 7 RX1 TX1 11 := ⟨rfl, by decide, Or.inr ⟨_, nin_1 (i := 114) rfl rfl⟩⟩
theorem wf_RX11_118 : x_fl vwCl x_Ts x_AO RX11 118 1 7 RX1 TX1 11 := ⟨rfl, by decide, Or.inr ⟨_, nin_1 (i := 115) rfl rfl⟩⟩
theorem wf_RX9_215 : x_fl vwCl x_Ts x_AO RX9 215 1 7 RX1 TX1 11 := ⟨rfl, by decide, Or.inr ⟨_, nin_1 (i := 116) rfl rfl⟩⟩
theorem wf_RX2_150 : x_fl vwCl x_Ts x_AO RX2 150 1 8 RX1 TX1 11 := ⟨rfl, by decide, Or.inr ⟨_, nin_1 (i := 117) rfl rfl⟩⟩
theorem wf_RX11_115 : x_fl vwCl x_Ts x_AO RX11 115 1 8 RX1 TX1 11 := ⟨rfl, by decide, Or.inr ⟨_, nin_1 (i := 118) rfl rfl⟩⟩
theorem wf_RX9_219 : x_fl vwCl x_Ts x_AO RX9 219 1 8 RX1 TX1 11 := ⟨rfl, by decide, Or.inr ⟨_, nin_1 (i := 119) rfl rfl⟩⟩
theorem wf_RX2_186 : x_fl vwCl x_Ts x_AO RX2 186 1 9 RX1 TX1 11 := ⟨rfl, by decide, Or.inr ⟨_, nin_1 (i := 120) rfl rfl⟩⟩
theorem wf_RX11_125 : x_fl vwCl x_Ts x_AO RX11 125 1 9 RX1 TX1 11 := ⟨rfl, by decide, Or.inr ⟨_, nin_1 (i := 121) rfl rfl⟩⟩
theorem wf_RX9_222 : x_fl vwCl x_Ts x_AO RX9 222 1 9 RX1 TX1 11 := ⟨rfl, by decide, Or.inr ⟨_, nin_1 (i := 122) rfl rfl⟩⟩
theorem wf_RX2_189 : x_fl vwCl x_Ts x_AO RX2 189 1 10 RX1 TX1 11 := ⟨rfl, by decide, Or.inr ⟨_, nin_1 (i := 123) rfl rfl⟩⟩
theorem wf_RX11_122 : x_fl vwCl x_Ts x_AO RX11 122 1 10 RX1 TX1 11 := ⟨rfl, by decide, Or.inr ⟨_, nin_1 (i := 124) rfl rfl⟩⟩
theorem wf_RX9_225 : x_fl vwCl x_Ts x_AO RX9 225 1 10 RX1 TX1 11 := ⟨rfl, by decide, Or.inr ⟨_, nin_1 (i := 125) rfl rfl⟩⟩
theorem wc_RX11_41 : x_cw RX11 41 yX9_init 2 := ⟨Or.inr ⟨_, nin_1 (i := 153) rfl rfl⟩, tin_1 (i := 5) rfl rfl, by decide +kernel, by decide +kernel, x_pn_of (by decide +kernel)⟩
theorem wc_RX9_17 : x_cw RX9 17 yX5_init 0 := ⟨Or.inr ⟨_, nin_1 (i := 158) rfl rfl⟩, tin_1 (i := 3) rfl rfl, by decide +kernel, by decide +kernel, x_pn_of (by decide +kernel)⟩
theorem wc_RX9_24 : x_cw RX9 24 yX8_init 0 := ⟨Or.inr ⟨_, nin_1 (i := 160) rfl rfl⟩, tin_1 (i := 2) rfl rfl, by decide +kernel, by decide +kernel, x_pn_of (by decide +kernel)⟩
theorem wf_RX9_29 : x_fl vwCl x_Ts x_AO RX9 29 9 0 RX9 TX9 16 := ⟨rfl, by decide, Or.inl (tin_1 (i := 161) rfl rfl)⟩
theorem wf_RX9_29F : Cond.fieldLink RX9 29 (TX9 0).1 (TX9 0).2.1 (TX9 0).2.2.1 ∈ x_Ts := tin_1 (i := 161) rfl rfl
theorem wf_RX9_33 : x_fl vwCl x_Ts x_AO RX9 33 9 1 RX9 TX9 16 := ⟨rfl, by decide, Or.inl (tin_1 (i := 162) rfl rfl)⟩
theorem wf_RX9_33F : Cond.fieldLink RX9 33 (TX9 1).1 (TX9 1).2.1 (TX9 1).2.2.1 ∈ x_Ts := tin_1 (i := 162) rfl rfl
theorem wf_RX9_11 : x_fl vwCl x_Ts x_AO RX9 11 9 2 RX9 TX9 16 := ⟨rfl, by decide, Or.inl (tin_1 (i := 163) rfl rfl)⟩
theorem wf_RX9_11F : Cond.fieldLink RX9 11 (TX9 2).1 (TX9 2).2.1 (TX9 2).2.2.1 ∈ x_Ts := tin_1 (i := 163) rfl rfl
theorem wf_RX9_18 : x_fl vwCl x_Ts x_AO RX9 18 9 3 RX9 TX9 16 := ⟨rfl, by decide, Or.inl (tin_1 (i := 164) rfl rfl)⟩
theorem wf_RX9_18F : Cond.fieldLink RX9 18 (TX9 3).1 (TX9 3).2.1 (TX9 3).2.2.1 ∈ x_Ts := tin_1 (i := 164) rfl rfl
theorem wf_RX9_25 : x_fl vwCl x_Ts x_AO RX9 25 9 4 RX9 TX9 16 := ⟨rfl, by decide, Or.inl (tin_1 (i := 165) rfl rfl)⟩
theorem wf_RX9_25F : Cond.fieldLink RX9 25 (TX9 4).1 (TX9 4).2.1 (TX9 4).2.2.1 ∈ x_Ts := tin_1 (i := 165) rfl rfl
theorem wf_RX11_143 : x_fl vwCl x_Ts x_AO RX11 143 9 4 RX9 TX9 16 := ⟨rfl, by decide, Or.inr ⟨_, nin_1 (i := 166) rfl rfl⟩⟩
theorem wf_RX9_62 : x_fl vwCl x_Ts x_AO RX9 62 9 5 RX9 TX9 16 := ⟨rfl, by decide, Or.inl (tin_1 (i := 167) rfl rfl)⟩
theorem wf_RX9_53 : x_fl vwCl x_Ts x_AO RX9 53 9 6 RX9 TX9 16 := ⟨rfl, by decide, Or.inl (tin_1 (i := 168) rfl rfl)⟩
theorem wf_RX9_56 : x_fl vwCl x_Ts x_AO RX9 56 9 7 RX9 TX9 16 := ⟨rfl, by decide, Or.inl (tin_1 (i := 169) rfl rfl)⟩
theorem wf_RX11_153 : x_fl vwCl x_Ts x_AO RX11 153 9 7 RX9 TX9 16 := ⟨rfl, by decide, Or.inr ⟨_, nin_1 (i := 170) rfl rfl⟩⟩
theorem wf_RX9_59 : x_fl vwCl x_Ts x_AO RX9 59 9 8 RX9 TX9 16 := ⟨rfl, by decide, Or.inl (tin_1 (i := 171) rfl rfl)⟩
theorem wf_RX11_156 : x_fl vwCl x_Ts x_AO RX11 156 9 8 RX9 TX9 16 := ⟨rfl, by decide, Or.inr ⟨_, nin_1 (i := 172) rfl rfl⟩⟩
theorem wf_RX9_49 : x_fl vwCl x_Ts x_AO RX9 49 9 9 RX9 TX9 16 := ⟨rfl, by decide, Or.inl (tin_1 (i := 173) rfl rfl)⟩
theorem wf_RX11_150 : x_fl vwCl x_Ts x_AO RX11 150 9 9 RX9 TX9 16 := ⟨rfl, by decide, Or.inr ⟨_, nin_1 (i := 174) rfl rfl⟩⟩
theorem wf_RX9_78 : x_fl vwCl x_Ts x_AO RX9 78 9 10 RX9 TX9 16 := ⟨rfl, by decide, Or.inl (tin_1 (i := 175) rfl rfl)⟩
theorem wf_RX9_75 : x_fl vwCl x_Ts x_AO RX9 75 9 11 RX9 TX9 16 := ⟨rfl, by decide, Or.inl (tin_1 (i := 176) rfl rfl)⟩
theorem wf_RX9_96 : x_fl vwCl x_Ts x_AO RX9 96 9 12 RX9 TX9 16 := ⟨rfl, by decide, Or.inl (tin_1 (i := 177) rfl rfl)⟩
theorem wf_RX9_118 : x_fl vwCl x_Ts x_AO RX9 118 9 13 RX9 TX9 16 := ⟨rfl, by decide, Or.inl (tin_1 (i := 178) rfl rfl)⟩
theorem wf_RX9_115 : x_fl vwCl x_Ts x_AO RX9 115 9 14 RX9 TX9 16 := ⟨rfl, by decide, Or.inl (tin_1 (i := 179) rfl rfl)⟩
theorem wf_RX2_132 : x_fl vwCl x_Ts x_AO RX2 132 9 15 RX9 TX9 16 := ⟨rfl, by decide, Or.inr ⟨_, nin_1 (i := 180) rfl rfl⟩⟩
theorem wf_RX9_212 : x_fl vwCl x_Ts x_AO RX9 212 9 15 RX9 TX9 16 := ⟨rfl, by decide, Or.inl (tin_1 (i := 181) rfl rfl)⟩
theorem wc_RX11_50 : x_cw RX11 50 yX2_init 2 := ⟨Or.inr ⟨_, nin_1 (i := 217) rfl rfl⟩, tin_1 (i := 6) rfl rfl, by decide +kernel, by decide +kernel, x_pn_of (by decide +kernel)⟩
theorem wc_RX2_11 : x_cw RX2 11 yX8_init 0 := ⟨Or.inr ⟨_, nin_1 (i := 222) rfl rfl⟩, tin_1 (i := 2) rfl rfl, by decide +kernel, by decide +kernel, x_pn_of (by decide +kernel)⟩
theorem wc_RX2_20 : x_cw RX2 20 yX5_init 0 := ⟨Or.inr ⟨_, nin_1 (i := 224) rfl rfl⟩, tin_1 (i := 3) rfl rfl, by decide +kernel, by decide +kernel, x_pn_of (by decide +kernel)⟩
theorem wf_RX2_25 : x_fl vwCl x_Ts x_AO RX2 25 2 0 RX2 TX2 5 := ⟨rfl, by decide, Or.inl (tin_1 (i := 225) rfl rfl)⟩
theorem wf_RX2_25F : Cond.fieldLink RX2 25 (TX2 0).1 (TX2 0).2.1 (TX2 0).2.2.1 ∈ x_Ts := tin_1 (i := 225) rfl rfl
theorem wf_RX2_29 : x_fl vwCl x_Ts x_AO RX2 29 2 1 RX2 TX2 5 := ⟨rfl, by decide, Or.inl (tin_1 (i := 226) rfl rfl)⟩
theorem wf_RX2_29F : Cond.fieldLink RX2 29 (TX2 1).1 (TX2 1).2.1 (TX2 1).2.2.1 ∈ x_Ts := tin_1 (i := 226) rfl rfl
theorem wf_RX2_12 : x_fl vwCl x_Ts x_AO RX2 12 2 2 RX2 TX2 5 := ⟨rfl, by decide, Or.inl (tin_1 (i := 227) rfl rfl)⟩
theorem wf_RX2_12F : Cond.fieldLink RX2 12 (TX2 2).1 (TX2 2).2.1 (TX2 2).2.2.1 ∈ x_Ts := tin_1 (i := 227) rfl rfl
theorem wf_RX11_275 : x_fl vwCl x_Ts x_AO RX11 275 2 2 RX2 TX2 5 := ⟨rfl, by decide, Or.inr ⟨_, nin_1 (i := 228) rfl rfl⟩⟩
theorem wf_RX2_21 : x_fl vwCl x_Ts x_AO RX2 21 2 3 RX2 TX2 5 := ⟨rfl, by decide, Or.inl (tin_1 (i := 229) rfl rfl)⟩
theorem wf_RX2_21F : Cond.fieldLink RX2 21 (TX2 3).1 (TX2 3).2.1 (TX2 3).2.2.1 ∈ x_Ts := tin_1 (i := 229) rfl rfl
theorem wf_RX2_33 : x_fl vwCl x_Ts x_AO RX2 33 2 4 RX2 TX2 5 := ⟨rfl, by decide, Or.inl (tin_1 (i := 230) rfl rfl)⟩
theorem wc_RX11_57 : x_cw RX11 57 yX4_init 0 := ⟨Or.inr ⟨_, nin_2 (i := 4) rfl rfl⟩, tin_1 (i := 7) rfl rfl, by decide +kernel, by decide +kernel, x_pn_of (by decide +kernel)⟩
theorem wc_RX4_11 : x_cw RX4 11 yX7_init 0 := ⟨Or.inr ⟨_, nin_2 (i := 10) rfl rfl⟩, tin_1 (i := 8) rfl rfl, by decide +kernel, by decide +kernel, x_pn_of (by decide +kernel)⟩
theorem wf_RX7_9 : x_fl vwCl x_Ts x_AO RX7 9 7 0 RX7 TX7 11 := ⟨rfl, by decide, Or.inl (tin_2 (i := 14) rfl rfl)⟩
theorem wf_RX7_9F : Cond.fieldLink RX7 9 (TX7 0).1 (TX7 0).2.1 (TX7 0).2.2.1 ∈ x_Ts := tin_2 (i := 14) rfl rfl
theorem wf_RX4_55 : x_fl vwCl x_Ts x_AO RX4 55 7 0 RX7 TX7 11 := ⟨rfl, by decide, Or.inr ⟨_, nin_2 (i := 15) rfl rfl⟩⟩
theorem wf_RX7_15 : x_fl vwCl x_Ts x_AO RX7 15 7 1 RX7 TX7 11 := ⟨rfl, by decide, Or.inl (tin_2 (i := 16) rfl rfl)⟩
theorem wf_RX7_15F : Cond.fieldLink RX7 15 (TX7 1).1 (TX7 1).2.1 (TX7 1).2.2.1 ∈ x_Ts := tin_2 (i := 16) rfl rfl
theorem wf_RX4_58 : x_fl vwCl x_Ts x_AO RX4 58 7 1 RX7 TX7 11 := ⟨rfl, by decide, Or.inr ⟨_, nin_2 (i := 17) rfl rfl⟩⟩
theorem wf_RX7_19 : x_fl vwCl x_Ts x_AO RX7 19 7 2 RX7 TX7 11 := ⟨rfl, by decide, Or.inl (tin_2 (i := 18) rfl rfl)⟩
theorem wf_RX7_19F : Cond.fieldLink RX7 19 (TX7 2).1 (TX7 2).2.1 (TX7 2).2.2.1 ∈ x_Ts := tin_2 (i := 18) rfl rfl
theorem wf_RX4_66 : x_fl vwCl x_Ts x_AO RX4 66 7 2 RX7 TX7 11 := ⟨rfl, by decide, Or.inr ⟨_, nin_2 (i := 19) rfl rfl⟩⟩
theorem wf_RX7_22 : x_fl vwCl x_Ts x_AO RX7 22 7 3 RX7 TX7 11 := ⟨rfl, by decide, Or.inl (tin_2 (i := 20) rfl rfl)⟩
theorem wf_RX7_22F : Cond.fieldLink RX7 22 (TX7 3).1 (TX7 3).2.1 (TX7 3).2.2.1 ∈ x_Ts := tin_2 (i := 20) rfl rfl
theorem wf_RX7_41 : x_fl vwCl x_Ts x_AO RX7 41 7 4 RX7 TX7 11 := ⟨rfl, by decide, Or.inl (tin_2 (i := 21) rfl rfl)⟩
theorem wf_RX4_54 : x_fl vwCl x_Ts x_AO RX4 54 7 4 RX7 TX7 11 := ⟨rfl, by decide, Or.inr ⟨_, nin_2 (i := 22) rfl rfl⟩⟩
theorem wf_RX7_25 : x_fl vwCl x_Ts x_AO RX7 25 7 5 RX7 TX7 11 := ⟨rfl, by decide, Or.inl (tin_2 (i := 23) rfl rfl)⟩
theorem wf_RX7_34 : x_fl vwCl x_Ts x_AO RX7 34 7 6 RX7 TX7 11 := ⟨rfl, by decide, Or.inl (tin_2 (i := 24) rfl rfl)⟩
theorem wf_RX7_54 : x_fl vwCl x_Ts x_AO RX7 54 7 7 RX7 TX7 11 := ⟨rfl, by decide, Or.inl (tin_2 (i := 25) rfl rfl)⟩
theorem wf_RX7_38 : x_fl vwCl x_Ts x_AO RX7 38 7 8 RX7 TX7 11 := ⟨rfl, by decide, Or.inl (tin_2 (i := 26) rfl rfl)⟩
theorem wf_RX7_44 : x_fl vwCl x_Ts x_AO RX7 44 7 9 RX7 TX7 11 := ⟨rfl, by decide, Or.inl (tin_2 (i := 27) rfl rfl)⟩
theorem wf_RX7_50 : x_fl vwCl x_Ts x_AO RX7 50 7 10 RX7 TX7 11 := ⟨rfl, by decide, Or.inl (tin_2 (i := 28) rfl rfl)⟩
theorem wf_RX4_12 : x_fl vwCl x_Ts x_AO RX4 12 4 0 RX4 TX4 10 := ⟨rfl, by decide, Or.inl (tin_2 (i := 53) rfl rfl)⟩
theorem wf_RX4_12F : Cond.fieldLink RX4 12 (TX4 0).1 (TX4 0).2.1 (TX4 0).2.2.1 ∈ x_Ts := tin_2 (i := 53) rfl rfl
theorem wf_RX4_18 : x_fl vwCl x_Ts x_AO RX4 18 4 1 RX4 TX4 10 := ⟨rfl, by decide, Or.inl (tin_2 (i := 54) rfl rfl)⟩
theorem wf_RX4_18F : Cond.fieldLink RX4 18 (TX4 1).1 (TX4 1).2.1 (TX4 1).2.2.1 ∈ x_Ts := tin_2 (i := 54) rfl rfl
theorem wf_RX4_24 : x_fl vwCl x_Ts x_AO RX4 24 4 2 RX4 TX4 10 := ⟨rfl, by decide, Or.inl (tin_2 (i := 55) rfl rfl)⟩
theorem wf_RX11_245 : x_fl vwCl x_Ts x_AO RX11 245 4 2 RX4 TX4 10 := ⟨rfl, by decide, Or.inr ⟨_, nin_2 (i := 56) rfl rfl⟩⟩
theorem wf_RX4_32 : x_fl vwCl x_Ts x_AO RX4 32 4 3 RX4 TX4 10 := ⟨rfl, by decide, Or.inl (tin_2 (i := 57) rfl rfl)⟩
theorem wf_RX11_243 : x_fl vwCl x_Ts x_AO RX11 243 4 3 RX4 TX4 10 := ⟨rfl, by decide, Or.inr ⟨_, nin_2 (i := 58) rfl rfl⟩⟩
theorem wf_RX4_36 : x_fl vwCl x_Ts x_AO RX4 36 4 4 RX4 TX4 10 := ⟨rfl, by decide, Or.inl (tin_2 (i := 59) rfl rfl)⟩
theorem wf_RX4_39 : x_fl vwCl x_Ts x_AO RX4 39 4 5 RX4 TX4 10 := ⟨rfl, by decide, Or.inl (tin_2 (i := 60) rfl rfl)⟩
theorem wf_RX11_239 : x_fl vwCl x_Ts x_AO RX11 239 4 5 RX4 TX4 10 := ⟨rfl, by decide, Or.inr ⟨_, nin_2 (i := 61) rfl rfl⟩⟩
theorem wf_RX4_42 : x_fl vwCl x_Ts x_AO RX4 42 4 6 RX4 TX4 10 := ⟨rfl, by decide, Or.inl (tin_2 (i := 62) rfl rfl)⟩
theorem wf_RX11_242 : x_fl vwCl x_Ts x_AO RX11 242 4 6 RX4 TX4 10 := ⟨rfl, by decide, Or.inr ⟨_, nin_2 (i := 63) rfl rfl⟩⟩
theorem wf_RX4_45 : x_fl vwCl x_Ts x_AO RX4 45 4 7 RX4 TX4 10 := ⟨rfl, by decide, Or.inl (tin_2 (i := 64) rfl rfl)⟩
theorem wf_RX4_51 : x_fl vwCl x_Ts x_AO RX4 51 4 8 RX4 TX4 10 := ⟨rfl, by decide, Or.inl (tin_2 (i := 65) rfl rfl)⟩
theorem wf_RX4_62 : x_fl vwCl x_Ts x_AO RX4 62 4 9 RX4 TX4 10 := ⟨rfl, by decide, Or.inl (tin_2 (i := 66) rfl rfl)⟩
theorem wc_RX11_64 : x_cw RX11 64 yX0_init 0 := ⟨Or.inr ⟨_, nin_2 (i := 90) rfl rfl⟩, tin_1 (i := 9) rfl rfl, by decide +kernel, by decide +kernel, x_pn_of (by decide +kernel)⟩
theorem wf_RX0_9 : x_fl vwCl x_Ts x_AO RX0 9 0 0 RX0 TX0 2 := ⟨rfl, by decide, Or.inl (tin_2 (i := 94) rfl rfl)⟩
theorem wf_RX0_9F : Cond.fieldLink RX0 9 (TX0 0).1 (TX0 0).2.1 (TX0 0).2.2.1 ∈ x_Ts := tin_2 (i := 94) rfl rfl
theorem wf_RX0_15 : x_fl vwCl x_Ts x_AO RX0 15 0 1 RX0 TX0 2 := ⟨rfl, by decide, Or.inl (tin_2 (i := 95) rfl rfl)⟩
theorem wf_RX11_35 : x_fl vwCl x_Ts x_AO RX11 35 11 0 RX11 TX11 13 := ⟨rfl, by decide, Or.inl (tin_2 (i := 101) rfl rfl)⟩
theorem wf_RX11_35F : Cond.fieldLink RX11 35 (TX11 0).1 (TX11 0).2.1 (TX11 0).2.2.1 ∈ x_Ts := tin_2 (i := 101) rfl rfl
theorem wf_RX11_44 : x_fl vwCl x_Ts x_AO RX11 44 11 1 RX11 TX11 13 := ⟨rfl, by decide, Or.inl (tin_2 (i := 102) rfl rfl)⟩
theorem wf_RX11_44F : Cond.fieldLink RX11 44 (TX11 1).1 (TX11 1).2.1 (TX11 1).2.2.1 ∈ x_Ts := tin_2 (i := 102) rfl rfl
theorem wf_RX11_51 : x_fl vwCl x_Ts x_AO RX11 51 11 2 RX11 TX11 13 := ⟨rfl, by decide, Or.inl (tin_2 (i := 103) rfl rfl)⟩
theorem wf_RX11_51F : Cond.fieldLink RX11 51 (TX11 2).1 (TX11 2).2.1 (TX11 2).2.2.1 ∈ x_Ts := tin_2 (i := 103) rfl rfl
theorem wf_RX11_58 : x_fl vwCl x_Ts x_AO RX11 58 11 3 RX11 TX11 13 := ⟨rfl, by decide, Or.inl (tin_2 (i := 104) rfl rfl)⟩
theorem wf_RX11_58F : Cond.fieldLink RX11 58 (TX11 3).1 (TX11 3).2.1 (TX11 3).2.2.1 ∈ x_Ts := tin_2 (i := 104) rfl rfl
theorem wf_RX11_65 : x_fl vwCl x_Ts x_AO RX11 65 11 4 RX11 TX11 13 := ⟨rfl, by decide, Or.inl (tin_2 (i := 105) rfl rfl)⟩
theorem wf_RX11_65F : Cond.fieldLink RX11 65 (TX11 4).1 (TX11 4).2.1 (TX11 4).2.2.1 ∈ x_Ts := tin_2 (i := 105) rfl rfl
theorem wf_RX11_10 : x_fl vwCl x_Ts x_AO RX11 10 11 5 RX11 TX11 13 := ⟨rfl, by decide, Or.inl (tin_2 (i := 106) rfl rfl)⟩
theorem wf_RX11_10F : Cond.fieldLink RX11 10 (TX11 5).1 (TX11 5).2.1 (TX11 5).2.2.1 ∈ x_Ts := tin_2 (i := 106) rfl rfl
theorem wf_RX11_16 : x_fl vwCl x_Ts x_AO RX11 16 11 6 RX11 TX11 13 := ⟨rfl, by decide, Or.inl (tin_2 (i := 107) rfl rfl)⟩
theorem wf_RX11_16F : Cond.fieldLink RX11 16 (TX11 6).1 (TX11 6).2.1 (TX11 6).2.2.1 ∈ x_Ts := tin_2 (i := 107) rfl rfl
theorem wf_RX11_20 : x_fl vwCl x_Ts x_AO RX11 20 11 7 RX11 TX11 13 := ⟨rfl, by decide, Or.inl (tin_2 (i := 108) rfl rfl)⟩
theorem wf_RX11_20F : Cond.fieldLink RX11 20 (TX11 7).1 (TX11 7).2.1 (TX11 7).2.2.1 ∈ x_Ts := tin_2 (i := 108) rfl rfl
theorem wf_RX11_23 : x_fl vwCl x_Ts x_AO RX11 23 11 8 RX11 TX11 13 := ⟨rfl, by decide, Or.inl (tin_2 (i := 109) rfl rfl)⟩
theorem wf_RX11_23F : Cond.fieldLink RX11 23 (TX11 8).1 (TX11 8).2.1 (TX11 8).2.2.1 ∈ x_Ts := tin_2 (i := 109) rfl rfl
theorem wf_RX11_69 : x_fl vwCl x_Ts x_AO RX11 69 11 9 RX11 TX11 13 := ⟨rfl, by decide, Or.inl (tin_2 (i := 110) rfl rfl)⟩
theorem wf_RX11_215 : x_fl vwCl x_Ts x_AO RX11 215 11 10 RX11 TX11 13 := ⟨rfl, by decide, Or.inl (tin_2 (i := 111) rfl rfl)⟩
theorem wf_RX11_28 : x_fl vwCl x_Ts x_AO RX11 28 11 11 RX11 TX11 13 := ⟨rfl, by decide, Or.inl (tin_2 (i := 112) rfl rfl)⟩
theorem wf_RX11_253 : x_fl vwCl x_Ts x_AO RX11 253 11 12 RX11 TX11 13 := ⟨rfl, by decide, Or.inl (tin_2 (i := 113) rfl rfl)⟩
theorem wc_RL_13 : x_cw RL 13 yX11_feed 5 := ⟨Or.inl (tin_2 (i := 141) rfl rfl), tin_1 (i := 1) rfl rfl, by decide +kernel, by decide +kernel, x_pn_of (by decide +kernel)⟩
theorem wc_RX11_73 : x_cw RX11 73 yX11_feedFour 1 := ⟨Or.inl (tin_2 (i := 145) rfl rfl), tin_1 (i := 1) rfl rfl, by decide +kernel, by decide +kernel, x_pn_of (by decide +kernel)⟩
theorem wc_RL_18 : x_cw RL 18 yX11_end 1 := ⟨Or.inl (tin_2 (i := 149) rfl rfl), tin_1 (i := 1) rfl rfl, by decide +kernel, by decide +kernel, x_pn_of (by decide +kernel)⟩
theorem wc_RL_23 : x_cw RL 23 yX11_expression 1 := ⟨Or.inl (tin_2 (i := 153) rfl rfl), tin_1 (i := 1) rfl rfl, by decide +kernel, by decide +kernel, x_pn_of (by decide +kernel)⟩
theorem wc_RX11_81 : x_cw RX11 81 yX11_tapeInto 2 := ⟨Or.inl (tin_2 (i := 157) rfl rfl), tin_1 (i := 1) rfl rfl, by decide +kernel, by decide +kernel, x_pn_of (by decide +kernel)⟩
theorem wc_RX11_88 : x_cw RX11 88 yJ7_copyOf_59c91 2 := ⟨Or.inl (tin_2 (i := 161) rfl rfl), tin_1 (i := 11) rfl rfl, by decide +kernel, by decide +kernel, x_pn_of (by decide +kernel)⟩
theorem wc_RJ7_304 : x_cw RJ7 304 yJ9_min_7cf53 2 := ⟨Or.inl (tin_2 (i := 171) rfl rfl), tin_1 (i := 12) rfl rfl, by decide +kernel, by decide +kernel, x_pn_of (by decide +kernel)⟩
theorem wc_RL_27 : x_cw RL 27 yX11_list 1 := ⟨Or.inl (tin_2 (i := 177) rfl rfl), tin_1 (i := 1) rfl rfl, by decide +kernel, by decide +kernel, x_pn_of (by decide +kernel)⟩
theorem wc_RL_33 : x_cw RL 33 yX11_load 2 := ⟨Or.inl (tin_2 (i := 181) rfl rfl), tin_1 (i := 1) rfl rfl, by decide +kernel, by decide +kernel, x_pn_of (by decide +kernel)⟩
theorem wc_RL_38 : x_cw RL 38 yX11_register 1 := ⟨Or.inl (tin_2 (i := 185) rfl rfl), tin_1 (i := 1) rfl rfl, by decide +kernel, by decide +kernel, x_pn_of (by decide +kernel)⟩
theorem wc_RX11_98 : x_cw RX11 98 yX1_registerValue 1 := ⟨Or.inr ⟨_, nin_2 (i := 189) rfl rfl⟩, tin_1 (i := 4) rfl rfl, by decide +kernel, by decide +kernel, x_pn_of (by decide +kernel)⟩
theorem wc_RL_43 : x_cw RL 43 yX11_poke 2 := ⟨Or.inl (tin_2 (i := 193) rfl rfl), tin_1 (i := 1) rfl rfl, by decide +kernel, by decide +kernel, x_pn_of (by decide +kernel)⟩
theorem wc_RL_48 : x_cw RL 48 yX11_peek 1 := ⟨Or.inl (tin_2 (i := 197) rfl rfl), tin_1 (i := 1) rfl rfl, by decide +kernel, by decide +kernel, x_pn_of (by decide +kernel)⟩
theorem wc_RL_52 : x_cw RL 52 yX11_frame 1 := ⟨Or.inl (tin_2 (i := 201) rfl rfl), tin_1 (i := 1) rfl rfl, by decide +kernel, by decide +kernel, x_pn_of (by decide +kernel)⟩
theorem wc_RL_57 : x_cw RL 57 yX11_cfa 2 := ⟨Or.inl (tin_2 (i := 205) rfl rfl), tin_1 (i := 1) rfl rfl, by decide +kernel, by decide +kernel, x_pn_of (by decide +kernel)⟩
theorem wc_RL_61 : x_cw RL 61 yX11_set 3 := ⟨Or.inl (tin_2 (i := 209) rfl rfl), tin_1 (i := 1) rfl rfl, by decide +kernel, by decide +kernel, x_pn_of (by decide +kernel)⟩
theorem wc_RL_66 : x_cw RL 66 yX11_run 2 := ⟨Or.inl (tin_2 (i := 213) rfl rfl), tin_1 (i := 1) rfl rfl, by decide +kernel, by decide +kernel, x_pn_of (by decide +kernel)⟩
theorem wc_RX11_128 : x_cw RX11 128 yX11_isFuel 1 := ⟨Or.inl (tin_2 (i := 217) rfl rfl), tin_1 (i := 1) rfl rfl, by decide +kernel, by decide +kernel, x_pn_of (by decide +kernel)⟩
theorem wc_RX11_132 : x_cw RX11 132 yX11_runBytes 4 := ⟨Or.inl (tin_2 (i := 220) rfl rfl), tin_1 (i := 1) rfl rfl, by decide +kernel, by decide +kernel, x_pn_of (by decide +kernel)⟩
theorem wc_RX11_140 : x_cw RX11 140 yX9_start 4 := ⟨Or.inr ⟨_, nin_2 (i := 224) rfl rfl⟩, tin_1 (i := 5) rfl rfl, by decide +kernel, by decide +kernel, x_pn_of (by decide +kernel)⟩
theorem wc_RX9_37 : x_cw RX9 37 yX9_reset 2 := ⟨Or.inl (tin_2 (i := 228) rfl rfl), tin_1 (i := 5) rfl rfl, by decide +kernel, by decide +kernel, x_pn_of (by decide +kernel)⟩
theorem wc_RX9_65 : x_cw RX9 65 yX5_become 2 := ⟨Or.inr ⟨_, nin_2 (i := 232) rfl rfl⟩, tin_1 (i := 3) rfl rfl, by decide +kernel, by decide +kernel, x_pn_of (by decide +kernel)⟩
theorem wc_RX9_69 : x_cw RX9 69 yX8_clear 0 := ⟨Or.inr ⟨_, nin_2 (i := 236) rfl rfl⟩, tin_1 (i := 2) rfl rfl, by decide +kernel, by decide +kernel, x_pn_of (by decide +kernel)⟩
theorem wc_RX8_25 : x_cw RX8 25 yX8_only 0 := ⟨Or.inl (tin_3 (i := 0) rfl rfl), tin_1 (i := 2) rfl rfl, by decide +kernel, by decide +kernel, x_pn_of (by decide +kernel)⟩
theorem wc_RX8_29 : x_cw RX8 29 yX5_become 2 := ⟨Or.inr ⟨_, nin_3 (i := 4) rfl rfl⟩, tin_1 (i := 3) rfl rfl, by decide +kernel, by decide +kernel, x_pn_of (by decide +kernel)⟩
theorem wc_RX9_41 : x_cw RX9 41 yX9_perform 4 := ⟨Or.inl (tin_3 (i := 5) rfl rfl), tin_1 (i := 5) rfl rfl, by decide +kernel, by decide +kernel, x_pn_of (by decide +kernel)⟩
theorem wc_RX9_72 : x_cw RX9 72 yX9_step 4 := ⟨Or.inl (tin_3 (i := 9) rfl rfl), tin_1 (i := 5) rfl rfl, by decide +kernel, by decide +kernel, x_pn_of (by decide +kernel)⟩
theorem wc_RX9_81 : x_cw RX9 81 yX9_shape 1 := ⟨Or.inl (tin_3 (i := 13) rfl rfl), tin_1 (i := 5) rfl rfl, by decide +kernel, by decide +kernel, x_pn_of (by decide +kernel)⟩
theorem wc_RX9_85 : x_cw RX9 85 yX9_readOperands 3 := ⟨Or.inl (tin_3 (i := 16) rfl rfl), tin_1 (i := 5) rfl rfl, by decide +kernel, by decide +kernel, x_pn_of (by decide +kernel)⟩
theorem wc_RX9_108 : x_cw RX9 108 yX9_readNumber 3 := ⟨Or.inl (tin_3 (i := 20) rfl rfl), tin_1 (i := 5) rfl rfl, by decide +kernel, by decide +kernel, x_pn_of (by decide +kernel)⟩
theorem wc_RX9_121 : x_cw RX9 121 yX11_number 3 := ⟨Or.inr ⟨_, nin_3 (i := 24) rfl rfl⟩, tin_1 (i := 1) rfl rfl, by decide +kernel, by decide +kernel, x_pn_of (by decide +kernel)⟩
theorem wc_RX9_111 : x_cw RX9 111 yX9_readLeb 3 := ⟨Or.inl (tin_3 (i := 27) rfl rfl), tin_1 (i := 5) rfl rfl, by decide +kernel, by decide +kernel, x_pn_of (by decide +kernel)⟩
theorem wc_RX9_89 : x_cw RX9 89 yX9_check 1 := ⟨Or.inl (tin_3 (i := 32) rfl rfl), tin_1 (i := 5) rfl rfl, by decide +kernel, by decide +kernel, x_pn_of (by decide +kernel)⟩
theorem wc_RX9_130 : x_cw RX9 130 yX9_goesWithHold 1 := ⟨Or.inl (tin_3 (i := 36) rfl rfl), tin_1 (i := 5) rfl rfl, by decide +kernel, by decide +kernel, x_pn_of (by decide +kernel)⟩
theorem wc_RX9_140 : x_cw RX9 140 yX9_isTooMuch 1 := ⟨Or.inl (tin_3 (i := 41) rfl rfl), tin_1 (i := 5) rfl rfl, by decide +kernel, by decide +kernel, x_pn_of (by decide +kernel)⟩
theorem wc_RX9_143 : x_cw RX9 143 yX9_wanted 1 := ⟨Or.inl (tin_3 (i := 46) rfl rfl), tin_1 (i := 5) rfl rfl, by decide +kernel, by decide +kernel, x_pn_of (by decide +kernel)⟩
theorem wc_RX9_92 : x_cw RX9 92 yX9_pop 0 := ⟨Or.inl (tin_3 (i := 50) rfl rfl), tin_1 (i := 5) rfl rfl, by decide +kernel, by decide +kernel, x_pn_of (by decide +kernel)⟩
theorem wc_RX9_100 : x_cw RX9 100 yX9_call 2 := ⟨Or.inl (tin_3 (i := 54) rfl rfl), tin_1 (i := 5) rfl rfl, by decide +kernel, by decide +kernel, x_pn_of (by decide +kernel)⟩
theorem wc_RX9_104 : x_cw RX9 104 yX9_operate 3 := ⟨Or.inl (tin_3 (i := 58) rfl rfl), tin_1 (i := 5) rfl rfl, by decide +kernel, by decide +kernel, x_pn_of (by decide +kernel)⟩
theorem wc_RX9_158 : x_cw RX9 158 yX9_push 1 := ⟨Or.inl (tin_3 (i := 62) rfl rfl), tin_1 (i := 5) rfl rfl, by decide +kernel, by decide +kernel, x_pn_of (by decide +kernel)⟩
theorem wc_RX9_188 : x_cw RX9 188 yJ9_max_7cf53 2 := ⟨Or.inl (tin_3 (i := 66) rfl rfl), tin_1 (i := 12) rfl rfl, by decide +kernel, by decide +kernel, x_pn_of (by decide +kernel)⟩
theorem wc_RX9_162 : x_cw RX9 162 yX1_registerValue 1 := ⟨Or.inr ⟨_, nin_3 (i := 69) rfl rfl⟩, tin_1 (i := 4) rfl rfl, by decide +kernel, by decide +kernel, x_pn_of (by decide +kernel)⟩
theorem wc_RX9_166 : x_cw RX9 166 yX9_shuffle 1 := ⟨Or.inl (tin_3 (i := 70) rfl rfl), tin_1 (i := 5) rfl rfl, by decide +kernel, by decide +kernel, x_pn_of (by decide +kernel)⟩
theorem wc_RX9_201 : x_cw RX9 201 yX9_below 1 := ⟨Or.inl (tin_3 (i := 74) rfl rfl), tin_1 (i := 5) rfl rfl, by decide +kernel, by decide +kernel, x_pn_of (by decide +kernel)⟩
theorem wc_RX9_169 : x_cw RX9 169 yX9_changed 2 := ⟨Or.inl (tin_3 (i := 78) rfl rfl), tin_1 (i := 5) rfl rfl, by decide +kernel, by decide +kernel, x_pn_of (by decide +kernel)⟩
theorem wc_RX9_173 : x_cw RX9 173 yX9_joined 3 := ⟨Or.inl (tin_3 (i := 82) rfl rfl), tin_1 (i := 5) rfl rfl, by decide +kernel, by decide +kernel, x_pn_of (by decide +kernel)⟩
theorem wc_RX9_261 : x_cw RX9 261 yX9_restWithoutSign 2 := ⟨Or.inl (tin_3 (i := 85) rfl rfl), tin_1 (i := 5) rfl rfl, by decide +kernel, by decide +kernel, x_pn_of (by decide +kernel)⟩
theorem wc_RX9_274 : x_cw RX9 274 yX11_isBelow 2 := ⟨Or.inr ⟨_, nin_3 (i := 88) rfl rfl⟩, tin_1 (i := 1) rfl rfl, by decide +kernel, by decide +kernel, x_pn_of (by decide +kernel)⟩
theorem wc_RX9_265 : x_cw RX9 265 yX9_shifted 3 := ⟨Or.inl (tin_3 (i := 92) rfl rfl), tin_1 (i := 5) rfl rfl, by decide +kernel, by decide +kernel, x_pn_of (by decide +kernel)⟩
theorem wc_RX9_268 : x_cw RX9 268 yX9_compared 3 := ⟨Or.inl (tin_3 (i := 96) rfl rfl), tin_1 (i := 5) rfl rfl, by decide +kernel, by decide +kernel, x_pn_of (by decide +kernel)⟩
theorem wc_RX9_177 : x_cw RX9 177 yX9_addPiece 2 := ⟨Or.inl (tin_3 (i := 99) rfl rfl), tin_1 (i := 5) rfl rfl, by decide +kernel, by decide +kernel, x_pn_of (by decide +kernel)⟩
theorem wc_RX9_238 : x_cw RX9 238 yX9_holdTop 0 := ⟨Or.inl (tin_3 (i := 103) rfl rfl), tin_1 (i := 5) rfl rfl, by decide +kernel, by decide +kernel, x_pn_of (by decide +kernel)⟩
theorem wc_RX9_241 : x_cw RX9 241 yX8_addPiece 3 := ⟨Or.inr ⟨_, nin_3 (i := 107) rfl rfl⟩, tin_1 (i := 2) rfl rfl, by decide +kernel, by decide +kernel, x_pn_of (by decide +kernel)⟩
theorem wc_RX8_37 : x_cw RX8 37 yX5_take 1 := ⟨Or.inr ⟨_, nin_3 (i := 111) rfl rfl⟩, tin_1 (i := 3) rfl rfl, by decide +kernel, by decide +kernel, x_pn_of (by decide +kernel)⟩
theorem wc_RX9_181 : x_cw RX9 181 yX9_keep 2 := ⟨Or.inl (tin_3 (i := 115) rfl rfl), tin_1 (i := 5) rfl rfl, by decide +kernel, by decide +kernel, x_pn_of (by decide +kernel)⟩
theorem wc_RX9_234 : x_cw RX9 234 yX5_becomeBlock 3 := ⟨Or.inr ⟨_, nin_3 (i := 119) rfl rfl⟩, tin_1 (i := 3) rfl rfl, by decide +kernel, by decide +kernel, x_pn_of (by decide +kernel)⟩
theorem wc_RX5_25 : x_cw RX5 25 yX5_become 2 := ⟨Or.inl (tin_3 (i := 123) rfl rfl), tin_1 (i := 3) rfl rfl, by decide +kernel, by decide +kernel, x_pn_of (by decide +kernel)⟩
theorem wc_RX9_185 : x_cw RX9 185 yX9_ask 2 := ⟨Or.inl (tin_3 (i := 124) rfl rfl), tin_1 (i := 5) rfl rfl, by decide +kernel, by decide +kernel, x_pn_of (by decide +kernel)⟩
theorem wc_RX9_205 : x_cw RX9 205 yX9_pushBytes 2 := ⟨Or.inl (tin_3 (i := 128) rfl rfl), tin_1 (i := 5) rfl rfl, by decide +kernel, by decide +kernel, x_pn_of (by decide +kernel)⟩
theorem wc_RX9_193 : x_cw RX9 193 yX1_hasBytes 2 := ⟨Or.inr ⟨_, nin_3 (i := 132) rfl rfl⟩, tin_1 (i := 4) rfl rfl, by decide +kernel, by decide +kernel, x_pn_of (by decide +kernel)⟩
theorem wc_RX9_197 : x_cw RX9 197 yX1_bytes 2 := ⟨Or.inr ⟨_, nin_3 (i := 136) rfl rfl⟩, tin_1 (i := 4) rfl rfl, by decide +kernel, by decide +kernel, x_pn_of (by decide +kernel)⟩
theorem wc_RX1_42 : x_cw RX1 42 yX1_hasBytes 2 := ⟨Or.inl (tin_3 (i := 140) rfl rfl), tin_1 (i := 4) rfl rfl, by decide +kernel, by decide +kernel, x_pn_of (by decide +kernel)⟩
theorem wc_RX1_46 : x_cw RX1 46 yX11_number 3 := ⟨Or.inr ⟨_, nin_3 (i := 141) rfl rfl⟩, tin_1 (i := 1) rfl rfl, by decide +kernel, by decide +kernel, x_pn_of (by decide +kernel)⟩
theorem wc_RX9_208 : x_cw RX9 208 yX9_base 3 := ⟨Or.inl (tin_3 (i := 142) rfl rfl), tin_1 (i := 5) rfl rfl, by decide +kernel, by decide +kernel, x_pn_of (by decide +kernel)⟩
theorem wc_RX9_45 : x_cw RX9 45 yX9_settle 0 := ⟨Or.inl (tin_3 (i := 146) rfl rfl), tin_1 (i := 5) rfl rfl, by decide +kernel, by decide +kernel, x_pn_of (by decide +kernel)⟩
theorem wc_RX9_244 : x_cw RX9 244 yX8_only 0 := ⟨Or.inr ⟨_, nin_3 (i := 150) rfl rfl⟩, tin_1 (i := 2) rfl rfl, by decide +kernel, by decide +kernel, x_pn_of (by decide +kernel)⟩
theorem wc_RX9_248 : x_cw RX9 248 yX5_take 1 := ⟨Or.inr ⟨_, nin_3 (i := 151) rfl rfl⟩, tin_1 (i := 3) rfl rfl, by decide +kernel, by decide +kernel, x_pn_of (by decide +kernel)⟩
theorem wc_RX9_255 : x_cw RX9 255 yX9_takeBase 1 := ⟨Or.inl (tin_3 (i := 152) rfl rfl), tin_1 (i := 5) rfl rfl, by decide +kernel, by decide +kernel, x_pn_of (by decide +kernel)⟩
theorem wc_RX9_231 : x_cw RX9 231 yX1_cfaValue 0 := ⟨Or.inr ⟨_, nin_3 (i := 156) rfl rfl⟩, tin_1 (i := 4) rfl rfl, by decide +kernel, by decide +kernel, x_pn_of (by decide +kernel)⟩
theorem wc_RX1_34 : x_cw RX1 34 yX1_registerValue 1 := ⟨Or.inl (tin_3 (i := 160) rfl rfl), tin_1 (i := 4) rfl rfl, by decide +kernel, by decide +kernel, x_pn_of (by decide +kernel)⟩
theorem wc_RX11_146 : x_cw RX11 146 yX8_take 1 := ⟨Or.inr ⟨_, nin_3 (i := 161) rfl rfl⟩, tin_1 (i := 2) rfl rfl, by decide +kernel, by decide +kernel, x_pn_of (by decide +kernel)⟩
theorem wc_RX8_33 : x_cw RX8 33 yX8_count 0 := ⟨Or.inl (tin_3 (i := 165) rfl rfl), tin_1 (i := 2) rfl rfl, by decide +kernel, by decide +kernel, x_pn_of (by decide +kernel)⟩
theorem wc_RX11_159 : x_cw RX11 159 yX11_tell 4 := ⟨Or.inl (tin_3 (i := 169) rfl rfl), tin_1 (i := 1) rfl rfl, by decide +kernel, by decide +kernel, x_pn_of (by decide +kernel)⟩
theorem wc_RL_71 : x_cw RL 71 yX11_find 4 := ⟨Or.inl (tin_3 (i := 173) rfl rfl), tin_1 (i := 1) rfl rfl, by decide +kernel, by decide +kernel, x_pn_of (by decide +kernel)⟩
theorem wc_RX11_136 : x_cw RX11 136 yX11_search 4 := ⟨Or.inl (tin_3 (i := 177) rfl rfl), tin_1 (i := 1) rfl rfl, by decide +kernel, by decide +kernel, x_pn_of (by decide +kernel)⟩
theorem wc_RX11_163 : x_cw RX11 163 yX11_endless 1 := ⟨Or.inl (tin_3 (i := 181) rfl rfl), tin_1 (i := 1) rfl rfl, by decide +kernel, by decide +kernel, x_pn_of (by decide +kernel)⟩
theorem wc_RX11_167 : x_cw RX11 167 yX11_number 3 := ⟨Or.inl (tin_3 (i := 185) rfl rfl), tin_1 (i := 1) rfl rfl, by decide +kernel, by decide +kernel, x_pn_of (by decide +kernel)⟩
theorem wc_RX11_173 : x_cw RX11 173 yX11_isBelow 2 := ⟨Or.inl (tin_3 (i := 187) rfl rfl), tin_1 (i := 1) rfl rfl, by decide +kernel, by decide +kernel, x_pn_of (by decide +kernel)⟩
theorem wc_RX11_177 : x_cw RX11 177 yX8_clear 0 := ⟨Or.inr ⟨_, nin_3 (i := 188) rfl rfl⟩, tin_1 (i := 2) rfl rfl, by decide +kernel, by decide +kernel, x_pn_of (by decide +kernel)⟩
theorem wc_RL_76 : x_cw RL 76 yX11_told 1 := ⟨Or.inl (tin_3 (i := 189) rfl rfl), tin_1 (i := 1) rfl rfl, by decide +kernel, by decide +kernel, x_pn_of (by decide +kernel)⟩
theorem wc_RL_80 : x_cw RL 80 yX11_parts 0 := ⟨Or.inl (tin_3 (i := 193) rfl rfl), tin_1 (i := 1) rfl rfl, by decide +kernel, by decide +kernel, x_pn_of (by decide +kernel)⟩
theorem wc_RX11_184 : x_cw RX11 184 yX8_count 0 := ⟨Or.inr ⟨_, nin_3 (i := 197) rfl rfl⟩, tin_1 (i := 2) rfl rfl, by decide +kernel, by decide +kernel, x_pn_of (by decide +kernel)⟩
theorem wc_RL_85 : x_cw RL 85 yX11_part 2 := ⟨Or.inl (tin_3 (i := 198) rfl rfl), tin_1 (i := 1) rfl rfl, by decide +kernel, by decide +kernel, x_pn_of (by decide +kernel)⟩
theorem wc_RX11_207 : x_cw RX11 207 yX5_blockByte 1 := ⟨Or.inr ⟨_, nin_3 (i := 203) rfl rfl⟩, tin_1 (i := 3) rfl rfl, by decide +kernel, by decide +kernel, x_pn_of (by decide +kernel)⟩
theorem wc_RX5_36 : x_cw RX5 36 yX11_byteAt 2 := ⟨Or.inr ⟨_, nin_3 (i := 207) rfl rfl⟩, tin_1 (i := 1) rfl rfl, by decide +kernel, by decide +kernel, x_pn_of (by decide +kernel)⟩
theorem wc_RL_90 : x_cw RL 90 yX11_fetch 1 := ⟨Or.inl (tin_3 (i := 210) rfl rfl), tin_1 (i := 1) rfl rfl, by decide +kernel, by decide +kernel, x_pn_of (by decide +kernel)⟩
theorem wc_RX11_211 : x_cw RX11 211 yJ7_fill_53178 2 := ⟨Or.inl (tin_3 (i := 214) rfl rfl), tin_1 (i := 11) rfl rfl, by decide +kernel, by decide +kernel, x_pn_of (by decide +kernel)⟩
theorem wc_RX11_221 : x_cw RX11 221 yX1_bitOf 2 := ⟨Or.inr ⟨_, nin_3 (i := 217) rfl rfl⟩, tin_1 (i := 4) rfl rfl, by decide +kernel, by decide +kernel, x_pn_of (by decide +kernel)⟩
theorem wc_RX1_57 : x_cw RX1 57 yX5_blockByte 1 := ⟨Or.inr ⟨_, nin_3 (i := 221) rfl rfl⟩, tin_1 (i := 3) rfl rfl, by decide +kernel, by decide +kernel, x_pn_of (by decide +kernel)⟩
theorem wc_RL_94 : x_cw RL 94 yX11_store 1 := ⟨Or.inl (tin_3 (i := 222) rfl rfl), tin_1 (i := 1) rfl rfl, by decide +kernel, by decide +kernel, x_pn_of (by decide +kernel)⟩
theorem wc_RX11_225 : x_cw RX11 225 yX1_putBit 3 := ⟨Or.inr ⟨_, nin_3 (i := 226) rfl rfl⟩, tin_1 (i := 4) rfl rfl, by decide +kernel, by decide +kernel, x_pn_of (by decide +kernel)⟩
theorem wc_RL_98 : x_cw RL 98 yX11_out 1 := ⟨Or.inl (tin_3 (i := 231) rfl rfl), tin_1 (i := 1) rfl rfl, by decide +kernel, by decide +kernel, x_pn_of (by decide +kernel)⟩
theorem wc_RL_102 : x_cw RL 102 yX11_compile 0 := ⟨Or.inl (tin_3 (i := 235) rfl rfl), tin_1 (i := 1) rfl rfl, by decide +kernel, by decide +kernel, x_pn_of (by decide +kernel)⟩
theorem wc_RX11_229 : x_cw RX11 229 yX4_begin 2 := ⟨Or.inr ⟨_, nin_3 (i := 239) rfl rfl⟩, tin_1 (i := 7) rfl rfl, by decide +kernel, by decide +kernel, x_pn_of (by decide +kernel)⟩
theorem wc_RX4_28 : x_cw RX4 28 yX7_readAll 2 := ⟨Or.inr ⟨_, nin_4 (i := 3) rfl rfl⟩, tin_1 (i := 8) rfl rfl, by decide +kernel, by decide +kernel, x_pn_of (by decide +kernel)⟩
theorem wc_RX7_28 : x_cw RX7 28 yJ9_min_7cf53 2 := ⟨Or.inl (tin_4 (i := 7) rfl rfl), tin_1 (i := 12) rfl rfl, by decide +kernel, by decide +kernel, x_pn_of (by decide +kernel)⟩
theorem wc_RX7_47 : x_cw RX7 47 yX7_readToken 0 := ⟨Or.inl (tin_4 (i := 8) rfl rfl), tin_1 (i := 8) rfl rfl, by decide +kernel, by decide +kernel, x_pn_of (by decide +kernel)⟩
theorem wc_RX7_57 : x_cw RX7 57 yX7_letter 1 := ⟨Or.inl (tin_4 (i := 12) rfl rfl), tin_1 (i := 8) rfl rfl, by decide +kernel, by decide +kernel, x_pn_of (by decide +kernel)⟩
theorem wc_RX7_61 : x_cw RX7 61 yX7_isSmall 1 := ⟨Or.inl (tin_4 (i := 16) rfl rfl), tin_1 (i := 8) rfl rfl, by decide +kernel, by decide +kernel, x_pn_of (by decide +kernel)⟩
theorem wc_RX7_65 : x_cw RX7 65 yX7_readWord 0 := ⟨Or.inl (tin_4 (i := 19) rfl rfl), tin_1 (i := 8) rfl rfl, by decide +kernel, by decide +kernel, x_pn_of (by decide +kernel)⟩
theorem wc_RX7_68 : x_cw RX7 68 yX7_isDigit 1 := ⟨Or.inl (tin_4 (i := 23) rfl rfl), tin_1 (i := 8) rfl rfl, by decide +kernel, by decide +kernel, x_pn_of (by decide +kernel)⟩
theorem wc_RX7_81 : x_cw RX7 81 yX7_wordKind 0 := ⟨Or.inl (tin_4 (i := 26) rfl rfl), tin_1 (i := 8) rfl rfl, by decide +kernel, by decide +kernel, x_pn_of (by decide +kernel)⟩
theorem wc_RX7_87 : x_cw RX7 87 yX7_isWord 1 := ⟨Or.inl (tin_4 (i := 31) rfl rfl), tin_1 (i := 8) rfl rfl, by decide +kernel, by decide +kernel, x_pn_of (by decide +kernel)⟩
theorem wc_RX7_109 : x_cw RX7 109 yJ0_length_8abf5 0 := ⟨Or.inl (tin_4 (i := 35) rfl rfl), tin_1 (i := 14) rfl rfl, by decide +kernel, by decide +kernel, x_pn_of (by decide +kernel)⟩
theorem wc_RJ0_335 : x_cw RJ0 335 yJ0_coder_7d493 0 := ⟨Or.inl (tin_4 (i := 39) rfl rfl), tin_1 (i := 14) rfl rfl, by decide +kernel, by decide +kernel, x_pn_of (by decide +kernel)⟩
theorem wc_RX7_114 : x_cw RX7 114 yJ0_charAt_5068e 1 := ⟨Or.inl (tin_4 (i := 45) rfl rfl), tin_1 (i := 14) rfl rfl, by decide +kernel, by decide +kernel, x_pn_of (by decide +kernel)⟩
theorem wc_RJ0_492 : x_cw RJ0 492 yJ0_isLatin1_aae02 0 := ⟨Or.inl (tin_4 (i := 49) rfl rfl), tin_1 (i := 14) rfl rfl, by decide +kernel, by decide +kernel, x_pn_of (by decide +kernel)⟩
theorem wc_RJ0_495 : x_cw RJ0 495 yJ1_charAt_3b067 2 := ⟨Or.inl (tin_4 (i := 53) rfl rfl), tin_1 (i := 15) rfl rfl, by decide +kernel, by decide +kernel, x_pn_of (by decide +kernel)⟩
theorem wc_RJ1_9 : x_cw RJ1 9 yJ0_checkIndex_df160 2 := ⟨Or.inl (tin_4 (i := 56) rfl rfl), tin_1 (i := 14) rfl rfl, by decide +kernel, by decide +kernel, x_pn_of (by decide +kernel)⟩
theorem wc_RJ0_1059 : x_cw RJ0 1059 yJ3_checkIndex_8e157 3 := ⟨Or.inl (tin_4 (i := 61) rfl rfl), tin_1 (i := 16) rfl rfl, by decide +kernel, by decide +kernel, x_pn_of (by decide +kernel)⟩
theorem wc_RJ0_498 : x_cw RJ0 498 yJ2_charAt_3b067 2 := ⟨Or.inl (tin_4 (i := 64) rfl rfl), tin_1 (i := 17) rfl rfl, by decide +kernel, by decide +kernel, x_pn_of (by decide +kernel)⟩
theorem wc_RJ2_67 : x_cw RJ2 67 yJ2_checkIndex_2214a 2 := ⟨Or.inl (tin_4 (i := 67) rfl rfl), tin_1 (i := 17) rfl rfl, by decide +kernel, by decide +kernel, x_pn_of (by decide +kernel)⟩
theorem wc_RJ2_48 : x_cw RJ2 48 yJ2_length_9d52b 1 := ⟨Or.inl (tin_4 (i := 70) rfl rfl), tin_1 (i := 17) rfl rfl, by decide +kernel, by decide +kernel, x_pn_of (by decide +kernel)⟩
theorem wc_RJ2_414 : x_cw RJ2 414 yJ0_checkIndex_df160 2 := ⟨Or.inl (tin_4 (i := 73) rfl rfl), tin_1 (i := 14) rfl rfl, by decide +kernel, by decide +kernel, x_pn_of (by decide +kernel)⟩
theorem wc_RJ2_71 : x_cw RJ2 71 yJ2_getChar_3b067 2 := ⟨Or.inl (tin_4 (i := 74) rfl rfl), tin_1 (i := 17) rfl rfl, by decide +kernel, by decide +kernel, x_pn_of (by decide +kernel)⟩
theorem wc_RX7_71 : x_cw RX7 71 yX7_readNumber 0 := ⟨Or.inl (tin_4 (i := 92) rfl rfl), tin_1 (i := 8) rfl rfl, by decide +kernel, by decide +kernel, x_pn_of (by decide +kernel)⟩
theorem wc_RX7_74 : x_cw RX7 74 yX7_readAt 0 := ⟨Or.inl (tin_4 (i := 97) rfl rfl), tin_1 (i := 8) rfl rfl, by decide +kernel, by decide +kernel, x_pn_of (by decide +kernel)⟩
theorem wc_RX7_77 : x_cw RX7 77 yX7_readSign 1 := ⟨Or.inl (tin_4 (i := 101) rfl rfl), tin_1 (i := 8) rfl rfl, by decide +kernel, by decide +kernel, x_pn_of (by decide +kernel)⟩
theorem wc_RX7_120 : x_cw RX7 120 yX7_signOfTwo 2 := ⟨Or.inl (tin_4 (i := 105) rfl rfl), tin_1 (i := 8) rfl rfl, by decide +kernel, by decide +kernel, x_pn_of (by decide +kernel)⟩
theorem wc_RX7_125 : x_cw RX7 125 yJ0_indexOf_0f7a4 1 := ⟨Or.inl (tin_4 (i := 109) rfl rfl), tin_1 (i := 14) rfl rfl, by decide +kernel, by decide +kernel, x_pn_of (by decide +kernel)⟩
theorem wc_RJ0_633 : x_cw RJ0 633 yJ0_indexOf_7cf53 2 := ⟨Or.inl (tin_4 (i := 113) rfl rfl), tin_1 (i := 14) rfl rfl, by decide +kernel, by decide +kernel, x_pn_of (by decide +kernel)⟩
theorem wc_RJ0_505 : x_cw RJ0 505 yJ0_length_8abf5 0 := ⟨Or.inl (tin_4 (i := 117) rfl rfl), tin_1 (i := 14) rfl rfl, by decide +kernel, by decide +kernel, x_pn_of (by decide +kernel)⟩
theorem wc_RJ0_637 : x_cw RJ0 637 yJ1_indexOf_4cfef 4 := ⟨Or.inl (tin_4 (i := 118) rfl rfl), tin_1 (i := 15) rfl rfl, by decide +kernel, by decide +kernel, x_pn_of (by decide +kernel)⟩
theorem wc_RJ1_88 : x_cw RJ1 88 yJ1_canEncode_9a6ad 1 := ⟨Or.inl (tin_4 (i := 121) rfl rfl), tin_1 (i := 15) rfl rfl, by decide +kernel, by decide +kernel, x_pn_of (by decide +kernel)⟩
theorem wc_RJ1_92 : x_cw RJ1 92 yJ9_max_7cf53 2 := ⟨Or.inl (tin_4 (i := 124) rfl rfl), tin_1 (i := 12) rfl rfl, by decide +kernel, by decide +kernel, x_pn_of (by decide +kernel)⟩
theorem wc_RJ1_38 : x_cw RJ1 38 yJ9_min_7cf53 2 := ⟨Or.inl (tin_4 (i := 125) rfl rfl), tin_1 (i := 12) rfl rfl, by decide +kernel, by decide +kernel, x_pn_of (by decide +kernel)⟩
theorem wc_RJ1_95 : x_cw RJ1 95 yJ1_indexOfChar_4cfef 4 := ⟨Or.inl (tin_4 (i := 126) rfl rfl), tin_1 (i := 15) rfl rfl, by decide +kernel, by decide +kernel, x_pn_of (by decide +kernel)⟩
theorem wc_RJ0_640 : x_cw RJ0 640 yJ2_indexOf_4cfef 4 := ⟨Or.inl (tin_4 (i := 129) rfl rfl), tin_1 (i := 17) rfl rfl, by decide +kernel, by decide +kernel, x_pn_of (by decide +kernel)⟩
theorem wc_RJ2_224 : x_cw RJ2 224 yJ9_max_7cf53 2 := ⟨Or.inl (tin_4 (i := 132) rfl rfl), tin_1 (i := 12) rfl rfl, by decide +kernel, by decide +kernel, x_pn_of (by decide +kernel)⟩
theorem wc_RJ2_183 : x_cw RJ2 183 yJ9_min_7cf53 2 := ⟨Or.inl (tin_4 (i := 133) rfl rfl), tin_1 (i := 12) rfl rfl, by decide +kernel, by decide +kernel, x_pn_of (by decide +kernel)⟩
theorem wc_RJ2_228 : x_cw RJ2 228 yJ2_indexOfChar_4cfef 4 := ⟨Or.inl (tin_4 (i := 135) rfl rfl), tin_1 (i := 17) rfl rfl, by decide +kernel, by decide +kernel, x_pn_of (by decide +kernel)⟩
theorem wc_RJ2_96 : x_cw RJ2 96 yJ2_checkBoundsBeginEnd_d044e 3 := ⟨Or.inl (tin_4 (i := 138) rfl rfl), tin_1 (i := 17) rfl rfl, by decide +kernel, by decide +kernel, x_pn_of (by decide +kernel)⟩
theorem wc_RJ2_241 : x_cw RJ2 241 yJ0_checkBoundsBeginEnd_23922 3 := ⟨Or.inl (tin_4 (i := 141) rfl rfl), tin_1 (i := 14) rfl rfl, by decide +kernel, by decide +kernel, x_pn_of (by decide +kernel)⟩
theorem wc_RJ0_1062 : x_cw RJ0 1062 yJ3_checkFromToIndex_8c36e 4 := ⟨Or.inl (tin_4 (i := 144) rfl rfl), tin_1 (i := 16) rfl rfl, by decide +kernel, by decide +kernel, x_pn_of (by decide +kernel)⟩
theorem wc_RJ2_244 : x_cw RJ2 244 yJ2_indexOfCharUnsafe_4cfef 4 := ⟨Or.inl (tin_4 (i := 147) rfl rfl), tin_1 (i := 17) rfl rfl, by decide +kernel, by decide +kernel, x_pn_of (by decide +kernel)⟩
theorem wc_RJ2_232 : x_cw RJ2 232 yJ2_indexOfSupplementary_4cfef 4 := ⟨Or.inl (tin_4 (i := 150) rfl rfl), tin_1 (i := 17) rfl rfl, by decide +kernel, by decide +kernel, x_pn_of (by decide +kernel)⟩
theorem wc_RJ2_164 : x_cw RJ2 164 yJ11_isValidCodePoint_9a6ad 1 := ⟨Or.inl (tin_4 (i := 153) rfl rfl), tin_1 (i := 18) rfl rfl, by decide +kernel, by decide +kernel, x_pn_of (by decide +kernel)⟩
theorem wc_RJ2_157 : x_cw RJ2 157 yJ11_highSurrogate_5068e 1 := ⟨Or.inl (tin_4 (i := 156) rfl rfl), tin_1 (i := 18) rfl rfl, by decide +kernel, by decide +kernel, x_pn_of (by decide +kernel)⟩
theorem wc_RJ2_161 : x_cw RJ2 161 yJ11_lowSurrogate_5068e 1 := ⟨Or.inl (tin_4 (i := 160) rfl rfl), tin_1 (i := 18) rfl rfl, by decide +kernel, by decide +kernel, x_pn_of (by decide +kernel)⟩
theorem wc_RX4_48 : x_cw RX4 48 yX4_take 0 := ⟨Or.inl (tin_4 (i := 164) rfl rfl), tin_1 (i := 7) rfl rfl, by decide +kernel, by decide +kernel, x_pn_of (by decide +kernel)⟩
theorem wc_RX11_232 : x_cw RX11 232 yX4_goesOn 0 := ⟨Or.inr ⟨_, nin_4 (i := 168) rfl rfl⟩, tin_1 (i := 7) rfl rfl, by decide +kernel, by decide +kernel, x_pn_of (by decide +kernel)⟩
theorem wc_RX11_236 : x_cw RX11 236 yX4_readDeclaration 0 := ⟨Or.inr ⟨_, nin_4 (i := 172) rfl rfl⟩, tin_1 (i := 7) rfl rfl, by decide +kernel, by decide +kernel, x_pn_of (by decide +kernel)⟩
theorem wc_RX4_73 : x_cw RX4 73 yX7_letters 1 := ⟨Or.inr ⟨_, nin_4 (i := 176) rfl rfl⟩, tin_1 (i := 8) rfl rfl, by decide +kernel, by decide +kernel, x_pn_of (by decide +kernel)⟩
theorem wc_RX7_128 : x_cw RX7 128 yJ7_copyOfRange_feecc 3 := ⟨Or.inl (tin_4 (i := 180) rfl rfl), tin_1 (i := 11) rfl rfl, by decide +kernel, by decide +kernel, x_pn_of (by decide +kernel)⟩
theorem wc_RJ7_351 : x_cw RJ7 351 yJ7_copyOfRangeInt_feecc 3 := ⟨Or.inl (tin_4 (i := 183) rfl rfl), tin_1 (i := 11) rfl rfl, by decide +kernel, by decide +kernel, x_pn_of (by decide +kernel)⟩
theorem wc_RJ7_343 : x_cw RJ7 343 yJ7_checkLength_df160 2 := ⟨Or.inl (tin_4 (i := 186) rfl rfl), tin_1 (i := 11) rfl rfl, by decide +kernel, by decide +kernel, x_pn_of (by decide +kernel)⟩
theorem wc_RX4_69 : x_cw RX4 69 yX4_refuse 1 := ⟨Or.inl (tin_4 (i := 189) rfl rfl), tin_1 (i := 7) rfl rfl, by decide +kernel, by decide +kernel, x_pn_of (by decide +kernel)⟩
theorem wc_RX4_77 : x_cw RX4 77 yX4_isKnown 1 := ⟨Or.inl (tin_4 (i := 193) rfl rfl), tin_1 (i := 7) rfl rfl, by decide +kernel, by decide +kernel, x_pn_of (by decide +kernel)⟩
theorem wc_RX4_100 : x_cw RX4 100 yX4_areSame 2 := ⟨Or.inl (tin_4 (i := 197) rfl rfl), tin_1 (i := 7) rfl rfl, by decide +kernel, by decide +kernel, x_pn_of (by decide +kernel)⟩
theorem wc_RX4_81 : x_cw RX4 81 yX10_init 2 := ⟨Or.inr ⟨_, nin_4 (i := 201) rfl rfl⟩, tin_1 (i := 19) rfl rfl, by decide +kernel, by decide +kernel, x_pn_of (by decide +kernel)⟩
theorem wf_RX10_26 : x_fl vwCl x_Ts x_AO RX10 26 10 0 RX10 TX10 7 := ⟨rfl, by decide, Or.inl (tin_4 (i := 207) rfl rfl)⟩
theorem wf_RX10_26F : Cond.fieldLink RX10 26 (TX10 0).1 (TX10 0).2.1 (TX10 0).2.2.1 ∈ x_Ts := tin_4 (i := 207) rfl rfl
theorem wf_RX4_97 : x_fl vwCl x_Ts x_AO RX4 97 10 0 RX10 TX10 7 := ⟨rfl, by decide, Or.inr ⟨_, nin_4 (i := 208) rfl rfl⟩⟩
theorem wf_RX11_262 : x_fl vwCl x_Ts x_AO RX11 262 10 0 RX10 TX10 7 := ⟨rfl, by decide, Or.inr ⟨_, nin_4 (i := 209) rfl rfl⟩⟩
theorem wf_RX10_29 : x_fl vwCl x_Ts x_AO RX10 29 10 1 RX10 TX10 7 := ⟨rfl, by decide, Or.inl (tin_4 (i := 210) rfl rfl)⟩
theorem wf_RX10_29F : Cond.fieldLink RX10 29 (TX10 1).1 (TX10 1).2.1 (TX10 1).2.2.1 ∈ x_Ts := tin_4 (i := 210) rfl rfl
theorem wf_RX11_252 : x_fl vwCl x_Ts x_AO RX11 252 10 1 RX10 TX10 7 := ⟨rfl, by decide, Or.inr ⟨_, nin_4 (i := 211) rfl rfl⟩⟩
theorem wf_RX10_9 : x_fl vwCl x_Ts x_AO RX10 9 10 2 RX10 TX10 7 := ⟨rfl, by decide, Or.inl (tin_4 (i := 212) rfl rfl)⟩
theorem wf_RX10_9F : Cond.fieldLink RX10 9 (TX10 2).1 (TX10 2).2.1 (TX10 2).2.2.1 ∈ x_Ts := tin_4 (i := 212) rfl rfl
theorem wf_RX0_32 : x_fl vwCl x_Ts x_AO RX0 32 10 2 RX10 TX10 7 := ⟨rfl, by decide, Or.inr ⟨_, nin_4 (i := 213) rfl rfl⟩⟩
theorem wf_RX2_78 : x_fl vwCl x_Ts x_AO RX2 78 10 2 RX10 TX10 7 := ⟨rfl, by decide, Or.inr ⟨_, nin_4 (i := 214) rfl rfl⟩⟩
theorem wf_RX4_111 : x_fl vwCl x_Ts x_AO RX4 111 10 2 RX10 TX10 7 := ⟨rfl, by decide, Or.inr ⟨_, nin_4 (i := 215) rfl rfl⟩⟩
theorem wf_RX10_13 : x_fl vwCl x_Ts x_AO RX10 13 10 3 RX10 TX10 7 := ⟨rfl, by decide, Or.inl (tin_4 (i := 216) rfl rfl)⟩
theorem wf_RX10_13F : Cond.fieldLink RX10 13 (TX10 3).1 (TX10 3).2.1 (TX10 3).2.2.1 ∈ x_Ts := tin_4 (i := 216) rfl rfl
theorem wf_RX0_40 : x_fl vwCl x_Ts x_AO RX0 40 10 3 RX10 TX10 7 := ⟨rfl, by decide, Or.inr ⟨_, nin_4 (i := 217) rfl rfl⟩⟩
theorem wf_RX2_86 : x_fl vwCl x_Ts x_AO RX2 86 10 3 RX10 TX10 7 := ⟨rfl, by decide, Or.inr ⟨_, nin_4 (i := 218) rfl rfl⟩⟩
theorem wf_RX4_114 : x_fl vwCl x_Ts x_AO RX4 114 10 3 RX10 TX10 7 := ⟨rfl, by decide, Or.inr ⟨_, nin_4 (i := 219) rfl rfl⟩⟩
theorem wf_RX10_18 : x_fl vwCl x_Ts x_AO RX10 18 10 4 RX10 TX10 7 := ⟨rfl, by decide, Or.inl (tin_4 (i := 220) rfl rfl)⟩
theorem wf_RX10_18F : Cond.fieldLink RX10 18 (TX10 4).1 (TX10 4).2.1 (TX10 4).2.2.1 ∈ x_Ts := tin_4 (i := 220) rfl rfl
theorem wf_RX0_24 : x_fl vwCl x_Ts x_AO RX0 24 10 4 RX10 TX10 7 := ⟨rfl, by decide, Or.inr ⟨_, nin_4 (i := 221) rfl rfl⟩⟩
theorem wf_RX2_74 : x_fl vwCl x_Ts x_AO RX2 74 10 4 RX10 TX10 7 := ⟨rfl, by decide, Or.inr ⟨_, nin_4 (i := 222) rfl rfl⟩⟩
theorem wf_RX4_90 : x_fl vwCl x_Ts x_AO RX4 90 10 4 RX10 TX10 7 := ⟨rfl, by decide, Or.inr ⟨_, nin_4 (i := 223) rfl rfl⟩⟩
theorem wf_RX0_19 : x_fl vwCl x_Ts x_AO RX0 19 10 5 RX10 TX10 7 := ⟨rfl, by decide, Or.inr ⟨_, nin_4 (i := 224) rfl rfl⟩⟩
theorem wf_RX2_69 : x_fl vwCl x_Ts x_AO RX2 69 10 5 RX10 TX10 7 := ⟨rfl, by decide, Or.inr ⟨_, nin_4 (i := 225) rfl rfl⟩⟩
theorem wf_RX4_108 : x_fl vwCl x_Ts x_AO RX4 108 10 5 RX10 TX10 7 := ⟨rfl, by decide, Or.inr ⟨_, nin_4 (i := 226) rfl rfl⟩⟩
theorem wf_RX11_259 : x_fl vwCl x_Ts x_AO RX11 259 10 5 RX10 TX10 7 := ⟨rfl, by decide, Or.inr ⟨_, nin_4 (i := 227) rfl rfl⟩⟩
theorem wf_RX10_22 : x_fl vwCl x_Ts x_AO RX10 22 10 6 RX10 TX10 7 := ⟨rfl, by decide, Or.inl (tin_4 (i := 228) rfl rfl)⟩
theorem wf_RX11_250 : x_fl vwCl x_Ts x_AO RX11 250 10 6 RX10 TX10 7 := ⟨rfl, by decide, Or.inr ⟨_, nin_4 (i := 229) rfl rfl⟩⟩
theorem wc_RX4_83 : x_cw RX4 83 yX4_expect 1 := ⟨Or.inl (tin_5 (i := 6) rfl rfl), tin_1 (i := 7) rfl rfl, by decide +kernel, by decide +kernel, x_pn_of (by decide +kernel)⟩
theorem wc_RX4_86 : x_cw RX4 86 yX4_readRows 1 := ⟨Or.inl (tin_5 (i := 10) rfl rfl), tin_1 (i := 7) rfl rfl, by decide +kernel, by decide +kernel, x_pn_of (by decide +kernel)⟩
theorem wc_RX4_104 : x_cw RX4 104 yX4_readRange 2 := ⟨Or.inl (tin_5 (i := 14) rfl rfl), tin_1 (i := 7) rfl rfl, by decide +kernel, by decide +kernel, x_pn_of (by decide +kernel)⟩
theorem wc_RX4_93 : x_cw RX4 93 yX4_readLocation 0 := ⟨Or.inl (tin_5 (i := 18) rfl rfl), tin_1 (i := 7) rfl rfl, by decide +kernel, by decide +kernel, x_pn_of (by decide +kernel)⟩
theorem wc_RX4_117 : x_cw RX4 117 yX4_raise 0 := ⟨Or.inl (tin_5 (i := 22) rfl rfl), tin_1 (i := 7) rfl rfl, by decide +kernel, by decide +kernel, x_pn_of (by decide +kernel)⟩
theorem wc_RX4_121 : x_cw RX4 121 yX4_readPlace 0 := ⟨Or.inl (tin_5 (i := 26) rfl rfl), tin_1 (i := 7) rfl rfl, by decide +kernel, by decide +kernel, x_pn_of (by decide +kernel)⟩
theorem wc_RX4_143 : x_cw RX4 143 yX6_init 0 := ⟨Or.inr ⟨_, nin_5 (i := 32) rfl rfl⟩, tin_1 (i := 20) rfl rfl, by decide +kernel, by decide +kernel, x_pn_of (by decide +kernel)⟩
theorem wf_RX0_74 : x_fl vwCl x_Ts x_AO RX0 74 6 0 RX6 TX6 6 := ⟨rfl, by decide, Or.inr ⟨_, nin_5 (i := 36) rfl rfl⟩⟩
theorem wf_RX2_89 : x_fl vwCl x_Ts x_AO RX2 89 6 0 RX6 TX6 6 := ⟨rfl, by decide, Or.inr ⟨_, nin_5 (i := 37) rfl rfl⟩⟩
theorem wf_RX4_144 : x_fl vwCl x_Ts x_AO RX4 144 6 0 RX6 TX6 6 := ⟨rfl, by decide, Or.inr ⟨_, nin_5 (i := 38) rfl rfl⟩⟩
theorem wf_RX0_77 : x_fl vwCl x_Ts x_AO RX0 77 6 1 RX6 TX6 6 := ⟨rfl, by decide, Or.inr ⟨_, nin_5 (i := 39) rfl rfl⟩⟩
theorem wf_RX2_92 : x_fl vwCl x_Ts x_AO RX2 92 6 1 RX6 TX6 6 := ⟨rfl, by decide, Or.inr ⟨_, nin_5 (i := 40) rfl rfl⟩⟩
theorem wf_RX4_149 : x_fl vwCl x_Ts x_AO RX4 149 6 1 RX6 TX6 6 := ⟨rfl, by decide, Or.inr ⟨_, nin_5 (i := 41) rfl rfl⟩⟩
theorem wf_RX0_81 : x_fl vwCl x_Ts x_AO RX0 81 6 2 RX6 TX6 6 := ⟨rfl, by decide, Or.inr ⟨_, nin_5 (i := 42) rfl rfl⟩⟩
theorem wf_RX2_100 : x_fl vwCl x_Ts x_AO RX2 100 6 2 RX6 TX6 6 := ⟨rfl, by decide, Or.inr ⟨_, nin_5 (i := 43) rfl rfl⟩⟩
theorem wf_RX4_154 : x_fl vwCl x_Ts x_AO RX4 154 6 2 RX6 TX6 6 := ⟨rfl, by decide, Or.inr ⟨_, nin_5 (i := 44) rfl rfl⟩⟩
theorem wf_RX2_108 : x_fl vwCl x_Ts x_AO RX2 108 6 3 RX6 TX6 6 := ⟨rfl, by decide, Or.inr ⟨_, nin_5 (i := 45) rfl rfl⟩⟩
theorem wf_RX0_89 : x_fl vwCl x_Ts x_AO RX0 89 6 3 RX6 TX6 6 := ⟨rfl, by decide, Or.inr ⟨_, nin_5 (i := 46) rfl rfl⟩⟩
theorem wf_RX4_162 : x_fl vwCl x_Ts x_AO RX4 162 6 3 RX6 TX6 6 := ⟨rfl, by decide, Or.inr ⟨_, nin_5 (i := 47) rfl rfl⟩⟩
theorem wf_RX6_9 : x_fl vwCl x_Ts x_AO RX6 9 6 4 RX6 TX6 6 := ⟨rfl, by decide, Or.inl (tin_5 (i := 48) rfl rfl)⟩
theorem wf_RX2_48 : x_fl vwCl x_Ts x_AO RX2 48 6 4 RX6 TX6 6 := ⟨rfl, by decide, Or.inr ⟨_, nin_5 (i := 49) rfl rfl⟩⟩
theorem wf_RX0_57 : x_fl vwCl x_Ts x_AO RX0 57 6 4 RX6 TX6 6 := ⟨rfl, by decide, Or.inr ⟨_, nin_5 (i := 50) rfl rfl⟩⟩
theorem wf_RX4_140 : x_fl vwCl x_Ts x_AO RX4 140 6 4 RX6 TX6 6 := ⟨rfl, by decide, Or.inr ⟨_, nin_5 (i := 51) rfl rfl⟩⟩
theorem wf_RX2_65 : x_fl vwCl x_Ts x_AO RX2 65 6 5 RX6 TX6 6 := ⟨rfl, by decide, Or.inr ⟨_, nin_5 (i := 52) rfl rfl⟩⟩
theorem wf_RX0_70 : x_fl vwCl x_Ts x_AO RX0 70 6 5 RX6 TX6 6 := ⟨rfl, by decide, Or.inr ⟨_, nin_5 (i := 53) rfl rfl⟩⟩
theorem wf_RX4_132 : x_fl vwCl x_Ts x_AO RX4 132 6 5 RX6 TX6 6 := ⟨rfl, by decide, Or.inr ⟨_, nin_5 (i := 54) rfl rfl⟩⟩
theorem wc_RX4_128 : x_cw RX4 128 yX4_beginsPlace 1 := ⟨Or.inl (tin_5 (i := 68) rfl rfl), tin_1 (i := 7) rfl rfl, by decide +kernel, by decide +kernel, x_pn_of (by decide +kernel)⟩
theorem wc_RX4_145 : x_cw RX4 145 yX4_refuseHighRegister 0 := ⟨Or.inl (tin_5 (i := 71) rfl rfl), tin_1 (i := 7) rfl rfl, by decide +kernel, by decide +kernel, x_pn_of (by decide +kernel)⟩
theorem wc_RX4_150 : x_cw RX4 150 yX4_readChoice 0 := ⟨Or.inl (tin_5 (i := 76) rfl rfl), tin_1 (i := 7) rfl rfl, by decide +kernel, by decide +kernel, x_pn_of (by decide +kernel)⟩
theorem wc_RX4_177 : x_cw RX4 177 yX4_readLevel 1 := ⟨Or.inl (tin_5 (i := 80) rfl rfl), tin_1 (i := 7) rfl rfl, by decide +kernel, by decide +kernel, x_pn_of (by decide +kernel)⟩
theorem wc_RX4_195 : x_cw RX4 195 yX4_readUnary 0 := ⟨Or.inl (tin_5 (i := 84) rfl rfl), tin_1 (i := 7) rfl rfl, by decide +kernel, by decide +kernel, x_pn_of (by decide +kernel)⟩
theorem wc_RX4_183 : x_cw RX4 183 yX3_init 2 := ⟨Or.inr ⟨_, nin_5 (i := 90) rfl rfl⟩, tin_1 (i := 21) rfl rfl, by decide +kernel, by decide +kernel, x_pn_of (by decide +kernel)⟩
theorem wf_RX3_7 : x_fl vwCl x_Ts x_AO RX3 7 3 0 RX3 TX3 7 := ⟨rfl, by decide, Or.inl (tin_5 (i := 94) rfl rfl)⟩
theorem wf_RX3_7F : Cond.fieldLink RX3 7 (TX3 0).1 (TX3 0).2.1 (TX3 0).2.2.1 ∈ x_Ts := tin_5 (i := 94) rfl rfl
theorem wf_RX2_116 : x_fl vwCl x_Ts x_AO RX2 116 3 0 RX3 TX3 7 := ⟨rfl, by decide, Or.inr ⟨_, nin_5 (i := 95) rfl rfl⟩⟩
theorem wf_RX0_96 : x_fl vwCl x_Ts x_AO RX0 96 3 0 RX3 TX3 7 := ⟨rfl, by decide, Or.inr ⟨_, nin_5 (i := 96) rfl rfl⟩⟩
theorem wf_RX4_207 : x_fl vwCl x_Ts x_AO RX4 207 3 0 RX3 TX3 7 := ⟨rfl, by decide, Or.inr ⟨_, nin_5 (i := 97) rfl rfl⟩⟩
theorem wf_RX3_13 : x_fl vwCl x_Ts x_AO RX3 13 3 1 RX3 TX3 7 := ⟨rfl, by decide, Or.inl (tin_5 (i := 98) rfl rfl)⟩
theorem wf_RX2_119 : x_fl vwCl x_Ts x_AO RX2 119 3 1 RX3 TX3 7 := ⟨rfl, by decide, Or.inr ⟨_, nin_5 (i := 99) rfl rfl⟩⟩
theorem wf_RX0_99 : x_fl vwCl x_Ts x_AO RX0 99 3 1 RX3 TX3 7 := ⟨rfl, by decide, Or.inr ⟨_, nin_5 (i := 100) rfl rfl⟩⟩
theorem wf_RX4_208 : x_fl vwCl x_Ts x_AO RX4 208 3 1 RX3 TX3 7 := ⟨rfl, by decide, Or.inr ⟨_, nin_5 (i := 101) rfl rfl⟩⟩
theorem wf_RX2_171 : x_fl vwCl x_Ts x_AO RX2 171 3 2 RX3 TX3 7 := ⟨rfl, by decide, Or.inr ⟨_, nin_5 (i := 102) rfl rfl⟩⟩
theorem wf_RX0_139 : x_fl vwCl x_Ts x_AO RX0 139 3 2 RX3 TX3 7 := ⟨rfl, by decide, Or.inr ⟨_, nin_5 (i := 103) rfl rfl⟩⟩
theorem wf_RX4_204 : x_fl vwCl x_Ts x_AO RX4 204 3 2 RX3 TX3 7 := ⟨rfl, by decide, Or.inr ⟨_, nin_5 (i := 104) rfl rfl⟩⟩
theorem wf_RX2_153 : x_fl vwCl x_Ts x_AO RX2 153 3 3 RX3 TX3 7 := ⟨rfl, by decide, Or.inr ⟨_, nin_5 (i := 105) rfl rfl⟩⟩
theorem wf_RX0_113 : x_fl vwCl x_Ts x_AO RX0 113 3 3 RX3 TX3 7 := ⟨rfl, by decide, Or.inr ⟨_, nin_5 (i := 106) rfl rfl⟩⟩
theorem wf_RX4_186 : x_fl vwCl x_Ts x_AO RX4 186 3 3 RX3 TX3 7 := ⟨rfl, by decide, Or.inr ⟨_, nin_5 (i := 107) rfl rfl⟩⟩
theorem wf_RX2_156 : x_fl vwCl x_Ts x_AO RX2 156 3 4 RX3 TX3 7 := ⟨rfl, by decide, Or.inr ⟨_, nin_5 (i := 108) rfl rfl⟩⟩
theorem wf_RX0_127 : x_fl vwCl x_Ts x_AO RX0 127 3 4 RX3 TX3 7 := ⟨rfl, by decide, Or.inr ⟨_, nin_5 (i := 109) rfl rfl⟩⟩
theorem wf_RX4_189 : x_fl vwCl x_Ts x_AO RX4 189 3 4 RX3 TX3 7 := ⟨rfl, by decide, Or.inr ⟨_, nin_5 (i := 110) rfl rfl⟩⟩
theorem wf_RX2_159 : x_fl vwCl x_Ts x_AO RX2 159 3 5 RX3 TX3 7 := ⟨rfl, by decide, Or.inr ⟨_, nin_5 (i := 111) rfl rfl⟩⟩
theorem wf_RX0_124 : x_fl vwCl x_Ts x_AO RX0 124 3 5 RX3 TX3 7 := ⟨rfl, by decide, Or.inr ⟨_, nin_5 (i := 112) rfl rfl⟩⟩
theorem wf_RX4_192 : x_fl vwCl x_Ts x_AO RX4 192 3 5 RX3 TX3 7 := ⟨rfl, by decide, Or.inr ⟨_, nin_5 (i := 113) rfl rfl⟩⟩
theorem wf_RX2_169 : x_fl vwCl x_Ts x_AO RX2 169 3 6 RX3 TX3 7 := ⟨rfl, by decide, Or.inr ⟨_, nin_5 (i := 114) rfl rfl⟩⟩
theorem wf_RX0_130 : x_fl vwCl x_Ts x_AO RX0 130 3 6 RX3 TX3 7 := ⟨rfl, by decide, Or.inr ⟨_, nin_5 (i := 115) rfl rfl⟩⟩
theorem wf_RX4_202 : x_fl vwCl x_Ts x_AO RX4 202 3 6 RX3 TX3 7 := ⟨rfl, by decide, Or.inr ⟨_, nin_5 (i := 116) rfl rfl⟩⟩
theorem wc_RX4_198 : x_cw RX4 198 yX4_levelOf 1 := ⟨Or.inl (tin_5 (i := 132) rfl rfl), tin_1 (i := 7) rfl rfl, by decide +kernel, by decide +kernel, x_pn_of (by decide +kernel)⟩
theorem wc_RX4_158 : x_cw RX4 158 yX4_readBlock 0 := ⟨Or.inl (tin_5 (i := 135) rfl rfl), tin_1 (i := 7) rfl rfl, by decide +kernel, by decide +kernel, x_pn_of (by decide +kernel)⟩
theorem wc_RX4_171 : x_cw RX4 171 yJ7_copyOf_59c91 2 := ⟨Or.inl (tin_5 (i := 140) rfl rfl), tin_1 (i := 11) rfl rfl, by decide +kernel, by decide +kernel, x_pn_of (by decide +kernel)⟩
theorem wc_RX4_124 : x_cw RX4 124 yX4_readWidth 1 := ⟨Or.inl (tin_5 (i := 141) rfl rfl), tin_1 (i := 7) rfl rfl, by decide +kernel, by decide +kernel, x_pn_of (by decide +kernel)⟩
theorem wc_RX11_246 : x_cw RX11 246 yX0_code 1 := ⟨Or.inr ⟨_, nin_5 (i := 146) rfl rfl⟩, tin_1 (i := 9) rfl rfl, by decide +kernel, by decide +kernel, x_pn_of (by decide +kernel)⟩
theorem wc_RX0_28 : x_cw RX0 28 yX0_putLocation 1 := ⟨Or.inl (tin_5 (i := 150) rfl rfl), tin_1 (i := 9) rfl rfl, by decide +kernel, by decide +kernel, x_pn_of (by decide +kernel)⟩
theorem wc_RX0_53 : x_cw RX0 53 yX0_putPlace 1 := ⟨Or.inl (tin_5 (i := 154) rfl rfl), tin_1 (i := 9) rfl rfl, by decide +kernel, by decide +kernel, x_pn_of (by decide +kernel)⟩
theorem wc_RX0_62 : x_cw RX0 62 yX0_put 1 := ⟨Or.inl (tin_5 (i := 158) rfl rfl), tin_1 (i := 9) rfl rfl, by decide +kernel, by decide +kernel, x_pn_of (by decide +kernel)⟩
theorem wc_RX0_85 : x_cw RX0 85 yX0_putNode 2 := ⟨Or.inl (tin_5 (i := 162) rfl rfl), tin_1 (i := 9) rfl rfl, by decide +kernel, by decide +kernel, x_pn_of (by decide +kernel)⟩
theorem wc_RX0_100 : x_cw RX0 100 yX0_putConstant 1 := ⟨Or.inl (tin_5 (i := 166) rfl rfl), tin_1 (i := 9) rfl rfl, by decide +kernel, by decide +kernel, x_pn_of (by decide +kernel)⟩
theorem wc_RX0_36 : x_cw RX0 36 yX0_putNumber 2 := ⟨Or.inl (tin_5 (i := 172) rfl rfl), tin_1 (i := 9) rfl rfl, by decide +kernel, by decide +kernel, x_pn_of (by decide +kernel)⟩
theorem wc_RX0_103 : x_cw RX0 103 yX0_putBased 2 := ⟨Or.inl (tin_5 (i := 178) rfl rfl), tin_1 (i := 9) rfl rfl, by decide +kernel, by decide +kernel, x_pn_of (by decide +kernel)⟩
theorem wc_RX0_150 : x_cw RX0 150 yX0_putSignedLeb 1 := ⟨Or.inl (tin_5 (i := 182) rfl rfl), tin_1 (i := 9) rfl rfl, by decide +kernel, by decide +kernel, x_pn_of (by decide +kernel)⟩
theorem wc_RX0_107 : x_cw RX0 107 yX0_putChoice 2 := ⟨Or.inl (tin_5 (i := 189) rfl rfl), tin_1 (i := 9) rfl rfl, by decide +kernel, by decide +kernel, x_pn_of (by decide +kernel)⟩
theorem wc_RX0_43 : x_cw RX0 43 yX0_patch 2 := ⟨Or.inl (tin_5 (i := 193) rfl rfl), tin_1 (i := 9) rfl rfl, by decide +kernel, by decide +kernel, x_pn_of (by decide +kernel)⟩
theorem wc_RX0_110 : x_cw RX0 110 yX0_putChain 2 := ⟨Or.inl (tin_5 (i := 197) rfl rfl), tin_1 (i := 9) rfl rfl, by decide +kernel, by decide +kernel, x_pn_of (by decide +kernel)⟩
theorem wc_RX0_132 : x_cw RX0 132 yX0_isBased 1 := ⟨Or.inl (tin_5 (i := 201) rfl rfl), tin_1 (i := 9) rfl rfl, by decide +kernel, by decide +kernel, x_pn_of (by decide +kernel)⟩
theorem wc_RX0_136 : x_cw RX0 136 yX0_isPlainTerm 1 := ⟨Or.inl (tin_5 (i := 204) rfl rfl), tin_1 (i := 9) rfl rfl, by decide +kernel, by decide +kernel, x_pn_of (by decide +kernel)⟩
theorem wc_RX0_66 : x_cw RX0 66 yX0_putLeb 1 := ⟨Or.inl (tin_5 (i := 207) rfl rfl), tin_1 (i := 9) rfl rfl, by decide +kernel, by decide +kernel, x_pn_of (by decide +kernel)⟩
theorem wc_RX0_144 : x_cw RX0 144 yX4_operationOf 1 := ⟨Or.inr ⟨_, nin_5 (i := 211) rfl rfl⟩, tin_1 (i := 7) rfl rfl, by decide +kernel, by decide +kernel, x_pn_of (by decide +kernel)⟩
theorem wc_RX0_116 : x_cw RX0 116 yX0_putUnary 1 := ⟨Or.inl (tin_5 (i := 214) rfl rfl), tin_1 (i := 9) rfl rfl, by decide +kernel, by decide +kernel, x_pn_of (by decide +kernel)⟩
theorem wc_RX0_92 : x_cw RX0 92 yX0_putBlock 1 := ⟨Or.inl (tin_5 (i := 219) rfl rfl), tin_1 (i := 9) rfl rfl, by decide +kernel, by decide +kernel, x_pn_of (by decide +kernel)⟩
theorem wc_RX0_47 : x_cw RX0 47 yJ7_copyOf_59c91 2 := ⟨Or.inl (tin_5 (i := 223) rfl rfl), tin_1 (i := 11) rfl rfl, by decide +kernel, by decide +kernel, x_pn_of (by decide +kernel)⟩
theorem wc_RL_106 : x_cw RL 106 yX11_variable 2 := ⟨Or.inl (tin_5 (i := 224) rfl rfl), tin_1 (i := 1) rfl rfl, by decide +kernel, by decide +kernel, x_pn_of (by decide +kernel)⟩
theorem wc_RX11_256 : x_cw RX11 256 yX11_isVariable 1 := ⟨Or.inl (tin_5 (i := 228) rfl rfl), tin_1 (i := 1) rfl rfl, by decide +kernel, by decide +kernel, x_pn_of (by decide +kernel)⟩
theorem wc_RX11_265 : x_cw RX11 265 yX11_byteAt 2 := ⟨Or.inl (tin_5 (i := 232) rfl rfl), tin_1 (i := 1) rfl rfl, by decide +kernel, by decide +kernel, x_pn_of (by decide +kernel)⟩
theorem wc_RL_110 : x_cw RL 110 yX11_where 3 := ⟨Or.inl (tin_5 (i := 234) rfl rfl), tin_1 (i := 1) rfl rfl, by decide +kernel, by decide +kernel, x_pn_of (by decide +kernel)⟩
theorem wc_RL_115 : x_cw RL 115 yX11_means 2 := ⟨Or.inl (tin_5 (i := 238) rfl rfl), tin_1 (i := 1) rfl rfl, by decide +kernel, by decide +kernel, x_pn_of (by decide +kernel)⟩
theorem wc_RX11_271 : x_cw RX11 271 yX2_say 2 := ⟨Or.inr ⟨_, nin_6 (i := 2) rfl rfl⟩, tin_1 (i := 6) rfl rfl, by decide +kernel, by decide +kernel, x_pn_of (by decide +kernel)⟩
theorem wc_RX2_37 : x_cw RX2 37 yX8_clear 0 := ⟨Or.inr ⟨_, nin_6 (i := 6) rfl rfl⟩, tin_1 (i := 2) rfl rfl, by decide +kernel, by decide +kernel, x_pn_of (by decide +kernel)⟩
theorem wc_RX2_40 : x_cw RX2 40 yX2_placeFor 2 := ⟨Or.inl (tin_6 (i := 7) rfl rfl), tin_1 (i := 6) rfl rfl, by decide +kernel, by decide +kernel, x_pn_of (by decide +kernel)⟩
theorem wc_RX2_82 : x_cw RX2 82 yX11_isBelow 2 := ⟨Or.inr ⟨_, nin_6 (i := 10) rfl rfl⟩, tin_1 (i := 1) rfl rfl, by decide +kernel, by decide +kernel, x_pn_of (by decide +kernel)⟩
theorem wc_RX2_44 : x_cw RX2 44 yX2_meet 1 := ⟨Or.inl (tin_6 (i := 11) rfl rfl), tin_1 (i := 6) rfl rfl, by decide +kernel, by decide +kernel, x_pn_of (by decide +kernel)⟩
theorem wc_RX2_96 : x_cw RX2 96 yX5_become 2 := ⟨Or.inr ⟨_, nin_6 (i := 15) rfl rfl⟩, tin_1 (i := 3) rfl rfl, by decide +kernel, by decide +kernel, x_pn_of (by decide +kernel)⟩
theorem wc_RX2_104 : x_cw RX2 104 yX2_value 2 := ⟨Or.inl (tin_6 (i := 16) rfl rfl), tin_1 (i := 6) rfl rfl, by decide +kernel, by decide +kernel, x_pn_of (by decide +kernel)⟩
theorem wc_RX2_120 : x_cw RX2 120 yX1_registerValue 1 := ⟨Or.inr ⟨_, nin_6 (i := 20) rfl rfl⟩, tin_1 (i := 4) rfl rfl, by decide +kernel, by decide +kernel, x_pn_of (by decide +kernel)⟩
theorem wc_RX2_126 : x_cw RX2 126 yX9_base 3 := ⟨Or.inr ⟨_, nin_6 (i := 21) rfl rfl⟩, tin_1 (i := 5) rfl rfl, by decide +kernel, by decide +kernel, x_pn_of (by decide +kernel)⟩
theorem wc_RX2_135 : x_cw RX2 135 yX2_fail 1 := ⟨Or.inl (tin_6 (i := 22) rfl rfl), tin_1 (i := 6) rfl rfl, by decide +kernel, by decide +kernel, x_pn_of (by decide +kernel)⟩
theorem wc_RX2_142 : x_cw RX2 142 yX1_cfaValue 0 := ⟨Or.inr ⟨_, nin_6 (i := 26) rfl rfl⟩, tin_1 (i := 4) rfl rfl, by decide +kernel, by decide +kernel, x_pn_of (by decide +kernel)⟩
theorem wc_RX2_162 : x_cw RX2 162 yX2_chainValue 2 := ⟨Or.inl (tin_6 (i := 27) rfl rfl), tin_1 (i := 6) rfl rfl, by decide +kernel, by decide +kernel, x_pn_of (by decide +kernel)⟩
theorem wc_RX2_174 : x_cw RX2 174 yX4_operationOf 1 := ⟨Or.inr ⟨_, nin_6 (i := 31) rfl rfl⟩, tin_1 (i := 7) rfl rfl, by decide +kernel, by decide +kernel, x_pn_of (by decide +kernel)⟩
theorem wc_RX2_180 : x_cw RX2 180 yX9_joined 3 := ⟨Or.inr ⟨_, nin_6 (i := 32) rfl rfl⟩, tin_1 (i := 5) rfl rfl, by decide +kernel, by decide +kernel, x_pn_of (by decide +kernel)⟩
theorem wc_RX2_165 : x_cw RX2 165 yX2_unaryValue 2 := ⟨Or.inl (tin_6 (i := 33) rfl rfl), tin_1 (i := 6) rfl rfl, by decide +kernel, by decide +kernel, x_pn_of (by decide +kernel)⟩
theorem wc_RX2_192 : x_cw RX2 192 yX1_hasBytes 2 := ⟨Or.inr ⟨_, nin_6 (i := 38) rfl rfl⟩, tin_1 (i := 4) rfl rfl, by decide +kernel, by decide +kernel, x_pn_of (by decide +kernel)⟩
theorem wc_RX2_196 : x_cw RX2 196 yX1_bytes 2 := ⟨Or.inr ⟨_, nin_6 (i := 39) rfl rfl⟩, tin_1 (i := 4) rfl rfl, by decide +kernel, by decide +kernel, x_pn_of (by decide +kernel)⟩
theorem wc_RX2_112 : x_cw RX2 112 yX5_becomeBlock 3 := ⟨Or.inr ⟨_, nin_6 (i := 40) rfl rfl⟩, tin_1 (i := 3) rfl rfl, by decide +kernel, by decide +kernel, x_pn_of (by decide +kernel)⟩
theorem wc_RX2_53 : x_cw RX2 53 yX8_only 0 := ⟨Or.inr ⟨_, nin_6 (i := 41) rfl rfl⟩, tin_1 (i := 2) rfl rfl, by decide +kernel, by decide +kernel, x_pn_of (by decide +kernel)⟩
theorem wc_RX2_57 : x_cw RX2 57 yX5_take 1 := ⟨Or.inr ⟨_, nin_6 (i := 42) rfl rfl⟩, tin_1 (i := 3) rfl rfl, by decide +kernel, by decide +kernel, x_pn_of (by decide +kernel)⟩
theorem wc_RX2_61 : x_cw RX2 61 yX8_addPiece 3 := ⟨Or.inr ⟨_, nin_6 (i := 43) rfl rfl⟩, tin_1 (i := 2) rfl rfl, by decide +kernel, by decide +kernel, x_pn_of (by decide +kernel)⟩
theorem wc_RL_12 : x_cw RL 12 yX12_init 0 := ⟨Or.inl (tin_6 (i := 46) rfl rfl), tin_1 (i := 10) rfl rfl, by decide +kernel, by decide +kernel, x_pn_of (by decide +kernel)⟩
theorem wf_RX12_187 : x_fl vwCl x_Ts x_AO RX12 187 12 0 RX12 TX12 105 := ⟨rfl, by decide, Or.inl (tin_6 (i := 50) rfl rfl)⟩
theorem wf_RX12_7 : x_fl vwCl x_Ts x_AO RX12 7 12 1 RX12 TX12 105 := ⟨rfl, by decide, Or.inl (tin_6 (i := 51) rfl rfl)⟩
theorem wf_RX12_7F : Cond.fieldLink RX12 7 (TX12 1).1 (TX12 1).2.1 (TX12 1).2.2.1 ∈ x_Ts := tin_6 (i := 51) rfl rfl
theorem wf_RX12_13 : x_fl vwCl x_Ts x_AO RX12 13 12 2 RX12 TX12 105 := ⟨rfl, by decide, Or.inl (tin_6 (i := 52) rfl rfl)⟩
theorem wf_RX12_13F : Cond.fieldLink RX12 13 (TX12 2).1 (TX12 2).2.1 (TX12 2).2.2.1 ∈ x_Ts := tin_6 (i := 52) rfl rfl
theorem wf_RX12_17 : x_fl vwCl x_Ts x_AO RX12 17 12 3 RX12 TX12 105 := ⟨rfl, by decide, Or.inl (tin_6 (i := 53) rfl rfl)⟩
theorem wf_RX12_17F : Cond.fieldLink RX12 17 (TX12 3).1 (TX12 3).2.1 (TX12 3).2.2.1 ∈ x_Ts := tin_6 (i := 53) rfl rfl
theorem wf_RX12_20 : x_fl vwCl x_Ts x_AO RX12 20 12 4 RX12 TX12 105 := ⟨rfl, by decide, Or.inl (tin_6 (i := 54) rfl rfl)⟩
theorem wf_RX12_20F : Cond.fieldLink RX12 20 (TX12 4).1 (TX12 4).2.1 (TX12 4).2.2.1 ∈ x_Ts := tin_6 (i := 54) rfl rfl
theorem wf_RX12_23 : x_fl vwCl x_Ts x_AO RX12 23 12 5 RX12 TX12 105 := ⟨rfl, by decide, Or.inl (tin_6 (i := 55) rfl rfl)⟩
theorem wf_RX12_27 : x_fl vwCl x_Ts x_AO RX12 27 12 6 RX12 TX12 105 := ⟨rfl, by decide, Or.inl (tin_6 (i := 56) rfl rfl)⟩
theorem wf_RX12_201 : x_fl vwCl x_Ts x_AO RX12 201 12 7 RX12 TX12 105 := ⟨rfl, by decide, Or.inl (tin_6 (i := 57) rfl rfl)⟩
theorem wf_RX12_205 : x_fl vwCl x_Ts x_AO RX12 205 12 8 RX12 TX12 105 := ⟨rfl, by decide, Or.inl (tin_6 (i := 58) rfl rfl)⟩
theorem wf_RX12_212 : x_fl vwCl x_Ts x_AO RX12 212 12 9 RX12 TX12 105 := ⟨rfl, by decide, Or.inl (tin_6 (i := 59) rfl rfl)⟩
theorem wf_RX12_208 : x_fl vwCl x_Ts x_AO RX12 208 12 10 RX12 TX12 105 := ⟨rfl, by decide, Or.inl (tin_6 (i := 60) rfl rfl)⟩
theorem wf_RX12_215 : x_fl vwCl x_Ts x_AO RX12 215 12 11 RX12 TX12 105 := ⟨rfl, by decide, Or.inl (tin_6 (i := 61) rfl rfl)⟩
theorem wf_RX12_30 : x_fl vwCl x_Ts x_AO RX12 30 12 12 RX12 TX12 105 := ⟨rfl, by decide, Or.inl (tin_6 (i := 62) rfl rfl)⟩
theorem wf_RX12_30F : Cond.fieldLink RX12 30 (TX12 12).1 (TX12 12).2.1 (TX12 12).2.2.1 ∈ x_Ts := tin_6 (i := 62) rfl rfl
theorem wf_RX12_190 : x_fl vwCl x_Ts x_AO RX12 190 12 13 RX12 TX12 105 := ⟨rfl, by decide, Or.inl (tin_6 (i := 63) rfl rfl)⟩
theorem wf_RX12_33 : x_fl vwCl x_Ts x_AO RX12 33 12 14 RX12 TX12 105 := ⟨rfl, by decide, Or.inl (tin_6 (i := 64) rfl rfl)⟩
theorem wf_RX12_33F : Cond.fieldLink RX12 33 (TX12 14).1 (TX12 14).2.1 (TX12 14).2.2.1 ∈ x_Ts := tin_6 (i := 64) rfl rfl
theorem wf_RX12_36 : x_fl vwCl x_Ts x_AO RX12 36 12 15 RX12 TX12 105 := ⟨rfl, by decide, Or.inl (tin_6 (i := 65) rfl rfl)⟩
theorem wf_RX12_36F : Cond.fieldLink RX12 36 (TX12 15).1 (TX12 15).2.1 (TX12 15).2.2.1 ∈ x_Ts := tin_6 (i := 65) rfl rfl
theorem wf_RX12_39 : x_fl vwCl x_Ts x_AO RX12 39 12 16 RX12 TX12 105 := ⟨rfl, by decide, Or.inl (tin_6 (i := 66) rfl rfl)⟩
theorem wf_RX12_39F : Cond.fieldLink RX12 39 (TX12 16).1 (TX12 16).2.1 (TX12 16).2.2.1 ∈ x_Ts := tin_6 (i := 66) rfl rfl
theorem wf_RX12_42 : x_fl vwCl x_Ts x_AO RX12 42 12 17 RX12 TX12 105 := ⟨rfl, by decide, Or.inl (tin_6 (i := 67) rfl rfl)⟩
theorem wf_RX12_42F : Cond.fieldLink RX12 42 (TX12 17).1 (TX12 17).2.1 (TX12 17).2.2.1 ∈ x_Ts := tin_6 (i := 67) rfl rfl
theorem wf_RX12_45 : x_fl vwCl x_Ts x_AO RX12 45 12 18 RX12 TX12 105 := ⟨rfl, by decide, Or.inl (tin_6 (i := 68) rfl rfl)⟩
theorem wf_RX12_45F : Cond.fieldLink RX12 45 (TX12 18).1 (TX12 18).2.1 (TX12 18).2.2.1 ∈ x_Ts := tin_6 (i := 68) rfl rfl
theorem wf_RX12_48 : x_fl vwCl x_Ts x_AO RX12 48 12 19 RX12 TX12 105 := ⟨rfl, by decide, Or.inl (tin_6 (i := 69) rfl rfl)⟩
theorem wf_RX12_48F : Cond.fieldLink RX12 48 (TX12 19).1 (TX12 19).2.1 (TX12 19).2.2.1 ∈ x_Ts := tin_6 (i := 69) rfl rfl
theorem wf_RX12_51 : x_fl vwCl x_Ts x_AO RX12 51 12 20 RX12 TX12 105 := ⟨rfl, by decide, Or.inl (tin_6 (i := 70) rfl rfl)⟩
theorem wf_RX12_51F : Cond.fieldLink RX12 51 (TX12 20).1 (TX12 20).2.1 (TX12 20).2.2.1 ∈ x_Ts := tin_6 (i := 70) rfl rfl
theorem wf_RX12_54 : x_fl vwCl x_Ts x_AO RX12 54 12 21 RX12 TX12 105 := ⟨rfl, by decide, Or.inl (tin_6 (i := 71) rfl rfl)⟩
theorem wf_RX12_54F : Cond.fieldLink RX12 54 (TX12 21).1 (TX12 21).2.1 (TX12 21).2.2.1 ∈ x_Ts := tin_6 (i := 71) rfl rfl
theorem wf_RX12_57 : x_fl vwCl x_Ts x_AO RX12 57 12 22 RX12 TX12 105 := ⟨rfl, by decide, Or.inl (tin_6 (i := 72) rfl rfl)⟩
theorem wf_RX12_57F : Cond.fieldLink RX12 57 (TX12 22).1 (TX12 22).2.1 (TX12 22).2.2.1 ∈ x_Ts := tin_6 (i := 72) rfl rfl
theorem wf_RX12_60 : x_fl vwCl x_Ts x_AO RX12 60 12 23 RX12 TX12 105 := ⟨rfl, by decide, Or.inl (tin_6 (i := 73) rfl rfl)⟩
theorem wf_RX12_60F : Cond.fieldLink RX12 60 (TX12 23).1 (TX12 23).2.1 (TX12 23).2.2.1 ∈ x_Ts := tin_6 (i := 73) rfl rfl
theorem wf_RX12_63 : x_fl vwCl x_Ts x_AO RX12 63 12 24 RX12 TX12 105 := ⟨rfl, by decide, Or.inl (tin_6 (i := 74) rfl rfl)⟩
theorem wf_RX12_63F : Cond.fieldLink RX12 63 (TX12 24).1 (TX12 24).2.1 (TX12 24).2.2.1 ∈ x_Ts := tin_6 (i := 74) rfl rfl
theorem wf_RX12_66 : x_fl vwCl x_Ts x_AO RX12 66 12 25 RX12 TX12 105 := ⟨rfl, by decide, Or.inl (tin_6 (i := 75) rfl rfl)⟩
theorem wf_RX12_66F : Cond.fieldLink RX12 66 (TX12 25).1 (TX12 25).2.1 (TX12 25).2.2.1 ∈ x_Ts := tin_6 (i := 75) rfl rfl
theorem wf_RX12_69 : x_fl vwCl x_Ts x_AO RX12 69 12 26 RX12 TX12 105 := ⟨rfl, by decide, Or.inl (tin_6 (i := 76) rfl rfl)⟩
theorem wf_RX12_69F : Cond.fieldLink RX12 69 (TX12 26).1 (TX12 26).2.1 (TX12 26).2.2.1 ∈ x_Ts := tin_6 (i := 76) rfl rfl
theorem wf_RX12_72 : x_fl vwCl x_Ts x_AO RX12 72 12 27 RX12 TX12 105 := ⟨rfl, by decide, Or.inl (tin_6 (i := 77) rfl rfl)⟩
theorem wf_RX12_72F : Cond.fieldLink RX12 72 (TX12 27).1 (TX12 27).2.1 (TX12 27).2.2.1 ∈ x_Ts := tin_6 (i := 77) rfl rfl
theorem wf_RX12_75 : x_fl vwCl x_Ts x_AO RX12 75 12 28 RX12 TX12 105 := ⟨rfl, by decide, Or.inl (tin_6 (i := 78) rfl rfl)⟩
theorem wf_RX12_75F : Cond.fieldLink RX12 75 (TX12 28).1 (TX12 28).2.1 (TX12 28).2.2.1 ∈ x_Ts := tin_6 (i := 78) rfl rfl
theorem wf_RX12_264 : x_fl vwCl x_Ts x_AO RX12 264 12 29 RX12 TX12 105 := ⟨rfl, by decide, Or.inl (tin_6 (i := 79) rfl rfl)⟩
theorem wf_RX12_296 : x_fl vwCl x_Ts x_AO RX12 296 12 30 RX12 TX12 105 := ⟨rfl, by decide, Or.inl (tin_6 (i := 80) rfl rfl)⟩
theorem wf_RX12_299 : x_fl vwCl x_Ts x_AO RX12 299 12 31 RX12 TX12 105 := ⟨rfl, by decide, Or.inl (tin_6 (i := 81) rfl rfl)⟩
theorem wf_RX12_258 : x_fl vwCl x_Ts x_AO RX12 258 12 32 RX12 TX12 105 := ⟨rfl, by decide, Or.inl (tin_6 (i := 82) rfl rfl)⟩
theorem wf_RX12_267 : x_fl vwCl x_Ts x_AO RX12 267 12 33 RX12 TX12 105 := ⟨rfl, by decide, Or.inl (tin_6 (i := 83) rfl rfl)⟩
theorem wf_RX12_255 : x_fl vwCl x_Ts x_AO RX12 255 12 34 RX12 TX12 105 := ⟨rfl, by decide, Or.inl (tin_6 (i := 84) rfl rfl)⟩
theorem wf_RX12_228 : x_fl vwCl x_Ts x_AO RX12 228 12 35 RX12 TX12 105 := ⟨rfl, by decide, Or.inl (tin_6 (i := 85) rfl rfl)⟩
theorem wf_RX12_231 : x_fl vwCl x_Ts x_AO RX12 231 12 36 RX12 TX12 105 := ⟨rfl, by decide, Or.inl (tin_6 (i := 86) rfl rfl)⟩
theorem wf_RX12_223 : x_fl vwCl x_Ts x_AO RX12 223 12 37 RX12 TX12 105 := ⟨rfl, by decide, Or.inl (tin_6 (i := 87) rfl rfl)⟩
theorem wf_RX12_220 : x_fl vwCl x_Ts x_AO RX12 220 12 38 RX12 TX12 105 := ⟨rfl, by decide, Or.inl (tin_6 (i := 88) rfl rfl)⟩
theorem wf_RX12_252 : x_fl vwCl x_Ts x_AO RX12 252 12 39 RX12 TX12 105 := ⟨rfl, by decide, Or.inl (tin_6 (i := 89) rfl rfl)⟩
theorem wf_RX12_277 : x_fl vwCl x_Ts x_AO RX12 277 12 40 RX12 TX12 105 := ⟨rfl, by decide, Or.inl (tin_6 (i := 90) rfl rfl)⟩
theorem wf_RX12_280 : x_fl vwCl x_Ts x_AO RX12 280 12 41 RX12 TX12 105 := ⟨rfl, by decide, Or.inl (tin_6 (i := 91) rfl rfl)⟩
theorem wf_RX12_283 : x_fl vwCl x_Ts x_AO RX12 283 12 42 RX12 TX12 105 := ⟨rfl, by decide, Or.inl (tin_6 (i := 92) rfl rfl)⟩
theorem wf_RX12_286 : x_fl vwCl x_Ts x_AO RX12 286 12 43 RX12 TX12 105 := ⟨rfl, by decide, Or.inl (tin_6 (i := 93) rfl rfl)⟩
theorem wf_RX12_289 : x_fl vwCl x_Ts x_AO RX12 289 12 44 RX12 TX12 105 := ⟨rfl, by decide, Or.inl (tin_6 (i := 94) rfl rfl)⟩
theorem wf_RX12_78 : x_fl vwCl x_Ts x_AO RX12 78 12 45 RX12 TX12 105 := ⟨rfl, by decide, Or.inl (tin_6 (i := 95) rfl rfl)⟩
theorem wf_RX12_78F : Cond.fieldLink RX12 78 (TX12 45).1 (TX12 45).2.1 (TX12 45).2.2.1 ∈ x_Ts := tin_6 (i := 95) rfl rfl
theorem wf_RX12_81 : x_fl vwCl x_Ts x_AO RX12 81 12 46 RX12 TX12 105 := ⟨rfl, by decide, Or.inl (tin_6 (i := 96) rfl rfl)⟩
theorem wf_RX12_354 : x_fl vwCl x_Ts x_AO RX12 354 12 47 RX12 TX12 105 := ⟨rfl, by decide, Or.inl (tin_6 (i := 97) rfl rfl)⟩
theorem wf_RX12_84 : x_fl vwCl x_Ts x_AO RX12 84 12 48 RX12 TX12 105 := ⟨rfl, by decide, Or.inl (tin_6 (i := 98) rfl rfl)⟩
theorem wf_RX12_84F : Cond.fieldLink RX12 84 (TX12 48).1 (TX12 48).2.1 (TX12 48).2.2.1 ∈ x_Ts := tin_6 (i := 98) rfl rfl
theorem wf_RX12_87 : x_fl vwCl x_Ts x_AO RX12 87 12 49 RX12 TX12 105 := ⟨rfl, by decide, Or.inl (tin_6 (i := 99) rfl rfl)⟩
theorem wf_RX12_87F : Cond.fieldLink RX12 87 (TX12 49).1 (TX12 49).2.1 (TX12 49).2.2.1 ∈ x_Ts := tin_6 (i := 99) rfl rfl
theorem wf_RX12_90 : x_fl vwCl x_Ts x_AO RX12 90 12 50 RX12 TX12 105 := ⟨rfl, by decide, Or.inl (tin_6 (i := 100) rfl rfl)⟩
theorem wf_RX12_90F : Cond.fieldLink RX12 90 (TX12 50).1 (TX12 50).2.1 (TX12 50).2.2.1 ∈ x_Ts := tin_6 (i := 100) rfl rfl
theorem wf_RX12_93 : x_fl vwCl x_Ts x_AO RX12 93 12 51 RX12 TX12 105 := ⟨rfl, by decide, Or.inl (tin_6 (i := 101) rfl rfl)⟩
theorem wf_RX12_93F : Cond.fieldLink RX12 93 (TX12 51).1 (TX12 51).2.1 (TX12 51).2.2.1 ∈ x_Ts := tin_6 (i := 101) rfl rfl
theorem wf_RX12_96 : x_fl vwCl x_Ts x_AO RX12 96 12 52 RX12 TX12 105 := ⟨rfl, by decide, Or.inl (tin_6 (i := 102) rfl rfl)⟩
theorem wf_RX12_96F : Cond.fieldLink RX12 96 (TX12 52).1 (TX12 52).2.1 (TX12 52).2.2.1 ∈ x_Ts := tin_6 (i := 102) rfl rfl
theorem wf_RX12_361 : x_fl vwCl x_Ts x_AO RX12 361 12 53 RX12 TX12 105 := ⟨rfl, by decide, Or.inl (tin_6 (i := 103) rfl rfl)⟩
theorem wf_RX12_364 : x_fl vwCl x_Ts x_AO RX12 364 12 54 RX12 TX12 105 := ⟨rfl, by decide, Or.inl (tin_6 (i := 104) rfl rfl)⟩
theorem wf_RX12_99 : x_fl vwCl x_Ts x_AO RX12 99 12 55 RX12 TX12 105 := ⟨rfl, by decide, Or.inl (tin_6 (i := 105) rfl rfl)⟩
theorem wf_RX12_367 : x_fl vwCl x_Ts x_AO RX12 367 12 56 RX12 TX12 105 := ⟨rfl, by decide, Or.inl (tin_6 (i := 106) rfl rfl)⟩
theorem wf_RX12_370 : x_fl vwCl x_Ts x_AO RX12 370 12 57 RX12 TX12 105 := ⟨rfl, by decide, Or.inl (tin_6 (i := 107) rfl rfl)⟩
theorem wf_RX12_402 : x_fl vwCl x_Ts x_AO RX12 402 12 58 RX12 TX12 105 := ⟨rfl, by decide, Or.inl (tin_6 (i := 108) rfl rfl)⟩
theorem wf_RX12_405 : x_fl vwCl x_Ts x_AO RX12 405 12 59 RX12 TX12 105 := ⟨rfl, by decide, Or.inl (tin_6 (i := 109) rfl rfl)⟩
theorem wf_RX12_102 : x_fl vwCl x_Ts x_AO RX12 102 12 60 RX12 TX12 105 := ⟨rfl, by decide, Or.inl (tin_6 (i := 110) rfl rfl)⟩
theorem wf_RX12_102F : Cond.fieldLink RX12 102 (TX12 60).1 (TX12 60).2.1 (TX12 60).2.2.1 ∈ x_Ts := tin_6 (i := 110) rfl rfl
theorem wf_RX12_410 : x_fl vwCl x_Ts x_AO RX12 410 12 61 RX12 TX12 105 := ⟨rfl, by decide, Or.inl (tin_6 (i := 111) rfl rfl)⟩
theorem wf_RX12_105 : x_fl vwCl x_Ts x_AO RX12 105 12 62 RX12 TX12 105 := ⟨rfl, by decide, Or.inl (tin_6 (i := 112) rfl rfl)⟩
theorem wf_RX12_105F : Cond.fieldLink RX12 105 (TX12 62).1 (TX12 62).2.1 (TX12 62).2.2.1 ∈ x_Ts := tin_6 (i := 112) rfl rfl
theorem wf_RX12_108 : x_fl vwCl x_Ts x_AO RX12 108 12 63 RX12 TX12 105 := ⟨rfl, by decide, Or.inl (tin_6 (i := 113) rfl rfl)⟩
theorem wf_RX12_108F : Cond.fieldLink RX12 108 (TX12 63).1 (TX12 63).2.1 (TX12 63).2.2.1 ∈ x_Ts := tin_6 (i := 113) rfl rfl
theorem wf_RX12_111 : x_fl vwCl x_Ts x_AO RX12 111 12 64 RX12 TX12 105 := ⟨rfl, by decide, Or.inl (tin_6 (i := 114) rfl rfl)⟩
theorem wf_RX12_111F : Cond.fieldLink RX12 111 (TX12 64).1 (TX12 64).2.1 (TX12 64).2.2.1 ∈ x_Ts := tin_6 (i := 114) rfl rfl
theorem wf_RX12_114 : x_fl vwCl x_Ts x_AO RX12 114 12 65 RX12 TX12 105 := ⟨rfl, by decide, Or.inl (tin_6 (i := 115) rfl rfl)⟩
theorem wf_RX12_114F : Cond.fieldLink RX12 114 (TX12 65).1 (TX12 65).2.1 (TX12 65).2.2.1 ∈ x_Ts := tin_6 (i := 115) rfl rfl
theorem wf_RX12_117 : x_fl vwCl x_Ts x_AO RX12 117 12 66 RX12 TX12 105 := ⟨rfl, by decide, Or.inl (tin_6 (i := 116) rfl rfl)⟩
theorem wf_RX12_117F : Cond.fieldLink RX12 117 (TX12 66).1 (TX12 66).2.1 (TX12 66).2.2.1 ∈ x_Ts := tin_6 (i := 116) rfl rfl
theorem wf_RX12_446 : x_fl vwCl x_Ts x_AO RX12 446 12 67 RX12 TX12 105 := ⟨rfl, by decide, Or.inl (tin_6 (i := 117) rfl rfl)⟩
theorem wf_RX12_478 : x_fl vwCl x_Ts x_AO RX12 478 12 68 RX12 TX12 105 := ⟨rfl, by decide, Or.inl (tin_6 (i := 118) rfl rfl)⟩
theorem wf_RX12_475 : x_fl vwCl x_Ts x_AO RX12 475 12 69 RX12 TX12 105 := ⟨rfl, by decide, Or.inl (tin_6 (i := 119) rfl rfl)⟩
theorem wf_RX12_481 : x_fl vwCl x_Ts x_AO RX12 481 12 70 RX12 TX12 105 := ⟨rfl, by decide, Or.inl (tin_6 (i := 120) rfl rfl)⟩
theorem wf_RX12_490 : x_fl vwCl x_Ts x_AO RX12 490 12 71 RX12 TX12 105 := ⟨rfl, by decide, Or.inl (tin_6 (i := 121) rfl rfl)⟩
theorem wf_RX12_120 : x_fl vwCl x_Ts x_AO RX12 120 12 72 RX12 TX12 105 := ⟨rfl, by decide, Or.inl (tin_6 (i := 122) rfl rfl)⟩
theorem wf_RX12_120F : Cond.fieldLink RX12 120 (TX12 72).1 (TX12 72).2.1 (TX12 72).2.2.1 ∈ x_Ts := tin_6 (i := 122) rfl rfl
theorem wf_RX12_493 : x_fl vwCl x_Ts x_AO RX12 493 12 73 RX12 TX12 105 := ⟨rfl, by decide, Or.inl (tin_6 (i := 123) rfl rfl)⟩
theorem wf_RX12_524 : x_fl vwCl x_Ts x_AO RX12 524 12 74 RX12 TX12 105 := ⟨rfl, by decide, Or.inl (tin_6 (i := 124) rfl rfl)⟩
theorem wf_RX12_123 : x_fl vwCl x_Ts x_AO RX12 123 12 75 RX12 TX12 105 := ⟨rfl, by decide, Or.inl (tin_6 (i := 125) rfl rfl)⟩
theorem wf_RX12_123F : Cond.fieldLink RX12 123 (TX12 75).1 (TX12 75).2.1 (TX12 75).2.2.1 ∈ x_Ts := tin_6 (i := 125) rfl rfl
theorem wf_RX12_126 : x_fl vwCl x_Ts x_AO RX12 126 12 76 RX12 TX12 105 := ⟨rfl, by decide, Or.inl (tin_6 (i := 126) rfl rfl)⟩
theorem wf_RX12_126F : Cond.fieldLink RX12 126 (TX12 76).1 (TX12 76).2.1 (TX12 76).2.2.1 ∈ x_Ts := tin_6 (i := 126) rfl rfl
theorem wf_RX12_129 : x_fl vwCl x_Ts x_AO RX12 129 12 77 RX12 TX12 105 := ⟨rfl, by decide, Or.inl (tin_6 (i := 127) rfl rfl)⟩
theorem wf_RX12_129F : Cond.fieldLink RX12 129 (TX12 77).1 (TX12 77).2.1 (TX12 77).2.2.1 ∈ x_Ts := tin_6 (i := 127) rfl rfl
theorem wf_RX12_515 : x_fl vwCl x_Ts x_AO RX12 515 12 78 RX12 TX12 105 := ⟨rfl, by decide, Or.inl (tin_6 (i := 128) rfl rfl)⟩
theorem wf_RX12_132 : x_fl vwCl x_Ts x_AO RX12 132 12 79 RX12 TX12 105 := ⟨rfl, by decide, Or.inl (tin_6 (i := 129) rfl rfl)⟩
theorem wf_RX12_132F : Cond.fieldLink RX12 132 (TX12 79).1 (TX12 79).2.1 (TX12 79).2.2.1 ∈ x_Ts := tin_6 (i := 129) rfl rfl
theorem wf_RX12_135 : x_fl vwCl x_Ts x_AO RX12 135 12 80 RX12 TX12 105 := ⟨rfl, by decide, Or.inl (tin_6 (i := 130) rfl rfl)⟩
theorem wf_RX12_135F : Cond.fieldLink RX12 135 (TX12 80).1 (TX12 80).2.1 (TX12 80).2.2.1 ∈ x_Ts := tin_6 (i := 130) rfl rfl
theorem wf_RX12_138 : x_fl vwCl x_Ts x_AO RX12 138 12 81 RX12 TX12 105 := ⟨rfl, by decide, Or.inl (tin_6 (i := 131) rfl rfl)⟩
theorem wf_RX12_138F : Cond.fieldLink RX12 138 (TX12 81).1 (TX12 81).2.1 (TX12 81).2.2.1 ∈ x_Ts := tin_6 (i := 131) rfl rfl
theorem wf_RX12_141 : x_fl vwCl x_Ts x_AO RX12 141 12 82 RX12 TX12 105 := ⟨rfl, by decide, Or.inl (tin_6 (i := 132) rfl rfl)⟩
theorem wf_RX12_141F : Cond.fieldLink RX12 141 (TX12 82).1 (TX12 82).2.1 (TX12 82).2.2.1 ∈ x_Ts := tin_6 (i := 132) rfl rfl
theorem wf_RX12_144 : x_fl vwCl x_Ts x_AO RX12 144 12 83 RX12 TX12 105 := ⟨rfl, by decide, Or.inl (tin_6 (i := 133) rfl rfl)⟩
theorem wf_RX12_144F : Cond.fieldLink RX12 144 (TX12 83).1 (TX12 83).2.1 (TX12 83).2.2.1 ∈ x_Ts := tin_6 (i := 133) rfl rfl
theorem wf_RX12_147 : x_fl vwCl x_Ts x_AO RX12 147 12 84 RX12 TX12 105 := ⟨rfl, by decide, Or.inl (tin_6 (i := 134) rfl rfl)⟩
theorem wf_RX12_147F : Cond.fieldLink RX12 147 (TX12 84).1 (TX12 84).2.1 (TX12 84).2.2.1 ∈ x_Ts := tin_6 (i := 134) rfl rfl
theorem wf_RX12_151 : x_fl vwCl x_Ts x_AO RX12 151 12 85 RX12 TX12 105 := ⟨rfl, by decide, Or.inl (tin_6 (i := 135) rfl rfl)⟩
theorem wf_RX12_151F : Cond.fieldLink RX12 151 (TX12 85).1 (TX12 85).2.1 (TX12 85).2.2.1 ∈ x_Ts := tin_6 (i := 135) rfl rfl
theorem wf_RX12_154 : x_fl vwCl x_Ts x_AO RX12 154 12 86 RX12 TX12 105 := ⟨rfl, by decide, Or.inl (tin_6 (i := 136) rfl rfl)⟩
theorem wf_RX12_154F : Cond.fieldLink RX12 154 (TX12 86).1 (TX12 86).2.1 (TX12 86).2.2.1 ∈ x_Ts := tin_6 (i := 136) rfl rfl
theorem wf_RX12_157 : x_fl vwCl x_Ts x_AO RX12 157 12 87 RX12 TX12 105 := ⟨rfl, by decide, Or.inl (tin_6 (i := 137) rfl rfl)⟩
theorem wf_RX12_157F : Cond.fieldLink RX12 157 (TX12 87).1 (TX12 87).2.1 (TX12 87).2.2.1 ∈ x_Ts := tin_6 (i := 137) rfl rfl
theorem wf_RX12_160 : x_fl vwCl x_Ts x_AO RX12 160 12 88 RX12 TX12 105 := ⟨rfl, by decide, Or.inl (tin_6 (i := 138) rfl rfl)⟩
theorem wf_RX12_160F : Cond.fieldLink RX12 160 (TX12 88).1 (TX12 88).2.1 (TX12 88).2.2.1 ∈ x_Ts := tin_6 (i := 138) rfl rfl
theorem wf_RX12_163 : x_fl vwCl x_Ts x_AO RX12 163 12 89 RX12 TX12 105 := ⟨rfl, by decide, Or.inl (tin_6 (i := 139) rfl rfl)⟩
theorem wf_RX12_163F : Cond.fieldLink RX12 163 (TX12 89).1 (TX12 89).2.1 (TX12 89).2.2.1 ∈ x_Ts := tin_6 (i := 139) rfl rfl
theorem wf_RX12_556 : x_fl vwCl x_Ts x_AO RX12 556 12 90 RX12 TX12 105 := ⟨rfl, by decide, Or.inl (tin_6 (i := 140) rfl rfl)⟩
theorem wf_RX12_577 : x_fl vwCl x_Ts x_AO RX12 577 12 91 RX12 TX12 105 := ⟨rfl, by decide, Or.inl (tin_6 (i := 141) rfl rfl)⟩
theorem wf_RX12_656 : x_fl vwCl x_Ts x_AO RX12 656 12 92 RX12 TX12 105 := ⟨rfl, by decide, Or.inl (tin_6 (i := 142) rfl rfl)⟩
theorem wf_RX12_653 : x_fl vwCl x_Ts x_AO RX12 653 12 93 RX12 TX12 105 := ⟨rfl, by decide, Or.inl (tin_6 (i := 143) rfl rfl)⟩
theorem wf_RX12_659 : x_fl vwCl x_Ts x_AO RX12 659 12 94 RX12 TX12 105 := ⟨rfl, by decide, Or.inl (tin_6 (i := 144) rfl rfl)⟩
theorem wf_RX12_662 : x_fl vwCl x_Ts x_AO RX12 662 12 95 RX12 TX12 105 := ⟨rfl, by decide, Or.inl (tin_6 (i := 145) rfl rfl)⟩
theorem wf_RX12_166 : x_fl vwCl x_Ts x_AO RX12 166 12 96 RX12 TX12 105 := ⟨rfl, by decide, Or.inl (tin_6 (i := 146) rfl rfl)⟩
theorem wf_RX12_166F : Cond.fieldLink RX12 166 (TX12 96).1 (TX12 96).2.1 (TX12 96).2.2.1 ∈ x_Ts := tin_6 (i := 146) rfl rfl
theorem wf_RX12_169 : x_fl vwCl x_Ts x_AO RX12 169 12 97 RX12 TX12 105 := ⟨rfl, by decide, Or.inl (tin_6 (i := 147) rfl rfl)⟩
theorem wf_RX12_169F : Cond.fieldLink RX12 169 (TX12 97).1 (TX12 97).2.1 (TX12 97).2.2.1 ∈ x_Ts := tin_6 (i := 147) rfl rfl
theorem wf_RX12_172 : x_fl vwCl x_Ts x_AO RX12 172 12 98 RX12 TX12 105 := ⟨rfl, by decide, Or.inl (tin_6 (i := 148) rfl rfl)⟩
theorem wf_RX12_172F : Cond.fieldLink RX12 172 (TX12 98).1 (TX12 98).2.1 (TX12 98).2.2.1 ∈ x_Ts := tin_6 (i := 148) rfl rfl
theorem wf_RX12_175 : x_fl vwCl x_Ts x_AO RX12 175 12 99 RX12 TX12 105 := ⟨rfl, by decide, Or.inl (tin_6 (i := 149) rfl rfl)⟩
theorem wf_RX12_175F : Cond.fieldLink RX12 175 (TX12 99).1 (TX12 99).2.1 (TX12 99).2.2.1 ∈ x_Ts := tin_6 (i := 149) rfl rfl
theorem wf_RX12_178 : x_fl vwCl x_Ts x_AO RX12 178 12 100 RX12 TX12 105 := ⟨rfl, by decide, Or.inl (tin_6 (i := 150) rfl rfl)⟩
theorem wf_RX12_178F : Cond.fieldLink RX12 178 (TX12 100).1 (TX12 100).2.1 (TX12 100).2.2.1 ∈ x_Ts := tin_6 (i := 150) rfl rfl
theorem wf_RX12_683 : x_fl vwCl x_Ts x_AO RX12 683 12 101 RX12 TX12 105 := ⟨rfl, by decide, Or.inl (tin_6 (i := 151) rfl rfl)⟩
theorem wf_RX12_181 : x_fl vwCl x_Ts x_AO RX12 181 12 102 RX12 TX12 105 := ⟨rfl, by decide, Or.inl (tin_6 (i := 152) rfl rfl)⟩
theorem wf_RX12_181F : Cond.fieldLink RX12 181 (TX12 102).1 (TX12 102).2.1 (TX12 102).2.2.1 ∈ x_Ts := tin_6 (i := 152) rfl rfl
theorem wf_RX12_184 : x_fl vwCl x_Ts x_AO RX12 184 12 103 RX12 TX12 105 := ⟨rfl, by decide, Or.inl (tin_6 (i := 153) rfl rfl)⟩
theorem wf_RX12_184F : Cond.fieldLink RX12 184 (TX12 103).1 (TX12 103).2.1 (TX12 103).2.2.1 ∈ x_Ts := tin_6 (i := 153) rfl rfl
theorem wf_RX12_680 : x_fl vwCl x_Ts x_AO RX12 680 12 104 RX12 TX12 105 := ⟨rfl, by decide, Or.inl (tin_6 (i := 154) rfl rfl)⟩
theorem wc_RL_17 : x_cw RL 17 yX12_feed 5 := ⟨Or.inl (tin_7 (i := 127) rfl rfl), tin_1 (i := 10) rfl rfl, by decide +kernel, by decide +kernel, x_pn_of (by decide +kernel)⟩
theorem wc_RX12_193 : x_cw RX12 193 yX12_puts 1 := ⟨Or.inl (tin_7 (i := 131) rfl rfl), tin_1 (i := 10) rfl rfl, by decide +kernel, by decide +kernel, x_pn_of (by decide +kernel)⟩
theorem wc_RL_22 : x_cw RL 22 yX12_end 1 := ⟨Or.inl (tin_7 (i := 135) rfl rfl), tin_1 (i := 10) rfl rfl, by decide +kernel, by decide +kernel, x_pn_of (by decide +kernel)⟩
theorem wc_RL_26 : x_cw RL 26 yX12_expression 1 := ⟨Or.inl (tin_7 (i := 139) rfl rfl), tin_1 (i := 10) rfl rfl, by decide +kernel, by decide +kernel, x_pn_of (by decide +kernel)⟩
theorem wc_RX12_197 : x_cw RX12 197 yX12_keep 2 := ⟨Or.inl (tin_7 (i := 143) rfl rfl), tin_1 (i := 10) rfl rfl, by decide +kernel, by decide +kernel, x_pn_of (by decide +kernel)⟩
theorem wc_RL_30 : x_cw RL 30 yX12_list 1 := ⟨Or.inl (tin_7 (i := 147) rfl rfl), tin_1 (i := 10) rfl rfl, by decide +kernel, by decide +kernel, x_pn_of (by decide +kernel)⟩
theorem wc_RL_37 : x_cw RL 37 yX12_load 2 := ⟨Or.inl (tin_7 (i := 151) rfl rfl), tin_1 (i := 10) rfl rfl, by decide +kernel, by decide +kernel, x_pn_of (by decide +kernel)⟩
theorem wc_RL_42 : x_cw RL 42 yX12_register 1 := ⟨Or.inl (tin_7 (i := 155) rfl rfl), tin_1 (i := 10) rfl rfl, by decide +kernel, by decide +kernel, x_pn_of (by decide +kernel)⟩
theorem wc_RL_47 : x_cw RL 47 yX12_poke 2 := ⟨Or.inl (tin_7 (i := 159) rfl rfl), tin_1 (i := 10) rfl rfl, by decide +kernel, by decide +kernel, x_pn_of (by decide +kernel)⟩
theorem wc_RL_51 : x_cw RL 51 yX12_peek 1 := ⟨Or.inl (tin_7 (i := 163) rfl rfl), tin_1 (i := 10) rfl rfl, by decide +kernel, by decide +kernel, x_pn_of (by decide +kernel)⟩
theorem wc_RL_56 : x_cw RL 56 yX12_frame 1 := ⟨Or.inl (tin_7 (i := 167) rfl rfl), tin_1 (i := 10) rfl rfl, by decide +kernel, by decide +kernel, x_pn_of (by decide +kernel)⟩
theorem wc_RL_60 : x_cw RL 60 yX12_cfa 2 := ⟨Or.inl (tin_7 (i := 171) rfl rfl), tin_1 (i := 10) rfl rfl, by decide +kernel, by decide +kernel, x_pn_of (by decide +kernel)⟩
theorem wc_RL_65 : x_cw RL 65 yX12_set 3 := ⟨Or.inl (tin_7 (i := 175) rfl rfl), tin_1 (i := 10) rfl rfl, by decide +kernel, by decide +kernel, x_pn_of (by decide +kernel)⟩
theorem wc_RL_70 : x_cw RL 70 yX12_run 2 := ⟨Or.inl (tin_7 (i := 179) rfl rfl), tin_1 (i := 10) rfl rfl, by decide +kernel, by decide +kernel, x_pn_of (by decide +kernel)⟩
theorem wc_RX12_386 : x_cw RX12 386 yX12_isFuel 1 := ⟨Or.inl (tin_7 (i := 183) rfl rfl), tin_1 (i := 10) rfl rfl, by decide +kernel, by decide +kernel, x_pn_of (by decide +kernel)⟩
theorem wc_RX12_389 : x_cw RX12 389 yX12_runs 3 := ⟨Or.inl (tin_7 (i := 187) rfl rfl), tin_1 (i := 10) rfl rfl, by decide +kernel, by decide +kernel, x_pn_of (by decide +kernel)⟩
theorem wc_RX12_373 : x_cw RX12 373 yX12_begins 1 := ⟨Or.inl (tin_7 (i := 191) rfl rfl), tin_1 (i := 10) rfl rfl, by decide +kernel, by decide +kernel, x_pn_of (by decide +kernel)⟩
theorem wc_RX12_376 : x_cw RX12 376 yX12_exec 3 := ⟨Or.inl (tin_7 (i := 195) rfl rfl), tin_1 (i := 10) rfl rfl, by decide +kernel, by decide +kernel, x_pn_of (by decide +kernel)⟩
theorem wc_RX12_261 : x_cw RX12 261 yX12_clears 1 := ⟨Or.inl (tin_7 (i := 199) rfl rfl), tin_1 (i := 10) rfl rfl, by decide +kernel, by decide +kernel, x_pn_of (by decide +kernel)⟩
theorem wc_RX12_270 : x_cw RX12 270 yX12_fails 2 := ⟨Or.inl (tin_7 (i := 203) rfl rfl), tin_1 (i := 10) rfl rfl, by decide +kernel, by decide +kernel, x_pn_of (by decide +kernel)⟩
theorem wc_RX12_273 : x_cw RX12 273 yX12_isBase 0 := ⟨Or.inl (tin_7 (i := 207) rfl rfl), tin_1 (i := 10) rfl rfl, by decide +kernel, by decide +kernel, x_pn_of (by decide +kernel)⟩
theorem wc_RX12_292 : x_cw RX12 292 yX12_pushed 2 := ⟨Or.inl (tin_7 (i := 211) rfl rfl), tin_1 (i := 10) rfl rfl, by decide +kernel, by decide +kernel, x_pn_of (by decide +kernel)⟩
theorem wc_RX12_302 : x_cw RX12 302 yX12_isKnown 1 := ⟨Or.inl (tin_7 (i := 215) rfl rfl), tin_1 (i := 10) rfl rfl, by decide +kernel, by decide +kernel, x_pn_of (by decide +kernel)⟩
theorem wc_RX12_306 : x_cw RX12 306 yX12_operands 2 := ⟨Or.inl (tin_7 (i := 219) rfl rfl), tin_1 (i := 10) rfl rfl, by decide +kernel, by decide +kernel, x_pn_of (by decide +kernel)⟩
theorem wc_RX12_234 : x_cw RX12 234 yX12_fixed 3 := ⟨Or.inl (tin_7 (i := 223) rfl rfl), tin_1 (i := 10) rfl rfl, by decide +kernel, by decide +kernel, x_pn_of (by decide +kernel)⟩
theorem wc_RX12_238 : x_cw RX12 238 yX12_leb 2 := ⟨Or.inl (tin_7 (i := 227) rfl rfl), tin_1 (i := 10) rfl rfl, by decide +kernel, by decide +kernel, x_pn_of (by decide +kernel)⟩
theorem wc_RX12_312 : x_cw RX12 312 yX12_isAbove 2 := ⟨Or.inl (tin_7 (i := 233) rfl rfl), tin_1 (i := 10) rfl rfl, by decide +kernel, by decide +kernel, x_pn_of (by decide +kernel)⟩
theorem wc_RX12_317 : x_cw RX12 317 yX12_isPiece 4 := ⟨Or.inl (tin_7 (i := 238) rfl rfl), tin_1 (i := 10) rfl rfl, by decide +kernel, by decide +kernel, x_pn_of (by decide +kernel)⟩
theorem wc_RX12_321 : x_cw RX12 321 yX12_wants 1 := ⟨Or.inl (tin_8 (i := 4) rfl rfl), tin_1 (i := 10) rfl rfl, by decide +kernel, by decide +kernel, x_pn_of (by decide +kernel)⟩
theorem wc_RX12_327 : x_cw RX12 327 yX12_isThere 2 := ⟨Or.inl (tin_8 (i := 9) rfl rfl), tin_1 (i := 10) rfl rfl, by decide +kernel, by decide +kernel, x_pn_of (by decide +kernel)⟩
theorem wc_RX12_330 : x_cw RX12 330 yX12_pushes 1 := ⟨Or.inl (tin_8 (i := 13) rfl rfl), tin_1 (i := 10) rfl rfl, by decide +kernel, by decide +kernel, x_pn_of (by decide +kernel)⟩
theorem wc_RX12_333 : x_cw RX12 333 yX12_pushes_ 6 := ⟨Or.inl (tin_8 (i := 17) rfl rfl), tin_1 (i := 10) rfl rfl, by decide +kernel, by decide +kernel, x_pn_of (by decide +kernel)⟩
theorem wc_RX12_336 : x_cw RX12 336 yX12_acts 4 := ⟨Or.inl (tin_8 (i := 21) rfl rfl), tin_1 (i := 10) rfl rfl, by decide +kernel, by decide +kernel, x_pn_of (by decide +kernel)⟩
theorem wc_RX12_342 : x_cw RX12 342 yX12_read 2 := ⟨Or.inl (tin_8 (i := 25) rfl rfl), tin_1 (i := 10) rfl rfl, by decide +kernel, by decide +kernel, x_pn_of (by decide +kernel)⟩
theorem wc_RX12_346 : x_cw RX12 346 yX12_worked 3 := ⟨Or.inl (tin_8 (i := 29) rfl rfl), tin_1 (i := 10) rfl rfl, by decide +kernel, by decide +kernel, x_pn_of (by decide +kernel)⟩
theorem wc_RX12_246 : x_cw RX12 246 yX12_rest 2 := ⟨Or.inl (tin_8 (i := 33) rfl rfl), tin_1 (i := 10) rfl rfl, by decide +kernel, by decide +kernel, x_pn_of (by decide +kernel)⟩
theorem wc_RX12_242 : x_cw RX12 242 yX12_isBelow 2 := ⟨Or.inl (tin_8 (i := 37) rfl rfl), tin_1 (i := 10) rfl rfl, by decide +kernel, by decide +kernel, x_pn_of (by decide +kernel)⟩
theorem wc_RX12_350 : x_cw RX12 350 yX12_hold 4 := ⟨Or.inl (tin_8 (i := 43) rfl rfl), tin_1 (i := 10) rfl rfl, by decide +kernel, by decide +kernel, x_pn_of (by decide +kernel)⟩
theorem wc_RX12_380 : x_cw RX12 380 yX12_tells 2 := ⟨Or.inl (tin_8 (i := 47) rfl rfl), tin_1 (i := 10) rfl rfl, by decide +kernel, by decide +kernel, x_pn_of (by decide +kernel)⟩
theorem wc_RX12_357 : x_cw RX12 357 yX12_part 6 := ⟨Or.inl (tin_8 (i := 51) rfl rfl), tin_1 (i := 10) rfl rfl, by decide +kernel, by decide +kernel, x_pn_of (by decide +kernel)⟩
theorem wc_RX12_383 : x_cw RX12 383 yX12_empty 0 := ⟨Or.inl (tin_8 (i := 55) rfl rfl), tin_1 (i := 10) rfl rfl, by decide +kernel, by decide +kernel, x_pn_of (by decide +kernel)⟩
theorem wc_RL_75 : x_cw RL 75 yX12_find 4 := ⟨Or.inl (tin_8 (i := 59) rfl rfl), tin_1 (i := 10) rfl rfl, by decide +kernel, by decide +kernel, x_pn_of (by decide +kernel)⟩
theorem wc_RX12_398 : x_cw RX12 398 yX12_finds 5 := ⟨Or.inl (tin_8 (i := 63) rfl rfl), tin_1 (i := 10) rfl rfl, by decide +kernel, by decide +kernel, x_pn_of (by decide +kernel)⟩
theorem wc_RX12_394 : x_cw RX12 394 yX12_number 2 := ⟨Or.inl (tin_8 (i := 67) rfl rfl), tin_1 (i := 10) rfl rfl, by decide +kernel, by decide +kernel, x_pn_of (by decide +kernel)⟩
theorem wc_RL_79 : x_cw RL 79 yX12_told 1 := ⟨Or.inl (tin_8 (i := 71) rfl rfl), tin_1 (i := 10) rfl rfl, by decide +kernel, by decide +kernel, x_pn_of (by decide +kernel)⟩
theorem wc_RL_84 : x_cw RL 84 yX12_parts 0 := ⟨Or.inl (tin_8 (i := 75) rfl rfl), tin_1 (i := 10) rfl rfl, by decide +kernel, by decide +kernel, x_pn_of (by decide +kernel)⟩
theorem wc_RL_89 : x_cw RL 89 yX12_part_ 2 := ⟨Or.inl (tin_8 (i := 79) rfl rfl), tin_1 (i := 10) rfl rfl, by decide +kernel, by decide +kernel, x_pn_of (by decide +kernel)⟩
theorem wc_RL_93 : x_cw RL 93 yX12_fetch 1 := ⟨Or.inl (tin_8 (i := 83) rfl rfl), tin_1 (i := 10) rfl rfl, by decide +kernel, by decide +kernel, x_pn_of (by decide +kernel)⟩
theorem wc_RX12_413 : x_cw RX12 413 yX12_goes 0 := ⟨Or.inl (tin_8 (i := 87) rfl rfl), tin_1 (i := 10) rfl rfl, by decide +kernel, by decide +kernel, x_pn_of (by decide +kernel)⟩
theorem wc_RX12_416 : x_cw RX12 416 yX12_bit 2 := ⟨Or.inl (tin_8 (i := 91) rfl rfl), tin_1 (i := 10) rfl rfl, by decide +kernel, by decide +kernel, x_pn_of (by decide +kernel)⟩
theorem wc_RL_97 : x_cw RL 97 yX12_store 1 := ⟨Or.inl (tin_8 (i := 96) rfl rfl), tin_1 (i := 10) rfl rfl, by decide +kernel, by decide +kernel, x_pn_of (by decide +kernel)⟩
theorem wc_RX12_420 : x_cw RX12 420 yX12_puts_ 3 := ⟨Or.inl (tin_8 (i := 100) rfl rfl), tin_1 (i := 10) rfl rfl, by decide +kernel, by decide +kernel, x_pn_of (by decide +kernel)⟩
theorem wc_RL_101 : x_cw RL 101 yX12_out 1 := ⟨Or.inl (tin_8 (i := 104) rfl rfl), tin_1 (i := 10) rfl rfl, by decide +kernel, by decide +kernel, x_pn_of (by decide +kernel)⟩
theorem wc_RL_105 : x_cw RL 105 yX12_compile 0 := ⟨Or.inl (tin_8 (i := 108) rfl rfl), tin_1 (i := 10) rfl rfl, by decide +kernel, by decide +kernel, x_pn_of (by decide +kernel)⟩
theorem wc_RX12_513 : x_cw RX12 513 yX12_tokens 0 := ⟨Or.inl (tin_8 (i := 112) rfl rfl), tin_1 (i := 10) rfl rfl, by decide +kernel, by decide +kernel, x_pn_of (by decide +kernel)⟩
theorem wc_RX12_449 : x_cw RX12 449 yX12_sign 1 := ⟨Or.inl (tin_8 (i := 116) rfl rfl), tin_1 (i := 10) rfl rfl, by decide +kernel, by decide +kernel, x_pn_of (by decide +kernel)⟩
theorem wc_RX12_423 : x_cw RX12 423 yX12_isSmall 1 := ⟨Or.inl (tin_8 (i := 120) rfl rfl), tin_1 (i := 10) rfl rfl, by decide +kernel, by decide +kernel, x_pn_of (by decide +kernel)⟩
theorem wc_RX12_452 : x_cw RX12 452 yX12_isDigit 1 := ⟨Or.inl (tin_8 (i := 124) rfl rfl), tin_1 (i := 10) rfl rfl, by decide +kernel, by decide +kernel, x_pn_of (by decide +kernel)⟩
theorem wc_RX12_457 : x_cw RX12 457 yX12_token 3 := ⟨Or.inl (tin_8 (i := 129) rfl rfl), tin_1 (i := 10) rfl rfl, by decide +kernel, by decide +kernel, x_pn_of (by decide +kernel)⟩
theorem wc_RX12_461 : x_cw RX12 461 yX12_word 1 := ⟨Or.inl (tin_8 (i := 133) rfl rfl), tin_1 (i := 10) rfl rfl, by decide +kernel, by decide +kernel, x_pn_of (by decide +kernel)⟩
theorem wc_RX12_469 : x_cw RX12 469 yX12_isLetter 1 := ⟨Or.inl (tin_8 (i := 149) rfl rfl), tin_1 (i := 10) rfl rfl, by decide +kernel, by decide +kernel, x_pn_of (by decide +kernel)⟩
theorem wc_RX12_472 : x_cw RX12 472 yX12_signs 2 := ⟨Or.inl (tin_8 (i := 153) rfl rfl), tin_1 (i := 10) rfl rfl, by decide +kernel, by decide +kernel, x_pn_of (by decide +kernel)⟩
theorem wc_RX12_518 : x_cw RX12 518 yX12_declared 0 := ⟨Or.inl (tin_8 (i := 157) rfl rfl), tin_1 (i := 10) rfl rfl, by decide +kernel, by decide +kernel, x_pn_of (by decide +kernel)⟩
theorem wc_RX12_487 : x_cw RX12 487 yX12_fail 1 := ⟨Or.inl (tin_8 (i := 161) rfl rfl), tin_1 (i := 10) rfl rfl, by decide +kernel, by decide +kernel, x_pn_of (by decide +kernel)⟩
theorem wc_RX12_527 : x_cw RX12 527 yX12_need 1 := ⟨Or.inl (tin_8 (i := 165) rfl rfl), tin_1 (i := 10) rfl rfl, by decide +kernel, by decide +kernel, x_pn_of (by decide +kernel)⟩
theorem wc_RX12_484 : x_cw RX12 484 yX12_isSign 1 := ⟨Or.inl (tin_8 (i := 169) rfl rfl), tin_1 (i := 10) rfl rfl, by decide +kernel, by decide +kernel, x_pn_of (by decide +kernel)⟩
theorem wc_RX12_530 : x_cw RX12 530 yX12_rows 0 := ⟨Or.inl (tin_8 (i := 173) rfl rfl), tin_1 (i := 10) rfl rfl, by decide +kernel, by decide +kernel, x_pn_of (by decide +kernel)⟩
theorem wc_RX12_505 : x_cw RX12 505 yX12_emits 2 := ⟨Or.inl (tin_8 (i := 177) rfl rfl), tin_1 (i := 10) rfl rfl, by decide +kernel, by decide +kernel, x_pn_of (by decide +kernel)⟩
theorem wc_RX12_496 : x_cw RX12 496 yX12_emit 1 := ⟨Or.inl (tin_8 (i := 181) rfl rfl), tin_1 (i := 10) rfl rfl, by decide +kernel, by decide +kernel, x_pn_of (by decide +kernel)⟩
theorem wc_RX12_532 : x_cw RX12 532 yX12_location 0 := ⟨Or.inl (tin_8 (i := 185) rfl rfl), tin_1 (i := 10) rfl rfl, by decide +kernel, by decide +kernel, x_pn_of (by decide +kernel)⟩
theorem wc_RX12_538 : x_cw RX12 538 yX12_opens 0 := ⟨Or.inl (tin_8 (i := 189) rfl rfl), tin_1 (i := 10) rfl rfl, by decide +kernel, by decide +kernel, x_pn_of (by decide +kernel)⟩
theorem wc_RX12_541 : x_cw RX12 541 yX12_isPlace 0 := ⟨Or.inl (tin_8 (i := 193) rfl rfl), tin_1 (i := 10) rfl rfl, by decide +kernel, by decide +kernel, x_pn_of (by decide +kernel)⟩
theorem wc_RX12_535 : x_cw RX12 535 yX12_isWord 1 := ⟨Or.inl (tin_8 (i := 197) rfl rfl), tin_1 (i := 10) rfl rfl, by decide +kernel, by decide +kernel, x_pn_of (by decide +kernel)⟩
theorem wc_RX12_544 : x_cw RX12 544 yX12_place 0 := ⟨Or.inl (tin_8 (i := 201) rfl rfl), tin_1 (i := 10) rfl rfl, by decide +kernel, by decide +kernel, x_pn_of (by decide +kernel)⟩
theorem wc_RX12_553 : x_cw RX12 553 yX12_chosen 0 := ⟨Or.inl (tin_8 (i := 205) rfl rfl), tin_1 (i := 10) rfl rfl, by decide +kernel, by decide +kernel, x_pn_of (by decide +kernel)⟩
theorem wc_RX12_571 : x_cw RX12 571 yX12_operand 0 := ⟨Or.inl (tin_8 (i := 209) rfl rfl), tin_1 (i := 10) rfl rfl, by decide +kernel, by decide +kernel, x_pn_of (by decide +kernel)⟩
theorem wc_RX12_580 : x_cw RX12 580 yX12_later 2 := ⟨Or.inl (tin_8 (i := 213) rfl rfl), tin_1 (i := 10) rfl rfl, by decide +kernel, by decide +kernel, x_pn_of (by decide +kernel)⟩
theorem wc_RX12_583 : x_cw RX12 583 yX12_push 1 := ⟨Or.inl (tin_8 (i := 217) rfl rfl), tin_1 (i := 10) rfl rfl, by decide +kernel, by decide +kernel, x_pn_of (by decide +kernel)⟩
theorem wc_RX12_586 : x_cw RX12 586 yX12_registered 0 := ⟨Or.inl (tin_8 (i := 224) rfl rfl), tin_1 (i := 10) rfl rfl, by decide +kernel, by decide +kernel, x_pn_of (by decide +kernel)⟩
theorem wc_RX12_589 : x_cw RX12 589 yX12_combined 1 := ⟨Or.inl (tin_8 (i := 228) rfl rfl), tin_1 (i := 10) rfl rfl, by decide +kernel, by decide +kernel, x_pn_of (by decide +kernel)⟩
theorem wc_RX12_559 : x_cw RX12 559 yX12_tops 0 := ⟨Or.inl (tin_8 (i := 232) rfl rfl), tin_1 (i := 10) rfl rfl, by decide +kernel, by decide +kernel, x_pn_of (by decide +kernel)⟩
theorem wc_RX12_599 : x_cw RX12 599 yX12_adds 1 := ⟨Or.inl (tin_8 (i := 236) rfl rfl), tin_1 (i := 10) rfl rfl, by decide +kernel, by decide +kernel, x_pn_of (by decide +kernel)⟩
theorem wc_RX12_602 : x_cw RX12 602 yX12_isAlone 1 := ⟨Or.inl (tin_9 (i := 2) rfl rfl), tin_1 (i := 10) rfl rfl, by decide +kernel, by decide +kernel, x_pn_of (by decide +kernel)⟩
theorem wc_RX12_607 : x_cw RX12 607 yX12_multiplies 2 := ⟨Or.inl (tin_9 (i := 6) rfl rfl), tin_1 (i := 10) rfl rfl, by decide +kernel, by decide +kernel, x_pn_of (by decide +kernel)⟩
theorem wc_RX12_593 : x_cw RX12 593 yX12_signed 1 := ⟨Or.inl (tin_9 (i := 12) rfl rfl), tin_1 (i := 10) rfl rfl, by decide +kernel, by decide +kernel, x_pn_of (by decide +kernel)⟩
theorem wc_RX12_596 : x_cw RX12 596 yX12_finished 0 := ⟨Or.inl (tin_9 (i := 18) rfl rfl), tin_1 (i := 10) rfl rfl, by decide +kernel, by decide +kernel, x_pn_of (by decide +kernel)⟩
theorem wc_RX12_563 : x_cw RX12 563 yX12_emitted 1 := ⟨Or.inl (tin_9 (i := 22) rfl rfl), tin_1 (i := 10) rfl rfl, by decide +kernel, by decide +kernel, x_pn_of (by decide +kernel)⟩
theorem wc_RX12_574 : x_cw RX12 574 yX12_operator 0 := ⟨Or.inl (tin_9 (i := 26) rfl rfl), tin_1 (i := 10) rfl rfl, by decide +kernel, by decide +kernel, x_pn_of (by decide +kernel)⟩
theorem wc_RX12_610 : x_cw RX12 610 yX12_binary 2 := ⟨Or.inl (tin_9 (i := 30) rfl rfl), tin_1 (i := 10) rfl rfl, by decide +kernel, by decide +kernel, x_pn_of (by decide +kernel)⟩
theorem wc_RX12_566 : x_cw RX12 566 yX12_reduced 1 := ⟨Or.inl (tin_9 (i := 34) rfl rfl), tin_1 (i := 10) rfl rfl, by decide +kernel, by decide +kernel, x_pn_of (by decide +kernel)⟩
theorem wc_RX12_614 : x_cw RX12 614 yX12_added 0 := ⟨Or.inl (tin_9 (i := 38) rfl rfl), tin_1 (i := 10) rfl rfl, by decide +kernel, by decide +kernel, x_pn_of (by decide +kernel)⟩
theorem wc_RX12_549 : x_cw RX12 549 yX12_unsigned 1 := ⟨Or.inl (tin_9 (i := 42) rfl rfl), tin_1 (i := 10) rfl rfl, by decide +kernel, by decide +kernel, x_pn_of (by decide +kernel)⟩
theorem wc_RX12_617 : x_cw RX12 617 yX12_shifts 2 := ⟨Or.inl (tin_9 (i := 46) rfl rfl), tin_1 (i := 10) rfl rfl, by decide +kernel, by decide +kernel, x_pn_of (by decide +kernel)⟩
theorem wc_RX12_620 : x_cw RX12 620 yX12_compares 2 := ⟨Or.inl (tin_9 (i := 53) rfl rfl), tin_1 (i := 10) rfl rfl, by decide +kernel, by decide +kernel, x_pn_of (by decide +kernel)⟩
theorem wc_RX12_623 : x_cw RX12 623 yX12_ended 0 := ⟨Or.inl (tin_9 (i := 63) rfl rfl), tin_1 (i := 10) rfl rfl, by decide +kernel, by decide +kernel, x_pn_of (by decide +kernel)⟩
theorem wc_RX12_626 : x_cw RX12 626 yX12_reducedAll 0 := ⟨Or.inl (tin_9 (i := 67) rfl rfl), tin_1 (i := 10) rfl rfl, by decide +kernel, by decide +kernel, x_pn_of (by decide +kernel)⟩
theorem wc_RX12_569 : x_cw RX12 569 yX12_turned 0 := ⟨Or.inl (tin_9 (i := 71) rfl rfl), tin_1 (i := 10) rfl rfl, by decide +kernel, by decide +kernel, x_pn_of (by decide +kernel)⟩
theorem wc_RX12_521 : x_cw RX12 521 yX12_faulty 2 := ⟨Or.inl (tin_9 (i := 76) rfl rfl), tin_1 (i := 10) rfl rfl, by decide +kernel, by decide +kernel, x_pn_of (by decide +kernel)⟩
theorem wc_RL_109 : x_cw RL 109 yX12_variable 2 := ⟨Or.inl (tin_9 (i := 80) rfl rfl), tin_1 (i := 10) rfl rfl, by decide +kernel, by decide +kernel, x_pn_of (by decide +kernel)⟩
theorem wc_RL_114 : x_cw RL 114 yX12_where 3 := ⟨Or.inl (tin_9 (i := 84) rfl rfl), tin_1 (i := 10) rfl rfl, by decide +kernel, by decide +kernel, x_pn_of (by decide +kernel)⟩
theorem wc_RL_119 : x_cw RL 119 yX12_means 2 := ⟨Or.inl (tin_9 (i := 88) rfl rfl), tin_1 (i := 10) rfl rfl, by decide +kernel, by decide +kernel, x_pn_of (by decide +kernel)⟩
theorem wc_RX12_665 : x_cw RX12 665 yX12_meantLocation 1 := ⟨Or.inl (tin_9 (i := 92) rfl rfl), tin_1 (i := 10) rfl rfl, by decide +kernel, by decide +kernel, x_pn_of (by decide +kernel)⟩
theorem wc_RX12_669 : x_cw RX12 669 yX12_keepsSign 1 := ⟨Or.inl (tin_9 (i := 96) rfl rfl), tin_1 (i := 10) rfl rfl, by decide +kernel, by decide +kernel, x_pn_of (by decide +kernel)⟩
theorem wc_RX12_672 : x_cw RX12 672 yX12_meantPlace 2 := ⟨Or.inl (tin_9 (i := 100) rfl rfl), tin_1 (i := 10) rfl rfl, by decide +kernel, by decide +kernel, x_pn_of (by decide +kernel)⟩
theorem wc_RX12_676 : x_cw RX12 676 yX12_choice 1 := ⟨Or.inl (tin_9 (i := 104) rfl rfl), tin_1 (i := 10) rfl rfl, by decide +kernel, by decide +kernel, x_pn_of (by decide +kernel)⟩
theorem wc_RX12_686 : x_cw RX12 686 yX12_meansOperand 0 := ⟨Or.inl (tin_9 (i := 108) rfl rfl), tin_1 (i := 10) rfl rfl, by decide +kernel, by decide +kernel, x_pn_of (by decide +kernel)⟩
theorem wc_RX12_694 : x_cw RX12 694 yX12_keepsWord 1 := ⟨Or.inl (tin_9 (i := 113) rfl rfl), tin_1 (i := 10) rfl rfl, by decide +kernel, by decide +kernel, x_pn_of (by decide +kernel)⟩
theorem wc_RX12_699 : x_cw RX12 699 yX12_value 1 := ⟨Or.inl (tin_9 (i := 118) rfl rfl), tin_1 (i := 10) rfl rfl, by decide +kernel, by decide +kernel, x_pn_of (by decide +kernel)⟩
theorem wc_RX12_704 : x_cw RX12 704 yX12_does 0 := ⟨Or.inl (tin_9 (i := 123) rfl rfl), tin_1 (i := 10) rfl rfl, by decide +kernel, by decide +kernel, x_pn_of (by decide +kernel)⟩
theorem wc_RX12_709 : x_cw RX12 709 yX12_bases 0 := ⟨Or.inl (tin_9 (i := 128) rfl rfl), tin_1 (i := 10) rfl rfl, by decide +kernel, by decide +kernel, x_pn_of (by decide +kernel)⟩
theorem wc_RX12_712 : x_cw RX12 712 yX12_meansFinished 0 := ⟨Or.inl (tin_9 (i := 132) rfl rfl), tin_1 (i := 10) rfl rfl, by decide +kernel, by decide +kernel, x_pn_of (by decide +kernel)⟩
theorem wc_RX12_689 : x_cw RX12 689 yX12_meansOperator 0 := ⟨Or.inl (tin_9 (i := 136) rfl rfl), tin_1 (i := 10) rfl rfl, by decide +kernel, by decide +kernel, x_pn_of (by decide +kernel)⟩
theorem wc_RX12_718 : x_cw RX12 718 yX12_meansBinary 2 := ⟨Or.inl (tin_9 (i := 140) rfl rfl), tin_1 (i := 10) rfl rfl, by decide +kernel, by decide +kernel, x_pn_of (by decide +kernel)⟩
theorem wc_RX12_715 : x_cw RX12 715 yX12_meansReduced 1 := ⟨Or.inl (tin_9 (i := 144) rfl rfl), tin_1 (i := 10) rfl rfl, by decide +kernel, by decide +kernel, x_pn_of (by decide +kernel)⟩
theorem wc_RX12_721 : x_cw RX12 721 yX12_meansReducedAll 0 := ⟨Or.inl (tin_9 (i := 148) rfl rfl), tin_1 (i := 10) rfl rfl, by decide +kernel, by decide +kernel, x_pn_of (by decide +kernel)⟩
theorem wi_yX0_init : Cond.instanceMethod yX0_init ∈ x_Ts := tin_2 (i := 91) rfl rfl
theorem wi_yX0_code : Cond.instanceMethod yX0_code ∈ x_Ts := tin_5 (i := 148) rfl rfl
theorem wv_yX0_code : Cond.selects yX0_code.cls yX0_code yX0_code ∈ x_Ts := sin_5 (i := 10) rfl rfl
theorem wi_yX0_putLocation : Cond.instanceMethod yX0_putLocation ∈ x_Ts := tin_5 (i := 152) rfl rfl
theorem wv_yX0_putLocation : Cond.selects yX0_putLocation.cls yX0_putLocation yX0_putLocation ∈ x_Ts := sin_5 (i := 11) rfl rfl
theorem wi_yX0_putPlace : Cond.instanceMethod yX0_putPlace ∈ x_Ts := tin_5 (i := 156) rfl rfl
theorem wv_yX0_putPlace : Cond.selects yX0_putPlace.cls yX0_putPlace yX0_putPlace ∈ x_Ts := sin_5 (i := 12) rfl rfl
theorem wi_yX0_putBlock : Cond.instanceMethod yX0_putBlock ∈ x_Ts := tin_5 (i := 221) rfl rfl
theorem wv_yX0_putBlock : Cond.selects yX0_putBlock.cls yX0_putBlock yX0_putBlock ∈ x_Ts := sin_6 (i := 8) rfl rfl
theorem wi_yX0_putNode : Cond.instanceMethod yX0_putNode ∈ x_Ts := tin_5 (i := 164) rfl rfl
theorem wv_yX0_putNode : Cond.selects yX0_putNode.cls yX0_putNode yX0_putNode ∈ x_Ts := sin_5 (i := 14) rfl rfl
theorem wi_yX0_putUnary : Cond.instanceMethod yX0_putUnary ∈ x_Ts := tin_5 (i := 216) rfl rfl
theorem wv_yX0_putUnary : Cond.selects yX0_putUnary.cls yX0_putUnary yX0_putUnary ∈ x_Ts := sin_6 (i := 7) rfl rfl
theorem wi_yX0_putChoice : Cond.instanceMethod yX0_putChoice ∈ x_Ts := tin_5 (i := 191) rfl rfl
theorem wv_yX0_putChoice : Cond.selects yX0_putChoice.cls yX0_putChoice yX0_putChoice ∈ x_Ts := sin_6 (i := 3) rfl rfl
theorem wi_yX0_putChain : Cond.instanceMethod yX0_putChain ∈ x_Ts := tin_5 (i := 199) rfl rfl
theorem wv_yX0_putChain : Cond.selects yX0_putChain.cls yX0_putChain yX0_putChain ∈ x_Ts := sin_6 (i := 5) rfl rfl
theorem wt_yX0_isBased : Cond.static yX0_isBased ∈ x_Ts := tin_5 (i := 202) rfl rfl
theorem wt_yX0_isPlainTerm : Cond.static yX0_isPlainTerm ∈ x_Ts := tin_5 (i := 205) rfl rfl
theorem wi_yX0_putBased : Cond.instanceMethod yX0_putBased ∈ x_Ts := tin_5 (i := 180) rfl rfl
theorem wv_yX0_putBased : Cond.selects yX0_putBased.cls yX0_putBased yX0_putBased ∈ x_Ts := sin_6 (i := 1) rfl rfl
theorem wi_yX0_putConstant : Cond.instanceMethod yX0_putConstant ∈ x_Ts := tin_5 (i := 168) rfl rfl
theorem wv_yX0_putConstant : Cond.selects yX0_putConstant.cls yX0_putConstant yX0_putConstant ∈ x_Ts := sin_5 (i := 15) rfl rfl
theorem wi_yX0_put : Cond.instanceMethod yX0_put ∈ x_Ts := tin_5 (i := 160) rfl rfl
theorem wv_yX0_put : Cond.selects yX0_put.cls yX0_put yX0_put ∈ x_Ts := sin_5 (i := 13) rfl rfl
theorem wi_yX0_putNumber : Cond.instanceMethod yX0_putNumber ∈ x_Ts := tin_5 (i := 174) rfl rfl
theorem wv_yX0_putNumber : Cond.selects yX0_putNumber.cls yX0_putNumber yX0_putNumber ∈ x_Ts := sin_6 (i := 0) rfl rfl
theorem wi_yX0_patch : Cond.instanceMethod yX0_patch ∈ x_Ts := tin_5 (i := 195) rfl rfl
theorem wv_yX0_patch : Cond.selects yX0_patch.cls yX0_patch yX0_patch ∈ x_Ts := sin_6 (i := 4) rfl rfl
theorem wi_yX0_putLeb : Cond.instanceMethod yX0_putLeb ∈ x_Ts := tin_5 (i := 209) rfl rfl
theorem wv_yX0_putLeb : Cond.selects yX0_putLeb.cls yX0_putLeb yX0_putLeb ∈ x_Ts := sin_6 (i := 6) rfl rfl
theorem wi_yX0_putSignedLeb : Cond.instanceMethod yX0_putSignedLeb ∈ x_Ts := tin_5 (i := 184) rfl rfl
theorem wv_yX0_putSignedLeb : Cond.selects yX0_putSignedLeb.cls yX0_putSignedLeb yX0_putSignedLeb ∈ x_Ts := sin_6 (i := 2) rfl rfl
theorem wi_yX1_init : Cond.instanceMethod yX1_init ∈ x_Ts := tin_1 (i := 91) rfl rfl
theorem wi_yX1_registerValue : Cond.instanceMethod yX1_registerValue ∈ x_Ts := tin_2 (i := 191) rfl rfl
theorem wv_yX1_registerValue : Cond.selects yX1_registerValue.cls yX1_registerValue yX1_registerValue ∈ x_Ts := sin_1 (i := 2) rfl rfl
theorem wi_yX1_cfaValue : Cond.instanceMethod yX1_cfaValue ∈ x_Ts := tin_3 (i := 158) rfl rfl
theorem wv_yX1_cfaValue : Cond.selects yX1_cfaValue.cls yX1_cfaValue yX1_cfaValue ∈ x_Ts := sin_3 (i := 5) rfl rfl
theorem wi_yX1_hasBytes : Cond.instanceMethod yX1_hasBytes ∈ x_Ts := tin_3 (i := 134) rfl rfl
theorem wv_yX1_hasBytes : Cond.selects yX1_hasBytes.cls yX1_hasBytes yX1_hasBytes ∈ x_Ts := sin_3 (i := 0) rfl rfl
theorem wi_yX1_bytes : Cond.instanceMethod yX1_bytes ∈ x_Ts := tin_3 (i := 138) rfl rfl
theorem wv_yX1_bytes : Cond.selects yX1_bytes.cls yX1_bytes yX1_bytes ∈ x_Ts := sin_3 (i := 1) rfl rfl
theorem wi_yX1_bitOf : Cond.instanceMethod yX1_bitOf ∈ x_Ts := tin_3 (i := 219) rfl rfl
theorem wv_yX1_bitOf : Cond.selects yX1_bitOf.cls yX1_bitOf yX1_bitOf ∈ x_Ts := sin_3 (i := 12) rfl rfl
theorem wi_yX1_putBit : Cond.instanceMethod yX1_putBit ∈ x_Ts := tin_3 (i := 228) rfl rfl
theorem wv_yX1_putBit : Cond.selects yX1_putBit.cls yX1_putBit yX1_putBit ∈ x_Ts := sin_3 (i := 13) rfl rfl
theorem wi_yX2_init : Cond.instanceMethod yX2_init ∈ x_Ts := tin_1 (i := 218) rfl rfl
theorem wi_yX2_say : Cond.instanceMethod yX2_say ∈ x_Ts := tin_6 (i := 4) rfl rfl
theorem wv_yX2_say : Cond.selects yX2_say.cls yX2_say yX2_say ∈ x_Ts := sin_6 (i := 10) rfl rfl
theorem wt_yX2_placeFor : Cond.static yX2_placeFor ∈ x_Ts := tin_6 (i := 8) rfl rfl
theorem wi_yX2_meet : Cond.instanceMethod yX2_meet ∈ x_Ts := tin_6 (i := 13) rfl rfl
theorem wv_yX2_meet : Cond.selects yX2_meet.cls yX2_meet yX2_meet ∈ x_Ts := sin_6 (i := 11) rfl rfl
theorem wi_yX2_value : Cond.instanceMethod yX2_value ∈ x_Ts := tin_6 (i := 18) rfl rfl
theorem wv_yX2_value : Cond.selects yX2_value.cls yX2_value yX2_value ∈ x_Ts := sin_6 (i := 12) rfl rfl
theorem wi_yX2_fail : Cond.instanceMethod yX2_fail ∈ x_Ts := tin_6 (i := 24) rfl rfl
theorem wv_yX2_fail : Cond.selects yX2_fail.cls yX2_fail yX2_fail ∈ x_Ts := sin_6 (i := 13) rfl rfl
theorem wi_yX2_chainValue : Cond.instanceMethod yX2_chainValue ∈ x_Ts := tin_6 (i := 29) rfl rfl
theorem wv_yX2_chainValue : Cond.selects yX2_chainValue.cls yX2_chainValue yX2_chainValue ∈ x_Ts := sin_6 (i := 14) rfl rfl
theorem wi_yX2_unaryValue : Cond.instanceMethod yX2_unaryValue ∈ x_Ts := tin_6 (i := 35) rfl rfl
theorem wv_yX2_unaryValue : Cond.selects yX2_unaryValue.cls yX2_unaryValue yX2_unaryValue ∈ x_Ts := sin_6 (i := 15) rfl rfl
theorem wi_yX3_init : Cond.instanceMethod yX3_init ∈ x_Ts := tin_5 (i := 91) rfl rfl
theorem wi_yX4_init : Cond.instanceMethod yX4_init ∈ x_Ts := tin_2 (i := 5) rfl rfl
theorem wi_yX4_begin : Cond.instanceMethod yX4_begin ∈ x_Ts := tin_4 (i := 1) rfl rfl
theorem wv_yX4_begin : Cond.selects yX4_begin.cls yX4_begin yX4_begin ∈ x_Ts := sin_3 (i := 14) rfl rfl
theorem wi_yX4_goesOn : Cond.instanceMethod yX4_goesOn ∈ x_Ts := tin_4 (i := 170) rfl rfl
theorem wv_yX4_goesOn : Cond.selects yX4_goesOn.cls yX4_goesOn yX4_goesOn ∈ x_Ts := sin_4 (i := 9) rfl rfl
theorem wi_yX4_take : Cond.instanceMethod yX4_take ∈ x_Ts := tin_4 (i := 166) rfl rfl
theorem wv_yX4_take : Cond.selects yX4_take.cls yX4_take yX4_take ∈ x_Ts := sin_4 (i := 8) rfl rfl
theorem wi_yX4_refuse : Cond.instanceMethod yX4_refuse ∈ x_Ts := tin_4 (i := 191) rfl rfl
theorem wv_yX4_refuse : Cond.selects yX4_refuse.cls yX4_refuse yX4_refuse ∈ x_Ts := sin_4 (i := 12) rfl rfl
theorem wi_yX4_expect : Cond.instanceMethod yX4_expect ∈ x_Ts := tin_5 (i := 8) rfl rfl
theorem wv_yX4_expect : Cond.selects yX4_expect.cls yX4_expect yX4_expect ∈ x_Ts := sin_4 (i := 14) rfl rfl
theorem wi_yX4_raise : Cond.instanceMethod yX4_raise ∈ x_Ts := tin_5 (i := 24) rfl rfl
theorem wv_yX4_raise : Cond.selects yX4_raise.cls yX4_raise yX4_raise ∈ x_Ts := sin_5 (i := 2) rfl rfl
theorem wi_yX4_readDeclaration : Cond.instanceMethod yX4_readDeclaration ∈ x_Ts := tin_4 (i := 174) rfl rfl
theorem wv_yX4_readDeclaration : Cond.selects yX4_readDeclaration.cls yX4_readDeclaration yX4_readDeclaration ∈ x_Ts := sin_4 (i := 10) rfl rfl
theorem wi_yX4_isKnown : Cond.instanceMethod yX4_isKnown ∈ x_Ts := tin_4 (i := 195) rfl rfl
theorem wv_yX4_isKnown : Cond.selects yX4_isKnown.cls yX4_isKnown yX4_isKnown ∈ x_Ts := sin_4 (i := 13) rfl rfl
theorem wt_yX4_areSame : Cond.static yX4_areSame ∈ x_Ts := tin_4 (i := 198) rfl rfl
theorem wi_yX4_readRows : Cond.instanceMethod yX4_readRows ∈ x_Ts := tin_5 (i := 12) rfl rfl
theorem wv_yX4_readRows : Cond.selects yX4_readRows.cls yX4_readRows yX4_readRows ∈ x_Ts := sin_4 (i := 15) rfl rfl
theorem wi_yX4_readRange : Cond.instanceMethod yX4_readRange ∈ x_Ts := tin_5 (i := 16) rfl rfl
theorem wv_yX4_readRange : Cond.selects yX4_readRange.cls yX4_readRange yX4_readRange ∈ x_Ts := sin_5 (i := 0) rfl rfl
theorem wi_yX4_readLocation : Cond.instanceMethod yX4_readLocation ∈ x_Ts := tin_5 (i := 20) rfl rfl
theorem wv_yX4_readLocation : Cond.selects yX4_readLocation.cls yX4_readLocation yX4_readLocation ∈ x_Ts := sin_5 (i := 1) rfl rfl
theorem wi_yX4_readWidth : Cond.instanceMethod yX4_readWidth ∈ x_Ts := tin_5 (i := 143) rfl rfl
theorem wv_yX4_readWidth : Cond.selects yX4_readWidth.cls yX4_readWidth yX4_readWidth ∈ x_Ts := sin_5 (i := 9) rfl rfl
theorem wt_yX4_beginsPlace : Cond.static yX4_beginsPlace ∈ x_Ts := tin_5 (i := 69) rfl rfl
theorem wi_yX4_readPlace : Cond.instanceMethod yX4_readPlace ∈ x_Ts := tin_5 (i := 28) rfl rfl
theorem wv_yX4_readPlace : Cond.selects yX4_readPlace.cls yX4_readPlace yX4_readPlace ∈ x_Ts := sin_5 (i := 3) rfl rfl
theorem wi_yX4_refuseHighRegister : Cond.instanceMethod yX4_refuseHighRegister ∈ x_Ts := tin_5 (i := 73) rfl rfl
theorem wv_yX4_refuseHighRegister : Cond.selects yX4_refuseHighRegister.cls yX4_refuseHighRegister yX4_refuseHighRegister ∈ x_Ts := sin_5 (i := 4) rfl rfl
theorem wi_yX4_readBlock : Cond.instanceMethod yX4_readBlock ∈ x_Ts := tin_5 (i := 137) rfl rfl
theorem wv_yX4_readBlock : Cond.selects yX4_readBlock.cls yX4_readBlock yX4_readBlock ∈ x_Ts := sin_5 (i := 8) rfl rfl
theorem wi_yX4_readChoice : Cond.instanceMethod yX4_readChoice ∈ x_Ts := tin_5 (i := 78) rfl rfl
theorem wv_yX4_readChoice : Cond.selects yX4_readChoice.cls yX4_readChoice yX4_readChoice ∈ x_Ts := sin_5 (i := 5) rfl rfl
theorem wi_yX4_readLevel : Cond.instanceMethod yX4_readLevel ∈ x_Ts := tin_5 (i := 82) rfl rfl
theorem wv_yX4_readLevel : Cond.selects yX4_readLevel.cls yX4_readLevel yX4_readLevel ∈ x_Ts := sin_5 (i := 6) rfl rfl
theorem wt_yX4_levelOf : Cond.static yX4_levelOf ∈ x_Ts := tin_5 (i := 133) rfl rfl
theorem wi_yX4_readUnary : Cond.instanceMethod yX4_readUnary ∈ x_Ts := tin_5 (i := 86) rfl rfl
theorem wv_yX4_readUnary : Cond.selects yX4_readUnary.cls yX4_readUnary yX4_readUnary ∈ x_Ts := sin_5 (i := 7) rfl rfl
theorem wt_yX4_operationOf : Cond.static yX4_operationOf ∈ x_Ts := tin_5 (i := 212) rfl rfl
theorem wi_yX5_init : Cond.instanceMethod yX5_init ∈ x_Ts := tin_1 (i := 40) rfl rfl
theorem wi_yX5_become : Cond.instanceMethod yX5_become ∈ x_Ts := tin_2 (i := 234) rfl rfl
theorem wv_yX5_become : Cond.selects yX5_become.cls yX5_become yX5_become ∈ x_Ts := sin_1 (i := 6) rfl rfl
theorem wi_yX5_becomeBlock : Cond.instanceMethod yX5_becomeBlock ∈ x_Ts := tin_3 (i := 121) rfl rfl
theorem wv_yX5_becomeBlock : Cond.selects yX5_becomeBlock.cls yX5_becomeBlock yX5_becomeBlock ∈ x_Ts := sin_2 (i := 13) rfl rfl
theorem wi_yX5_take : Cond.instanceMethod yX5_take ∈ x_Ts := tin_3 (i := 113) rfl rfl
theorem wv_yX5_take : Cond.selects yX5_take.cls yX5_take yX5_take ∈ x_Ts := sin_2 (i := 11) rfl rfl
theorem wi_yX5_blockByte : Cond.instanceMethod yX5_blockByte ∈ x_Ts := tin_3 (i := 205) rfl rfl
theorem wv_yX5_blockByte : Cond.selects yX5_blockByte.cls yX5_blockByte yX5_blockByte ∈ x_Ts := sin_3 (i := 11) rfl rfl
theorem wi_yX6_init : Cond.instanceMethod yX6_init ∈ x_Ts := tin_5 (i := 33) rfl rfl
theorem wi_yX7_init : Cond.instanceMethod yX7_init ∈ x_Ts := tin_2 (i := 11) rfl rfl
theorem wi_yX7_readAll : Cond.instanceMethod yX7_readAll ∈ x_Ts := tin_4 (i := 5) rfl rfl
theorem wv_yX7_readAll : Cond.selects yX7_readAll.cls yX7_readAll yX7_readAll ∈ x_Ts := sin_3 (i := 15) rfl rfl
theorem wi_yX7_readToken : Cond.instanceMethod yX7_readToken ∈ x_Ts := tin_4 (i := 10) rfl rfl
theorem wv_yX7_readToken : Cond.selects yX7_readToken.cls yX7_readToken yX7_readToken ∈ x_Ts := sin_4 (i := 0) rfl rfl
theorem wi_yX7_letter : Cond.instanceMethod yX7_letter ∈ x_Ts := tin_4 (i := 14) rfl rfl
theorem wv_yX7_letter : Cond.selects yX7_letter.cls yX7_letter yX7_letter ∈ x_Ts := sin_4 (i := 1) rfl rfl
theorem wt_yX7_isSmall : Cond.static yX7_isSmall ∈ x_Ts := tin_4 (i := 17) rfl rfl
theorem wt_yX7_isDigit : Cond.static yX7_isDigit ∈ x_Ts := tin_4 (i := 24) rfl rfl
theorem wi_yX7_readWord : Cond.instanceMethod yX7_readWord ∈ x_Ts := tin_4 (i := 21) rfl rfl
theorem wv_yX7_readWord : Cond.selects yX7_readWord.cls yX7_readWord yX7_readWord ∈ x_Ts := sin_4 (i := 2) rfl rfl
theorem wi_yX7_wordKind : Cond.instanceMethod yX7_wordKind ∈ x_Ts := tin_4 (i := 28) rfl rfl
theorem wv_yX7_wordKind : Cond.selects yX7_wordKind.cls yX7_wordKind yX7_wordKind ∈ x_Ts := sin_4 (i := 3) rfl rfl
theorem wi_yX7_isWord : Cond.instanceMethod yX7_isWord ∈ x_Ts := tin_4 (i := 33) rfl rfl
theorem wv_yX7_isWord : Cond.selects yX7_isWord.cls yX7_isWord yX7_isWord ∈ x_Ts := sin_4 (i := 4) rfl rfl
theorem wi_yX7_readNumber : Cond.instanceMethod yX7_readNumber ∈ x_Ts := tin_4 (i := 94) rfl rfl
theorem wv_yX7_readNumber : Cond.selects yX7_readNumber.cls yX7_readNumber yX7_readNumber ∈ x_Ts := sin_4 (i := 5) rfl rfl
theorem wi_yX7_readAt : Cond.instanceMethod yX7_readAt ∈ x_Ts := tin_4 (i := 99) rfl rfl
theorem wv_yX7_readAt : Cond.selects yX7_readAt.cls yX7_readAt yX7_readAt ∈ x_Ts := sin_4 (i := 6) rfl rfl
theorem wi_yX7_readSign : Cond.instanceMethod yX7_readSign ∈ x_Ts := tin_4 (i := 103) rfl rfl
theorem wv_yX7_readSign : Cond.selects yX7_readSign.cls yX7_readSign yX7_readSign ∈ x_Ts := sin_4 (i := 7) rfl rfl
theorem wt_yX7_signOfTwo : Cond.static yX7_signOfTwo ∈ x_Ts := tin_4 (i := 106) rfl rfl
theorem wi_yX7_letters : Cond.instanceMethod yX7_letters ∈ x_Ts := tin_4 (i := 178) rfl rfl
theorem wv_yX7_letters : Cond.selects yX7_letters.cls yX7_letters yX7_letters ∈ x_Ts := sin_4 (i := 11) rfl rfl
theorem wi_yX8_init : Cond.instanceMethod yX8_init ∈ x_Ts := tin_1 (i := 33) rfl rfl
theorem wi_yX8_count : Cond.instanceMethod yX8_count ∈ x_Ts := tin_3 (i := 167) rfl rfl
theorem wv_yX8_count : Cond.selects yX8_count.cls yX8_count yX8_count ∈ x_Ts := sin_3 (i := 7) rfl rfl
theorem wi_yX8_only : Cond.instanceMethod yX8_only ∈ x_Ts := tin_3 (i := 2) rfl rfl
theorem wv_yX8_only : Cond.selects yX8_only.cls yX8_only yX8_only ∈ x_Ts := sin_1 (i := 8) rfl rfl
theorem wi_yX8_clear : Cond.instanceMethod yX8_clear ∈ x_Ts := tin_2 (i := 238) rfl rfl
theorem wv_yX8_clear : Cond.selects yX8_clear.cls yX8_clear yX8_clear ∈ x_Ts := sin_1 (i := 7) rfl rfl
theorem wi_yX8_take : Cond.instanceMethod yX8_take ∈ x_Ts := tin_3 (i := 163) rfl rfl
theorem wv_yX8_take : Cond.selects yX8_take.cls yX8_take yX8_take ∈ x_Ts := sin_3 (i := 6) rfl rfl
theorem wi_yX8_addPiece : Cond.instanceMethod yX8_addPiece ∈ x_Ts := tin_3 (i := 109) rfl rfl
theorem wv_yX8_addPiece : Cond.selects yX8_addPiece.cls yX8_addPiece yX8_addPiece ∈ x_Ts := sin_2 (i := 10) rfl rfl
theorem wi_yX9_init : Cond.instanceMethod yX9_init ∈ x_Ts := tin_1 (i := 154) rfl rfl
theorem wi_yX9_start : Cond.instanceMethod yX9_start ∈ x_Ts := tin_2 (i := 226) rfl rfl
theorem wv_yX9_start : Cond.selects yX9_start.cls yX9_start yX9_start ∈ x_Ts := sin_1 (i := 4) rfl rfl
theorem wi_yX9_reset : Cond.instanceMethod yX9_reset ∈ x_Ts := tin_2 (i := 230) rfl rfl
theorem wv_yX9_reset : Cond.selects yX9_reset.cls yX9_reset yX9_reset ∈ x_Ts := sin_1 (i := 5) rfl rfl
theorem wi_yX9_perform : Cond.instanceMethod yX9_perform ∈ x_Ts := tin_3 (i := 7) rfl rfl
theorem wv_yX9_perform : Cond.selects yX9_perform.cls yX9_perform yX9_perform ∈ x_Ts := sin_1 (i := 9) rfl rfl
theorem wi_yX9_step : Cond.instanceMethod yX9_step ∈ x_Ts := tin_3 (i := 11) rfl rfl
theorem wv_yX9_step : Cond.selects yX9_step.cls yX9_step yX9_step ∈ x_Ts := sin_1 (i := 10) rfl rfl
theorem wt_yX9_shape : Cond.static yX9_shape ∈ x_Ts := tin_3 (i := 14) rfl rfl
theorem wi_yX9_readOperands : Cond.instanceMethod yX9_readOperands ∈ x_Ts := tin_3 (i := 18) rfl rfl
theorem wv_yX9_readOperands : Cond.selects yX9_readOperands.cls yX9_readOperands yX9_readOperands ∈ x_Ts := sin_1 (i := 11) rfl rfl
theorem wi_yX9_readNumber : Cond.instanceMethod yX9_readNumber ∈ x_Ts := tin_3 (i := 22) rfl rfl
theorem wv_yX9_readNumber : Cond.selects yX9_readNumber.cls yX9_readNumber yX9_readNumber ∈ x_Ts := sin_1 (i := 12) rfl rfl
theorem wi_yX9_readLeb : Cond.instanceMethod yX9_readLeb ∈ x_Ts := tin_3 (i := 29) rfl rfl
theorem wv_yX9_readLeb : Cond.selects yX9_readLeb.cls yX9_readLeb yX9_readLeb ∈ x_Ts := sin_1 (i := 13) rfl rfl
theorem wi_yX9_check : Cond.instanceMethod yX9_check ∈ x_Ts := tin_3 (i := 34) rfl rfl
theorem wv_yX9_check : Cond.selects yX9_check.cls yX9_check yX9_check ∈ x_Ts := sin_1 (i := 14) rfl rfl
theorem wt_yX9_goesWithHold : Cond.static yX9_goesWithHold ∈ x_Ts := tin_3 (i := 37) rfl rfl
theorem wi_yX9_isTooMuch : Cond.instanceMethod yX9_isTooMuch ∈ x_Ts := tin_3 (i := 43) rfl rfl
theorem wv_yX9_isTooMuch : Cond.selects yX9_isTooMuch.cls yX9_isTooMuch yX9_isTooMuch ∈ x_Ts := sin_1 (i := 15) rfl rfl
theorem wi_yX9_wanted : Cond.instanceMethod yX9_wanted ∈ x_Ts := tin_3 (i := 48) rfl rfl
theorem wv_yX9_wanted : Cond.selects yX9_wanted.cls yX9_wanted yX9_wanted ∈ x_Ts := sin_2 (i := 0) rfl rfl
theorem wi_yX9_call : Cond.instanceMethod yX9_call ∈ x_Ts := tin_3 (i := 56) rfl rfl
theorem wv_yX9_call : Cond.selects yX9_call.cls yX9_call yX9_call ∈ x_Ts := sin_2 (i := 2) rfl rfl
theorem wi_yX9_operate : Cond.instanceMethod yX9_operate ∈ x_Ts := tin_3 (i := 60) rfl rfl
theorem wv_yX9_operate : Cond.selects yX9_operate.cls yX9_operate yX9_operate ∈ x_Ts := sin_2 (i := 3) rfl rfl
theorem wi_yX9_push : Cond.instanceMethod yX9_push ∈ x_Ts := tin_3 (i := 64) rfl rfl
theorem wv_yX9_push : Cond.selects yX9_push.cls yX9_push yX9_push ∈ x_Ts := sin_2 (i := 4) rfl rfl
theorem wi_yX9_pushBytes : Cond.instanceMethod yX9_pushBytes ∈ x_Ts := tin_3 (i := 130) rfl rfl
theorem wv_yX9_pushBytes : Cond.selects yX9_pushBytes.cls yX9_pushBytes yX9_pushBytes ∈ x_Ts := sin_2 (i := 15) rfl rfl
theorem wi_yX9_pop : Cond.instanceMethod yX9_pop ∈ x_Ts := tin_3 (i := 52) rfl rfl
theorem wv_yX9_pop : Cond.selects yX9_pop.cls yX9_pop yX9_pop ∈ x_Ts := sin_2 (i := 1) rfl rfl
theorem wi_yX9_below : Cond.instanceMethod yX9_below ∈ x_Ts := tin_3 (i := 76) rfl rfl
theorem wv_yX9_below : Cond.selects yX9_below.cls yX9_below yX9_below ∈ x_Ts := sin_2 (i := 6) rfl rfl
theorem wi_yX9_shuffle : Cond.instanceMethod yX9_shuffle ∈ x_Ts := tin_3 (i := 72) rfl rfl
theorem wv_yX9_shuffle : Cond.selects yX9_shuffle.cls yX9_shuffle yX9_shuffle ∈ x_Ts := sin_2 (i := 5) rfl rfl
theorem wi_yX9_changed : Cond.instanceMethod yX9_changed ∈ x_Ts := tin_3 (i := 80) rfl rfl
theorem wv_yX9_changed : Cond.selects yX9_changed.cls yX9_changed yX9_changed ∈ x_Ts := sin_2 (i := 7) rfl rfl
theorem wi_yX9_ask : Cond.instanceMethod yX9_ask ∈ x_Ts := tin_3 (i := 126) rfl rfl
theorem wv_yX9_ask : Cond.selects yX9_ask.cls yX9_ask yX9_ask ∈ x_Ts := sin_2 (i := 14) rfl rfl
theorem wi_yX9_keep : Cond.instanceMethod yX9_keep ∈ x_Ts := tin_3 (i := 117) rfl rfl
theorem wv_yX9_keep : Cond.selects yX9_keep.cls yX9_keep yX9_keep ∈ x_Ts := sin_2 (i := 12) rfl rfl
theorem wi_yX9_addPiece : Cond.instanceMethod yX9_addPiece ∈ x_Ts := tin_3 (i := 101) rfl rfl
theorem wv_yX9_addPiece : Cond.selects yX9_addPiece.cls yX9_addPiece yX9_addPiece ∈ x_Ts := sin_2 (i := 8) rfl rfl
theorem wi_yX9_holdTop : Cond.instanceMethod yX9_holdTop ∈ x_Ts := tin_3 (i := 105) rfl rfl
theorem wv_yX9_holdTop : Cond.selects yX9_holdTop.cls yX9_holdTop yX9_holdTop ∈ x_Ts := sin_2 (i := 9) rfl rfl
theorem wi_yX9_settle : Cond.instanceMethod yX9_settle ∈ x_Ts := tin_3 (i := 148) rfl rfl
theorem wv_yX9_settle : Cond.selects yX9_settle.cls yX9_settle yX9_settle ∈ x_Ts := sin_3 (i := 3) rfl rfl
theorem wi_yX9_base : Cond.instanceMethod yX9_base ∈ x_Ts := tin_3 (i := 144) rfl rfl
theorem wv_yX9_base : Cond.selects yX9_base.cls yX9_base yX9_base ∈ x_Ts := sin_3 (i := 2) rfl rfl
theorem wi_yX9_takeBase : Cond.instanceMethod yX9_takeBase ∈ x_Ts := tin_3 (i := 154) rfl rfl
theorem wv_yX9_takeBase : Cond.selects yX9_takeBase.cls yX9_takeBase yX9_takeBase ∈ x_Ts := sin_3 (i := 4) rfl rfl
theorem wt_yX9_joined : Cond.static yX9_joined ∈ x_Ts := tin_3 (i := 83) rfl rfl
theorem wt_yX9_shifted : Cond.static yX9_shifted ∈ x_Ts := tin_3 (i := 93) rfl rfl
theorem wt_yX9_compared : Cond.static yX9_compared ∈ x_Ts := tin_3 (i := 97) rfl rfl
theorem wt_yX9_restWithoutSign : Cond.static yX9_restWithoutSign ∈ x_Ts := tin_3 (i := 86) rfl rfl
theorem wi_yX10_init : Cond.instanceMethod yX10_init ∈ x_Ts := tin_4 (i := 202) rfl rfl
theorem wi_yX11_init : Cond.instanceMethod yX11_init ∈ x_Ts := tin_1 (i := 25) rfl rfl
theorem wi_yX11_feed : Cond.instanceMethod yX11_feed ∈ x_Ts := tin_2 (i := 142) rfl rfl
theorem wv_yX11_feed : Cond.selects yX11_feed.cls yX11_feed yX11_feed ∈ x_Ts := tin_2 (i := 143) rfl rfl
theorem wi_yX11_feedFour : Cond.instanceMethod yX11_feedFour ∈ x_Ts := tin_2 (i := 147) rfl rfl
theorem wv_yX11_feedFour : Cond.selects yX11_feedFour.cls yX11_feedFour yX11_feedFour ∈ x_Ts := sin_1 (i := 0) rfl rfl
theorem wi_yX11_end : Cond.instanceMethod yX11_end ∈ x_Ts := tin_2 (i := 150) rfl rfl
theorem wv_yX11_end : Cond.selects yX11_end.cls yX11_end yX11_end ∈ x_Ts := tin_2 (i := 151) rfl rfl
theorem wi_yX11_expression : Cond.instanceMethod yX11_expression ∈ x_Ts := tin_2 (i := 154) rfl rfl
theorem wv_yX11_expression : Cond.selects yX11_expression.cls yX11_expression yX11_expression ∈ x_Ts := tin_2 (i := 155) rfl rfl
theorem wi_yX11_list : Cond.instanceMethod yX11_list ∈ x_Ts := tin_2 (i := 178) rfl rfl
theorem wv_yX11_list : Cond.selects yX11_list.cls yX11_list yX11_list ∈ x_Ts := tin_2 (i := 179) rfl rfl
theorem wi_yX11_tapeInto : Cond.instanceMethod yX11_tapeInto ∈ x_Ts := tin_2 (i := 159) rfl rfl
theorem wv_yX11_tapeInto : Cond.selects yX11_tapeInto.cls yX11_tapeInto yX11_tapeInto ∈ x_Ts := sin_1 (i := 1) rfl rfl
theorem wi_yX11_load : Cond.instanceMethod yX11_load ∈ x_Ts := tin_2 (i := 182) rfl rfl
theorem wv_yX11_load : Cond.selects yX11_load.cls yX11_load yX11_load ∈ x_Ts := tin_2 (i := 183) rfl rfl
theorem wi_yX11_register : Cond.instanceMethod yX11_register ∈ x_Ts := tin_2 (i := 186) rfl rfl
theorem wv_yX11_register : Cond.selects yX11_register.cls yX11_register yX11_register ∈ x_Ts := tin_2 (i := 187) rfl rfl
theorem wi_yX11_poke : Cond.instanceMethod yX11_poke ∈ x_Ts := tin_2 (i := 194) rfl rfl
theorem wv_yX11_poke : Cond.selects yX11_poke.cls yX11_poke yX11_poke ∈ x_Ts := tin_2 (i := 195) rfl rfl
theorem wi_yX11_peek : Cond.instanceMethod yX11_peek ∈ x_Ts := tin_2 (i := 198) rfl rfl
theorem wv_yX11_peek : Cond.selects yX11_peek.cls yX11_peek yX11_peek ∈ x_Ts := tin_2 (i := 199) rfl rfl
theorem wi_yX11_frame : Cond.instanceMethod yX11_frame ∈ x_Ts := tin_2 (i := 202) rfl rfl
theorem wv_yX11_frame : Cond.selects yX11_frame.cls yX11_frame yX11_frame ∈ x_Ts := tin_2 (i := 203) rfl rfl
theorem wi_yX11_cfa : Cond.instanceMethod yX11_cfa ∈ x_Ts := tin_2 (i := 206) rfl rfl
theorem wv_yX11_cfa : Cond.selects yX11_cfa.cls yX11_cfa yX11_cfa ∈ x_Ts := tin_2 (i := 207) rfl rfl
theorem wi_yX11_set : Cond.instanceMethod yX11_set ∈ x_Ts := tin_2 (i := 210) rfl rfl
theorem wv_yX11_set : Cond.selects yX11_set.cls yX11_set yX11_set ∈ x_Ts := tin_2 (i := 211) rfl rfl
theorem wi_yX11_run : Cond.instanceMethod yX11_run ∈ x_Ts := tin_2 (i := 214) rfl rfl
theorem wv_yX11_run : Cond.selects yX11_run.cls yX11_run yX11_run ∈ x_Ts := tin_2 (i := 215) rfl rfl
theorem wi_yX11_find : Cond.instanceMethod yX11_find ∈ x_Ts := tin_3 (i := 174) rfl rfl
theorem wv_yX11_find : Cond.selects yX11_find.cls yX11_find yX11_find ∈ x_Ts := tin_3 (i := 175) rfl rfl
theorem wt_yX11_isFuel : Cond.static yX11_isFuel ∈ x_Ts := tin_2 (i := 218) rfl rfl
theorem wi_yX11_runBytes : Cond.instanceMethod yX11_runBytes ∈ x_Ts := tin_2 (i := 222) rfl rfl
theorem wv_yX11_runBytes : Cond.selects yX11_runBytes.cls yX11_runBytes yX11_runBytes ∈ x_Ts := sin_1 (i := 3) rfl rfl
theorem wi_yX11_search : Cond.instanceMethod yX11_search ∈ x_Ts := tin_3 (i := 179) rfl rfl
theorem wv_yX11_search : Cond.selects yX11_search.cls yX11_search yX11_search ∈ x_Ts := sin_3 (i := 9) rfl rfl
theorem wi_yX11_endless : Cond.instanceMethod yX11_endless ∈ x_Ts := tin_3 (i := 183) rfl rfl
theorem wv_yX11_endless : Cond.selects yX11_endless.cls yX11_endless yX11_endless ∈ x_Ts := sin_3 (i := 10) rfl rfl
theorem wi_yX11_tell : Cond.instanceMethod yX11_tell ∈ x_Ts := tin_3 (i := 171) rfl rfl
theorem wv_yX11_tell : Cond.selects yX11_tell.cls yX11_tell yX11_tell ∈ x_Ts := sin_3 (i := 8) rfl rfl
theorem wt_yX11_isBelow : Cond.static yX11_isBelow ∈ x_Ts := tin_3 (i := 89) rfl rfl
theorem wt_yX11_number : Cond.static yX11_number ∈ x_Ts := tin_3 (i := 25) rfl rfl
theorem wi_yX11_told : Cond.instanceMethod yX11_told ∈ x_Ts := tin_3 (i := 190) rfl rfl
theorem wv_yX11_told : Cond.selects yX11_told.cls yX11_told yX11_told ∈ x_Ts := tin_3 (i := 191) rfl rfl
theorem wi_yX11_parts : Cond.instanceMethod yX11_parts ∈ x_Ts := tin_3 (i := 194) rfl rfl
theorem wv_yX11_parts : Cond.selects yX11_parts.cls yX11_parts yX11_parts ∈ x_Ts := tin_3 (i := 195) rfl rfl
theorem wi_yX11_part : Cond.instanceMethod yX11_part ∈ x_Ts := tin_3 (i := 199) rfl rfl
theorem wv_yX11_part : Cond.selects yX11_part.cls yX11_part yX11_part ∈ x_Ts := tin_3 (i := 200) rfl rfl
theorem wi_yX11_fetch : Cond.instanceMethod yX11_fetch ∈ x_Ts := tin_3 (i := 211) rfl rfl
theorem wv_yX11_fetch : Cond.selects yX11_fetch.cls yX11_fetch yX11_fetch ∈ x_Ts := tin_3 (i := 212) rfl rfl
theorem wi_yX11_store : Cond.instanceMethod yX11_store ∈ x_Ts := tin_3 (i := 223) rfl rfl
theorem wv_yX11_store : Cond.selects yX11_store.cls yX11_store yX11_store ∈ x_Ts := tin_3 (i := 224) rfl rfl
theorem wi_yX11_out : Cond.instanceMethod yX11_out ∈ x_Ts := tin_3 (i := 232) rfl rfl
theorem wv_yX11_out : Cond.selects yX11_out.cls yX11_out yX11_out ∈ x_Ts := tin_3 (i := 233) rfl rfl
theorem wi_yX11_compile : Cond.instanceMethod yX11_compile ∈ x_Ts := tin_3 (i := 236) rfl rfl
theorem wv_yX11_compile : Cond.selects yX11_compile.cls yX11_compile yX11_compile ∈ x_Ts := tin_3 (i := 237) rfl rfl
theorem wi_yX11_isVariable : Cond.instanceMethod yX11_isVariable ∈ x_Ts := tin_5 (i := 230) rfl rfl
theorem wv_yX11_isVariable : Cond.selects yX11_isVariable.cls yX11_isVariable yX11_isVariable ∈ x_Ts := sin_6 (i := 9) rfl rfl
theorem wi_yX11_variable : Cond.instanceMethod yX11_variable ∈ x_Ts := tin_5 (i := 225) rfl rfl
theorem wv_yX11_variable : Cond.selects yX11_variable.cls yX11_variable yX11_variable ∈ x_Ts := tin_5 (i := 226) rfl rfl
theorem wt_yX11_byteAt : Cond.static yX11_byteAt ∈ x_Ts := tin_3 (i := 208) rfl rfl
theorem wi_yX11_where : Cond.instanceMethod yX11_where ∈ x_Ts := tin_5 (i := 235) rfl rfl
theorem wv_yX11_where : Cond.selects yX11_where.cls yX11_where yX11_where ∈ x_Ts := tin_5 (i := 236) rfl rfl
theorem wi_yX11_means : Cond.instanceMethod yX11_means ∈ x_Ts := tin_5 (i := 239) rfl rfl
theorem wv_yX11_means : Cond.selects yX11_means.cls yX11_means yX11_means ∈ x_Ts := tin_6 (i := 0) rfl rfl
theorem wi_yX12_init : Cond.instanceMethod yX12_init ∈ x_Ts := tin_6 (i := 47) rfl rfl
theorem wi_yX12_puts : Cond.instanceMethod yX12_puts ∈ x_Ts := tin_7 (i := 133) rfl rfl
theorem wv_yX12_puts : Cond.selects yX12_puts.cls yX12_puts yX12_puts ∈ x_Ts := sin_7 (i := 0) rfl rfl
theorem wi_yX12_feed : Cond.instanceMethod yX12_feed ∈ x_Ts := tin_7 (i := 128) rfl rfl
theorem wv_yX12_feed : Cond.selects yX12_feed.cls yX12_feed yX12_feed ∈ x_Ts := tin_7 (i := 129) rfl rfl
theorem wi_yX12_end : Cond.instanceMethod yX12_end ∈ x_Ts := tin_7 (i := 136) rfl rfl
theorem wv_yX12_end : Cond.selects yX12_end.cls yX12_end yX12_end ∈ x_Ts := tin_7 (i := 137) rfl rfl
theorem wi_yX12_keep : Cond.instanceMethod yX12_keep ∈ x_Ts := tin_7 (i := 145) rfl rfl
theorem wv_yX12_keep : Cond.selects yX12_keep.cls yX12_keep yX12_keep ∈ x_Ts := sin_7 (i := 1) rfl rfl
theorem wi_yX12_expression : Cond.instanceMethod yX12_expression ∈ x_Ts := tin_7 (i := 140) rfl rfl
theorem wv_yX12_expression : Cond.selects yX12_expression.cls yX12_expression yX12_expression ∈ x_Ts := tin_7 (i := 141) rfl rfl
theorem wi_yX12_list : Cond.instanceMethod yX12_list ∈ x_Ts := tin_7 (i := 148) rfl rfl
theorem wv_yX12_list : Cond.selects yX12_list.cls yX12_list yX12_list ∈ x_Ts := tin_7 (i := 149) rfl rfl
theorem wi_yX12_load : Cond.instanceMethod yX12_load ∈ x_Ts := tin_7 (i := 152) rfl rfl
theorem wv_yX12_load : Cond.selects yX12_load.cls yX12_load yX12_load ∈ x_Ts := tin_7 (i := 153) rfl rfl
theorem wi_yX12_register : Cond.instanceMethod yX12_register ∈ x_Ts := tin_7 (i := 156) rfl rfl
theorem wv_yX12_register : Cond.selects yX12_register.cls yX12_register yX12_register ∈ x_Ts := tin_7 (i := 157) rfl rfl
theorem wi_yX12_poke : Cond.instanceMethod yX12_poke ∈ x_Ts := tin_7 (i := 160) rfl rfl
theorem wv_yX12_poke : Cond.selects yX12_poke.cls yX12_poke yX12_poke ∈ x_Ts := tin_7 (i := 161) rfl rfl
theorem wi_yX12_peek : Cond.instanceMethod yX12_peek ∈ x_Ts := tin_7 (i := 164) rfl rfl
theorem wv_yX12_peek : Cond.selects yX12_peek.cls yX12_peek yX12_peek ∈ x_Ts := tin_7 (i := 165) rfl rfl
theorem wi_yX12_frame : Cond.instanceMethod yX12_frame ∈ x_Ts := tin_7 (i := 168) rfl rfl
theorem wv_yX12_frame : Cond.selects yX12_frame.cls yX12_frame yX12_frame ∈ x_Ts := tin_7 (i := 169) rfl rfl
theorem wi_yX12_cfa : Cond.instanceMethod yX12_cfa ∈ x_Ts := tin_7 (i := 172) rfl rfl
theorem wv_yX12_cfa : Cond.selects yX12_cfa.cls yX12_cfa yX12_cfa ∈ x_Ts := tin_7 (i := 173) rfl rfl
theorem wi_yX12_set : Cond.instanceMethod yX12_set ∈ x_Ts := tin_7 (i := 176) rfl rfl
theorem wv_yX12_set : Cond.selects yX12_set.cls yX12_set yX12_set ∈ x_Ts := tin_7 (i := 177) rfl rfl
theorem wi_yX12_isThere : Cond.instanceMethod yX12_isThere ∈ x_Ts := tin_8 (i := 11) rfl rfl
theorem wv_yX12_isThere : Cond.selects yX12_isThere.cls yX12_isThere yX12_isThere ∈ x_Ts := sin_8 (i := 1) rfl rfl
theorem wi_yX12_read : Cond.instanceMethod yX12_read ∈ x_Ts := tin_8 (i := 27) rfl rfl
theorem wv_yX12_read : Cond.selects yX12_read.cls yX12_read yX12_read ∈ x_Ts := sin_8 (i := 5) rfl rfl
theorem wi_yX12_fixed : Cond.instanceMethod yX12_fixed ∈ x_Ts := tin_7 (i := 225) rfl rfl
theorem wv_yX12_fixed : Cond.selects yX12_fixed.cls yX12_fixed yX12_fixed ∈ x_Ts := sin_7 (i := 12) rfl rfl
theorem wi_yX12_leb : Cond.instanceMethod yX12_leb ∈ x_Ts := tin_7 (i := 229) rfl rfl
theorem wv_yX12_leb : Cond.selects yX12_leb.cls yX12_leb yX12_leb ∈ x_Ts := sin_7 (i := 13) rfl rfl
theorem wi_yX12_isKnown : Cond.instanceMethod yX12_isKnown ∈ x_Ts := tin_7 (i := 217) rfl rfl
theorem wv_yX12_isKnown : Cond.selects yX12_isKnown.cls yX12_isKnown yX12_isKnown ∈ x_Ts := sin_7 (i := 10) rfl rfl
theorem wi_yX12_operands : Cond.instanceMethod yX12_operands ∈ x_Ts := tin_7 (i := 221) rfl rfl
theorem wv_yX12_operands : Cond.selects yX12_operands.cls yX12_operands yX12_operands ∈ x_Ts := sin_7 (i := 11) rfl rfl
theorem wi_yX12_isAbove : Cond.instanceMethod yX12_isAbove ∈ x_Ts := tin_7 (i := 235) rfl rfl
theorem wv_yX12_isAbove : Cond.selects yX12_isAbove.cls yX12_isAbove yX12_isAbove ∈ x_Ts := sin_7 (i := 14) rfl rfl
theorem wi_yX12_wants : Cond.instanceMethod yX12_wants ∈ x_Ts := tin_8 (i := 6) rfl rfl
theorem wv_yX12_wants : Cond.selects yX12_wants.cls yX12_wants yX12_wants ∈ x_Ts := sin_8 (i := 0) rfl rfl
theorem wi_yX12_pushes : Cond.instanceMethod yX12_pushes ∈ x_Ts := tin_8 (i := 15) rfl rfl
theorem wv_yX12_pushes : Cond.selects yX12_pushes.cls yX12_pushes yX12_pushes ∈ x_Ts := sin_8 (i := 2) rfl rfl
theorem wi_yX12_rest : Cond.instanceMethod yX12_rest ∈ x_Ts := tin_8 (i := 35) rfl rfl
theorem wv_yX12_rest : Cond.selects yX12_rest.cls yX12_rest yX12_rest ∈ x_Ts := sin_8 (i := 7) rfl rfl
theorem wi_yX12_worked : Cond.instanceMethod yX12_worked ∈ x_Ts := tin_8 (i := 31) rfl rfl
theorem wv_yX12_worked : Cond.selects yX12_worked.cls yX12_worked yX12_worked ∈ x_Ts := sin_8 (i := 6) rfl rfl
theorem wi_yX12_isBase : Cond.instanceMethod yX12_isBase ∈ x_Ts := tin_7 (i := 209) rfl rfl
theorem wv_yX12_isBase : Cond.selects yX12_isBase.cls yX12_isBase yX12_isBase ∈ x_Ts := sin_7 (i := 8) rfl rfl
theorem wi_yX12_fails : Cond.instanceMethod yX12_fails ∈ x_Ts := tin_7 (i := 205) rfl rfl
theorem wv_yX12_fails : Cond.selects yX12_fails.cls yX12_fails yX12_fails ∈ x_Ts := sin_7 (i := 7) rfl rfl
theorem wi_yX12_clears : Cond.instanceMethod yX12_clears ∈ x_Ts := tin_7 (i := 201) rfl rfl
theorem wv_yX12_clears : Cond.selects yX12_clears.cls yX12_clears yX12_clears ∈ x_Ts := sin_7 (i := 6) rfl rfl
theorem wi_yX12_pushed : Cond.instanceMethod yX12_pushed ∈ x_Ts := tin_7 (i := 213) rfl rfl
theorem wv_yX12_pushed : Cond.selects yX12_pushed.cls yX12_pushed yX12_pushed ∈ x_Ts := sin_7 (i := 9) rfl rfl
theorem wi_yX12_exec : Cond.instanceMethod yX12_exec ∈ x_Ts := tin_7 (i := 197) rfl rfl
theorem wv_yX12_exec : Cond.selects yX12_exec.cls yX12_exec yX12_exec ∈ x_Ts := sin_7 (i := 5) rfl rfl
theorem wi_yX12_isPiece : Cond.instanceMethod yX12_isPiece ∈ x_Ts := tin_8 (i := 0) rfl rfl
theorem wv_yX12_isPiece : Cond.selects yX12_isPiece.cls yX12_isPiece yX12_isPiece ∈ x_Ts := sin_7 (i := 15) rfl rfl
theorem wi_yX12_pushes_ : Cond.instanceMethod yX12_pushes_ ∈ x_Ts := tin_8 (i := 19) rfl rfl
theorem wv_yX12_pushes_ : Cond.selects yX12_pushes_.cls yX12_pushes_ yX12_pushes_ ∈ x_Ts := sin_8 (i := 3) rfl rfl
theorem wi_yX12_acts : Cond.instanceMethod yX12_acts ∈ x_Ts := tin_8 (i := 23) rfl rfl
theorem wv_yX12_acts : Cond.selects yX12_acts.cls yX12_acts yX12_acts ∈ x_Ts := sin_8 (i := 4) rfl rfl
theorem wi_yX12_hold : Cond.instanceMethod yX12_hold ∈ x_Ts := tin_8 (i := 45) rfl rfl
theorem wv_yX12_hold : Cond.selects yX12_hold.cls yX12_hold yX12_hold ∈ x_Ts := sin_8 (i := 9) rfl rfl
theorem wi_yX12_part : Cond.instanceMethod yX12_part ∈ x_Ts := tin_8 (i := 53) rfl rfl
theorem wv_yX12_part : Cond.selects yX12_part.cls yX12_part yX12_part ∈ x_Ts := sin_8 (i := 11) rfl rfl
theorem wi_yX12_empty : Cond.instanceMethod yX12_empty ∈ x_Ts := tin_8 (i := 57) rfl rfl
theorem wv_yX12_empty : Cond.selects yX12_empty.cls yX12_empty yX12_empty ∈ x_Ts := sin_8 (i := 12) rfl rfl
theorem wi_yX12_tells : Cond.instanceMethod yX12_tells ∈ x_Ts := tin_8 (i := 49) rfl rfl
theorem wv_yX12_tells : Cond.selects yX12_tells.cls yX12_tells yX12_tells ∈ x_Ts := sin_8 (i := 10) rfl rfl
theorem wi_yX12_begins : Cond.instanceMethod yX12_begins ∈ x_Ts := tin_7 (i := 193) rfl rfl
theorem wv_yX12_begins : Cond.selects yX12_begins.cls yX12_begins yX12_begins ∈ x_Ts := sin_7 (i := 4) rfl rfl
theorem wi_yX12_runs : Cond.instanceMethod yX12_runs ∈ x_Ts := tin_7 (i := 189) rfl rfl
theorem wv_yX12_runs : Cond.selects yX12_runs.cls yX12_runs yX12_runs ∈ x_Ts := sin_7 (i := 3) rfl rfl
theorem wi_yX12_isFuel : Cond.instanceMethod yX12_isFuel ∈ x_Ts := tin_7 (i := 185) rfl rfl
theorem wv_yX12_isFuel : Cond.selects yX12_isFuel.cls yX12_isFuel yX12_isFuel ∈ x_Ts := sin_7 (i := 2) rfl rfl
theorem wi_yX12_run : Cond.instanceMethod yX12_run ∈ x_Ts := tin_7 (i := 180) rfl rfl
theorem wv_yX12_run : Cond.selects yX12_run.cls yX12_run yX12_run ∈ x_Ts := tin_7 (i := 181) rfl rfl
theorem wi_yX12_number : Cond.instanceMethod yX12_number ∈ x_Ts := tin_8 (i := 69) rfl rfl
theorem wv_yX12_number : Cond.selects yX12_number.cls yX12_number yX12_number ∈ x_Ts := sin_8 (i := 14) rfl rfl
theorem wi_yX12_isBelow : Cond.instanceMethod yX12_isBelow ∈ x_Ts := tin_8 (i := 39) rfl rfl
theorem wv_yX12_isBelow : Cond.selects yX12_isBelow.cls yX12_isBelow yX12_isBelow ∈ x_Ts := sin_8 (i := 8) rfl rfl
theorem wi_yX12_finds : Cond.instanceMethod yX12_finds ∈ x_Ts := tin_8 (i := 65) rfl rfl
theorem wv_yX12_finds : Cond.selects yX12_finds.cls yX12_finds yX12_finds ∈ x_Ts := sin_8 (i := 13) rfl rfl
theorem wi_yX12_find : Cond.instanceMethod yX12_find ∈ x_Ts := tin_8 (i := 60) rfl rfl
theorem wv_yX12_find : Cond.selects yX12_find.cls yX12_find yX12_find ∈ x_Ts := tin_8 (i := 61) rfl rfl
theorem wi_yX12_told : Cond.instanceMethod yX12_told ∈ x_Ts := tin_8 (i := 72) rfl rfl
theorem wv_yX12_told : Cond.selects yX12_told.cls yX12_told yX12_told ∈ x_Ts := tin_8 (i := 73) rfl rfl
theorem wi_yX12_parts : Cond.instanceMethod yX12_parts ∈ x_Ts := tin_8 (i := 76) rfl rfl
theorem wv_yX12_parts : Cond.selects yX12_parts.cls yX12_parts yX12_parts ∈ x_Ts := tin_8 (i := 77) rfl rfl
theorem wi_yX12_part_ : Cond.instanceMethod yX12_part_ ∈ x_Ts := tin_8 (i := 80) rfl rfl
theorem wv_yX12_part_ : Cond.selects yX12_part_.cls yX12_part_ yX12_part_ ∈ x_Ts := tin_8 (i := 81) rfl rfl
theorem wi_yX12_goes : Cond.instanceMethod yX12_goes ∈ x_Ts := tin_8 (i := 89) rfl rfl
theorem wv_yX12_goes : Cond.selects yX12_goes.cls yX12_goes yX12_goes ∈ x_Ts := sin_8 (i := 15) rfl rfl
theorem wi_yX12_bit : Cond.instanceMethod yX12_bit ∈ x_Ts := tin_8 (i := 93) rfl rfl
theorem wv_yX12_bit : Cond.selects yX12_bit.cls yX12_bit yX12_bit ∈ x_Ts := sin_9 (i := 0) rfl rfl
theorem wi_yX12_puts_ : Cond.instanceMethod yX12_puts_ ∈ x_Ts := tin_8 (i := 102) rfl rfl
theorem wv_yX12_puts_ : Cond.selects yX12_puts_.cls yX12_puts_ yX12_puts_ ∈ x_Ts := sin_9 (i := 1) rfl rfl
theorem wi_yX12_fetch : Cond.instanceMethod yX12_fetch ∈ x_Ts := tin_8 (i := 84) rfl rfl
theorem wv_yX12_fetch : Cond.selects yX12_fetch.cls yX12_fetch yX12_fetch ∈ x_Ts := tin_8 (i := 85) rfl rfl
theorem wi_yX12_store : Cond.instanceMethod yX12_store ∈ x_Ts := tin_8 (i := 97) rfl rfl
theorem wv_yX12_store : Cond.selects yX12_store.cls yX12_store yX12_store ∈ x_Ts := tin_8 (i := 98) rfl rfl
theorem wi_yX12_out : Cond.instanceMethod yX12_out ∈ x_Ts := tin_8 (i := 105) rfl rfl
theorem wv_yX12_out : Cond.selects yX12_out.cls yX12_out yX12_out ∈ x_Ts := tin_8 (i := 106) rfl rfl
theorem wi_yX12_sign : Cond.instanceMethod yX12_sign ∈ x_Ts := tin_8 (i := 118) rfl rfl
theorem wv_yX12_sign : Cond.selects yX12_sign.cls yX12_sign yX12_sign ∈ x_Ts := sin_9 (i := 3) rfl rfl
theorem wi_yX12_isSmall : Cond.instanceMethod yX12_isSmall ∈ x_Ts := tin_8 (i := 122) rfl rfl
theorem wv_yX12_isSmall : Cond.selects yX12_isSmall.cls yX12_isSmall yX12_isSmall ∈ x_Ts := sin_9 (i := 4) rfl rfl
theorem wi_yX12_isDigit : Cond.instanceMethod yX12_isDigit ∈ x_Ts := tin_8 (i := 126) rfl rfl
theorem wv_yX12_isDigit : Cond.selects yX12_isDigit.cls yX12_isDigit yX12_isDigit ∈ x_Ts := sin_9 (i := 5) rfl rfl
theorem wi_yX12_isLetter : Cond.instanceMethod yX12_isLetter ∈ x_Ts := tin_8 (i := 151) rfl rfl
theorem wv_yX12_isLetter : Cond.selects yX12_isLetter.cls yX12_isLetter yX12_isLetter ∈ x_Ts := sin_9 (i := 8) rfl rfl
theorem wi_yX12_word : Cond.instanceMethod yX12_word ∈ x_Ts := tin_8 (i := 135) rfl rfl
theorem wv_yX12_word : Cond.selects yX12_word.cls yX12_word yX12_word ∈ x_Ts := sin_9 (i := 7) rfl rfl
theorem wi_yX12_token : Cond.instanceMethod yX12_token ∈ x_Ts := tin_8 (i := 131) rfl rfl
theorem wv_yX12_token : Cond.selects yX12_token.cls yX12_token yX12_token ∈ x_Ts := sin_9 (i := 6) rfl rfl
theorem wi_yX12_tokens : Cond.instanceMethod yX12_tokens ∈ x_Ts := tin_8 (i := 114) rfl rfl
theorem wv_yX12_tokens : Cond.selects yX12_tokens.cls yX12_tokens yX12_tokens ∈ x_Ts := sin_9 (i := 2) rfl rfl
theorem wi_yX12_signs : Cond.instanceMethod yX12_signs ∈ x_Ts := tin_8 (i := 155) rfl rfl
theorem wv_yX12_signs : Cond.selects yX12_signs.cls yX12_signs yX12_signs ∈ x_Ts := sin_9 (i := 9) rfl rfl
theorem wi_yX12_fail : Cond.instanceMethod yX12_fail ∈ x_Ts := tin_8 (i := 163) rfl rfl
theorem wv_yX12_fail : Cond.selects yX12_fail.cls yX12_fail yX12_fail ∈ x_Ts := sin_9 (i := 11) rfl rfl
theorem wi_yX12_isSign : Cond.instanceMethod yX12_isSign ∈ x_Ts := tin_8 (i := 171) rfl rfl
theorem wv_yX12_isSign : Cond.selects yX12_isSign.cls yX12_isSign yX12_isSign ∈ x_Ts := sin_9 (i := 13) rfl rfl
theorem wi_yX12_isWord : Cond.instanceMethod yX12_isWord ∈ x_Ts := tin_8 (i := 199) rfl rfl
theorem wv_yX12_isWord : Cond.selects yX12_isWord.cls yX12_isWord yX12_isWord ∈ x_Ts := sin_10 (i := 4) rfl rfl
theorem wi_yX12_need : Cond.instanceMethod yX12_need ∈ x_Ts := tin_8 (i := 167) rfl rfl
theorem wv_yX12_need : Cond.selects yX12_need.cls yX12_need yX12_need ∈ x_Ts := sin_9 (i := 12) rfl rfl
theorem wi_yX12_opens : Cond.instanceMethod yX12_opens ∈ x_Ts := tin_8 (i := 191) rfl rfl
theorem wv_yX12_opens : Cond.selects yX12_opens.cls yX12_opens yX12_opens ∈ x_Ts := sin_10 (i := 2) rfl rfl
theorem wi_yX12_emit : Cond.instanceMethod yX12_emit ∈ x_Ts := tin_8 (i := 183) rfl rfl
theorem wv_yX12_emit : Cond.selects yX12_emit.cls yX12_emit yX12_emit ∈ x_Ts := sin_10 (i := 0) rfl rfl
theorem wi_yX12_emits : Cond.instanceMethod yX12_emits ∈ x_Ts := tin_8 (i := 179) rfl rfl
theorem wv_yX12_emits : Cond.selects yX12_emits.cls yX12_emits yX12_emits ∈ x_Ts := sin_9 (i := 15) rfl rfl
theorem wi_yX12_unsigned : Cond.instanceMethod yX12_unsigned ∈ x_Ts := tin_9 (i := 44) rfl rfl
theorem wv_yX12_unsigned : Cond.selects yX12_unsigned.cls yX12_unsigned yX12_unsigned ∈ x_Ts := sin_11 (i := 7) rfl rfl
theorem wi_yX12_signed : Cond.instanceMethod yX12_signed ∈ x_Ts := tin_9 (i := 14) rfl rfl
theorem wv_yX12_signed : Cond.selects yX12_signed.cls yX12_signed yX12_signed ∈ x_Ts := sin_11 (i := 0) rfl rfl
theorem wi_yX12_push : Cond.instanceMethod yX12_push ∈ x_Ts := tin_8 (i := 219) rfl rfl
theorem wv_yX12_push : Cond.selects yX12_push.cls yX12_push yX12_push ∈ x_Ts := sin_10 (i := 9) rfl rfl
theorem wi_yX12_faulty : Cond.instanceMethod yX12_faulty ∈ x_Ts := tin_9 (i := 78) rfl rfl
theorem wv_yX12_faulty : Cond.selects yX12_faulty.cls yX12_faulty yX12_faulty ∈ x_Ts := sin_11 (i := 13) rfl rfl
theorem wi_yX12_compile : Cond.instanceMethod yX12_compile ∈ x_Ts := tin_8 (i := 109) rfl rfl
theorem wv_yX12_compile : Cond.selects yX12_compile.cls yX12_compile yX12_compile ∈ x_Ts := tin_8 (i := 110) rfl rfl
theorem wi_yX12_declared : Cond.instanceMethod yX12_declared ∈ x_Ts := tin_8 (i := 159) rfl rfl
theorem wv_yX12_declared : Cond.selects yX12_declared.cls yX12_declared yX12_declared ∈ x_Ts := sin_9 (i := 10) rfl rfl
theorem wi_yX12_rows : Cond.instanceMethod yX12_rows ∈ x_Ts := tin_8 (i := 175) rfl rfl
theorem wv_yX12_rows : Cond.selects yX12_rows.cls yX12_rows yX12_rows ∈ x_Ts := sin_9 (i := 14) rfl rfl
theorem wi_yX12_isPlace : Cond.instanceMethod yX12_isPlace ∈ x_Ts := tin_8 (i := 195) rfl rfl
theorem wv_yX12_isPlace : Cond.selects yX12_isPlace.cls yX12_isPlace yX12_isPlace ∈ x_Ts := sin_10 (i := 3) rfl rfl
theorem wi_yX12_location : Cond.instanceMethod yX12_location ∈ x_Ts := tin_8 (i := 187) rfl rfl
theorem wv_yX12_location : Cond.selects yX12_location.cls yX12_location yX12_location ∈ x_Ts := sin_10 (i := 1) rfl rfl
theorem wi_yX12_place : Cond.instanceMethod yX12_place ∈ x_Ts := tin_8 (i := 203) rfl rfl
theorem wv_yX12_place : Cond.selects yX12_place.cls yX12_place yX12_place ∈ x_Ts := sin_10 (i := 5) rfl rfl
theorem wi_yX12_later : Cond.instanceMethod yX12_later ∈ x_Ts := tin_8 (i := 215) rfl rfl
theorem wv_yX12_later : Cond.selects yX12_later.cls yX12_later yX12_later ∈ x_Ts := sin_10 (i := 8) rfl rfl
theorem wi_yX12_tops : Cond.instanceMethod yX12_tops ∈ x_Ts := tin_8 (i := 234) rfl rfl
theorem wv_yX12_tops : Cond.selects yX12_tops.cls yX12_tops yX12_tops ∈ x_Ts := sin_10 (i := 12) rfl rfl
theorem wi_yX12_emitted : Cond.instanceMethod yX12_emitted ∈ x_Ts := tin_9 (i := 24) rfl rfl
theorem wv_yX12_emitted : Cond.selects yX12_emitted.cls yX12_emitted yX12_emitted ∈ x_Ts := sin_11 (i := 2) rfl rfl
theorem wi_yX12_finished : Cond.instanceMethod yX12_finished ∈ x_Ts := tin_9 (i := 20) rfl rfl
theorem wv_yX12_finished : Cond.selects yX12_finished.cls yX12_finished yX12_finished ∈ x_Ts := sin_11 (i := 1) rfl rfl
theorem wi_yX12_reduced : Cond.instanceMethod yX12_reduced ∈ x_Ts := tin_9 (i := 36) rfl rfl
theorem wv_yX12_reduced : Cond.selects yX12_reduced.cls yX12_reduced yX12_reduced ∈ x_Ts := sin_11 (i := 5) rfl rfl
theorem wi_yX12_turned : Cond.instanceMethod yX12_turned ∈ x_Ts := tin_9 (i := 73) rfl rfl
theorem wv_yX12_turned : Cond.selects yX12_turned.cls yX12_turned yX12_turned ∈ x_Ts := sin_11 (i := 12) rfl rfl
theorem wi_yX12_reducedAll : Cond.instanceMethod yX12_reducedAll ∈ x_Ts := tin_9 (i := 69) rfl rfl
theorem wv_yX12_reducedAll : Cond.selects yX12_reducedAll.cls yX12_reducedAll yX12_reducedAll ∈ x_Ts := sin_11 (i := 11) rfl rfl
theorem wi_yX12_chosen : Cond.instanceMethod yX12_chosen ∈ x_Ts := tin_8 (i := 207) rfl rfl
theorem wv_yX12_chosen : Cond.selects yX12_chosen.cls yX12_chosen yX12_chosen ∈ x_Ts := sin_10 (i := 6) rfl rfl
theorem wi_yX12_operand : Cond.instanceMethod yX12_operand ∈ x_Ts := tin_8 (i := 211) rfl rfl
theorem wv_yX12_operand : Cond.selects yX12_operand.cls yX12_operand yX12_operand ∈ x_Ts := sin_10 (i := 7) rfl rfl
theorem wi_yX12_registered : Cond.instanceMethod yX12_registered ∈ x_Ts := tin_8 (i := 226) rfl rfl
theorem wv_yX12_registered : Cond.selects yX12_registered.cls yX12_registered yX12_registered ∈ x_Ts := sin_10 (i := 10) rfl rfl
theorem wi_yX12_combined : Cond.instanceMethod yX12_combined ∈ x_Ts := tin_8 (i := 230) rfl rfl
theorem wv_yX12_combined : Cond.selects yX12_combined.cls yX12_combined yX12_combined ∈ x_Ts := sin_10 (i := 11) rfl rfl
theorem wi_yX12_operator : Cond.instanceMethod yX12_operator ∈ x_Ts := tin_9 (i := 28) rfl rfl
theorem wv_yX12_operator : Cond.selects yX12_operator.cls yX12_operator yX12_operator ∈ x_Ts := sin_11 (i := 3) rfl rfl
theorem wi_yX12_ended : Cond.instanceMethod yX12_ended ∈ x_Ts := tin_9 (i := 65) rfl rfl
theorem wv_yX12_ended : Cond.selects yX12_ended.cls yX12_ended yX12_ended ∈ x_Ts := sin_11 (i := 10) rfl rfl
theorem wi_yX12_binary : Cond.instanceMethod yX12_binary ∈ x_Ts := tin_9 (i := 32) rfl rfl
theorem wv_yX12_binary : Cond.selects yX12_binary.cls yX12_binary yX12_binary ∈ x_Ts := sin_11 (i := 4) rfl rfl
theorem wi_yX12_added : Cond.instanceMethod yX12_added ∈ x_Ts := tin_9 (i := 40) rfl rfl
theorem wv_yX12_added : Cond.selects yX12_added.cls yX12_added yX12_added ∈ x_Ts := sin_11 (i := 6) rfl rfl
theorem wi_yX12_compares : Cond.instanceMethod yX12_compares ∈ x_Ts := tin_9 (i := 55) rfl rfl
theorem wv_yX12_compares : Cond.selects yX12_compares.cls yX12_compares yX12_compares ∈ x_Ts := sin_11 (i := 9) rfl rfl
theorem wi_yX12_shifts : Cond.instanceMethod yX12_shifts ∈ x_Ts := tin_9 (i := 48) rfl rfl
theorem wv_yX12_shifts : Cond.selects yX12_shifts.cls yX12_shifts yX12_shifts ∈ x_Ts := sin_11 (i := 8) rfl rfl
theorem wi_yX12_multiplies : Cond.instanceMethod yX12_multiplies ∈ x_Ts := tin_9 (i := 8) rfl rfl
theorem wv_yX12_multiplies : Cond.selects yX12_multiplies.cls yX12_multiplies yX12_multiplies ∈ x_Ts := sin_10 (i := 15) rfl rfl
theorem wi_yX12_isAlone : Cond.instanceMethod yX12_isAlone ∈ x_Ts := tin_9 (i := 4) rfl rfl
theorem wv_yX12_isAlone : Cond.selects yX12_isAlone.cls yX12_isAlone yX12_isAlone ∈ x_Ts := sin_10 (i := 14) rfl rfl
theorem wi_yX12_adds : Cond.instanceMethod yX12_adds ∈ x_Ts := tin_8 (i := 238) rfl rfl
theorem wv_yX12_adds : Cond.selects yX12_adds.cls yX12_adds yX12_adds ∈ x_Ts := sin_10 (i := 13) rfl rfl
theorem wi_yX12_variable : Cond.instanceMethod yX12_variable ∈ x_Ts := tin_9 (i := 81) rfl rfl
theorem wv_yX12_variable : Cond.selects yX12_variable.cls yX12_variable yX12_variable ∈ x_Ts := tin_9 (i := 82) rfl rfl
theorem wi_yX12_where : Cond.instanceMethod yX12_where ∈ x_Ts := tin_9 (i := 85) rfl rfl
theorem wv_yX12_where : Cond.selects yX12_where.cls yX12_where yX12_where ∈ x_Ts := tin_9 (i := 86) rfl rfl
theorem wi_yX12_means : Cond.instanceMethod yX12_means ∈ x_Ts := tin_9 (i := 89) rfl rfl
theorem wv_yX12_means : Cond.selects yX12_means.cls yX12_means yX12_means ∈ x_Ts := tin_9 (i := 90) rfl rfl
theorem wi_yX12_keepsSign : Cond.instanceMethod yX12_keepsSign ∈ x_Ts := tin_9 (i := 98) rfl rfl
theorem wv_yX12_keepsSign : Cond.selects yX12_keepsSign.cls yX12_keepsSign yX12_keepsSign ∈ x_Ts := sin_11 (i := 15) rfl rfl
theorem wi_yX12_keepsWord : Cond.instanceMethod yX12_keepsWord ∈ x_Ts := tin_9 (i := 115) rfl rfl
theorem wv_yX12_keepsWord : Cond.selects yX12_keepsWord.cls yX12_keepsWord yX12_keepsWord ∈ x_Ts := sin_12 (i := 3) rfl rfl
theorem wi_yX12_meantLocation : Cond.instanceMethod yX12_meantLocation ∈ x_Ts := tin_9 (i := 94) rfl rfl
theorem wv_yX12_meantLocation : Cond.selects yX12_meantLocation.cls yX12_meantLocation yX12_meantLocation ∈ x_Ts := sin_11 (i := 14) rfl rfl
theorem wi_yX12_meantPlace : Cond.instanceMethod yX12_meantPlace ∈ x_Ts := tin_9 (i := 102) rfl rfl
theorem wv_yX12_meantPlace : Cond.selects yX12_meantPlace.cls yX12_meantPlace yX12_meantPlace ∈ x_Ts := sin_12 (i := 0) rfl rfl
theorem wi_yX12_does : Cond.instanceMethod yX12_does ∈ x_Ts := tin_9 (i := 125) rfl rfl
theorem wv_yX12_does : Cond.selects yX12_does.cls yX12_does yX12_does ∈ x_Ts := sin_12 (i := 5) rfl rfl
theorem wi_yX12_value : Cond.instanceMethod yX12_value ∈ x_Ts := tin_9 (i := 120) rfl rfl
theorem wv_yX12_value : Cond.selects yX12_value.cls yX12_value yX12_value ∈ x_Ts := sin_12 (i := 4) rfl rfl
theorem wi_yX12_choice : Cond.instanceMethod yX12_choice ∈ x_Ts := tin_9 (i := 106) rfl rfl
theorem wv_yX12_choice : Cond.selects yX12_choice.cls yX12_choice yX12_choice ∈ x_Ts := sin_12 (i := 1) rfl rfl
theorem wi_yX12_meansOperand : Cond.instanceMethod yX12_meansOperand ∈ x_Ts := tin_9 (i := 110) rfl rfl
theorem wv_yX12_meansOperand : Cond.selects yX12_meansOperand.cls yX12_meansOperand yX12_meansOperand ∈ x_Ts := sin_12 (i := 2) rfl rfl
theorem wi_yX12_bases : Cond.instanceMethod yX12_bases ∈ x_Ts := tin_9 (i := 130) rfl rfl
theorem wv_yX12_bases : Cond.selects yX12_bases.cls yX12_bases yX12_bases ∈ x_Ts := sin_12 (i := 6) rfl rfl
theorem wi_yX12_meansFinished : Cond.instanceMethod yX12_meansFinished ∈ x_Ts := tin_9 (i := 134) rfl rfl
theorem wv_yX12_meansFinished : Cond.selects yX12_meansFinished.cls yX12_meansFinished yX12_meansFinished ∈ x_Ts := sin_12 (i := 7) rfl rfl
theorem wi_yX12_meansReduced : Cond.instanceMethod yX12_meansReduced ∈ x_Ts := tin_9 (i := 146) rfl rfl
theorem wv_yX12_meansReduced : Cond.selects yX12_meansReduced.cls yX12_meansReduced yX12_meansReduced ∈ x_Ts := sin_12 (i := 10) rfl rfl
theorem wi_yX12_meansReducedAll : Cond.instanceMethod yX12_meansReducedAll ∈ x_Ts := tin_9 (i := 150) rfl rfl
theorem wv_yX12_meansReducedAll : Cond.selects yX12_meansReducedAll.cls yX12_meansReducedAll yX12_meansReducedAll ∈ x_Ts := sin_12 (i := 11) rfl rfl
theorem wi_yX12_meansBinary : Cond.instanceMethod yX12_meansBinary ∈ x_Ts := tin_9 (i := 142) rfl rfl
theorem wv_yX12_meansBinary : Cond.selects yX12_meansBinary.cls yX12_meansBinary yX12_meansBinary ∈ x_Ts := sin_12 (i := 9) rfl rfl
theorem wi_yX12_meansOperator : Cond.instanceMethod yX12_meansOperator ∈ x_Ts := tin_9 (i := 138) rfl rfl
theorem wv_yX12_meansOperator : Cond.selects yX12_meansOperator.cls yX12_meansOperator yX12_meansOperator ∈ x_Ts := sin_12 (i := 8) rfl rfl
theorem wt_yJ11_isValidCodePoint_9a6ad : Cond.static yJ11_isValidCodePoint_9a6ad ∈ x_Ts := tin_4 (i := 154) rfl rfl
theorem wt_yJ11_highSurrogate_5068e : Cond.static yJ11_highSurrogate_5068e ∈ x_Ts := tin_4 (i := 157) rfl rfl
theorem wt_yJ11_lowSurrogate_5068e : Cond.static yJ11_lowSurrogate_5068e ∈ x_Ts := tin_4 (i := 161) rfl rfl
theorem wt_yJ9_max_7cf53 : Cond.static yJ9_max_7cf53 ∈ x_Ts := tin_3 (i := 67) rfl rfl
theorem wt_yJ9_min_7cf53 : Cond.static yJ9_min_7cf53 ∈ x_Ts := tin_2 (i := 172) rfl rfl
theorem wi_yJ0_length_8abf5 : Cond.instanceMethod yJ0_length_8abf5 ∈ x_Ts := tin_4 (i := 36) rfl rfl
theorem wv_yJ0_length_8abf5 : Cond.selects yJ0_length_8abf5.cls yJ0_length_8abf5 yJ0_length_8abf5 ∈ x_Ts := tin_4 (i := 37) rfl rfl
theorem wi_yJ0_charAt_5068e : Cond.instanceMethod yJ0_charAt_5068e ∈ x_Ts := tin_4 (i := 46) rfl rfl
theorem wv_yJ0_charAt_5068e : Cond.selects yJ0_charAt_5068e.cls yJ0_charAt_5068e yJ0_charAt_5068e ∈ x_Ts := tin_4 (i := 47) rfl rfl
theorem wi_yJ0_indexOf_0f7a4 : Cond.instanceMethod yJ0_indexOf_0f7a4 ∈ x_Ts := tin_4 (i := 110) rfl rfl
theorem wv_yJ0_indexOf_0f7a4 : Cond.selects yJ0_indexOf_0f7a4.cls yJ0_indexOf_0f7a4 yJ0_indexOf_0f7a4 ∈ x_Ts := tin_4 (i := 111) rfl rfl
theorem wi_yJ0_indexOf_7cf53 : Cond.instanceMethod yJ0_indexOf_7cf53 ∈ x_Ts := tin_4 (i := 114) rfl rfl
theorem wv_yJ0_indexOf_7cf53 : Cond.selects yJ0_indexOf_7cf53.cls yJ0_indexOf_7cf53 yJ0_indexOf_7cf53 ∈ x_Ts := tin_4 (i := 115) rfl rfl
theorem wi_yJ0_coder_7d493 : Cond.instanceMethod yJ0_coder_7d493 ∈ x_Ts := tin_4 (i := 40) rfl rfl
theorem wv_yJ0_coder_7d493 : Cond.selects yJ0_coder_7d493.cls yJ0_coder_7d493 yJ0_coder_7d493 ∈ x_Ts := tin_4 (i := 41) rfl rfl
theorem wi_yJ0_isLatin1_aae02 : Cond.instanceMethod yJ0_isLatin1_aae02 ∈ x_Ts := tin_4 (i := 50) rfl rfl
theorem wv_yJ0_isLatin1_aae02 : Cond.selects yJ0_isLatin1_aae02.cls yJ0_isLatin1_aae02 yJ0_isLatin1_aae02 ∈ x_Ts := tin_4 (i := 51) rfl rfl
theorem wt_yJ0_checkIndex_df160 : Cond.static yJ0_checkIndex_df160 ∈ x_Ts := tin_4 (i := 57) rfl rfl
theorem wt_yJ0_checkBoundsBeginEnd_23922 : Cond.static yJ0_checkBoundsBeginEnd_23922 ∈ x_Ts := tin_4 (i := 142) rfl rfl
theorem wt_yJ1_charAt_3b067 : Cond.static yJ1_charAt_3b067 ∈ x_Ts := tin_4 (i := 54) rfl rfl
theorem wt_yJ1_canEncode_9a6ad : Cond.static yJ1_canEncode_9a6ad ∈ x_Ts := tin_4 (i := 122) rfl rfl
theorem wt_yJ1_indexOf_4cfef : Cond.static yJ1_indexOf_4cfef ∈ x_Ts := tin_4 (i := 119) rfl rfl
theorem wt_yJ1_indexOfChar_4cfef : Cond.static yJ1_indexOfChar_4cfef ∈ x_Ts := tin_4 (i := 127) rfl rfl
theorem wt_yJ2_getChar_3b067 : Cond.static yJ2_getChar_3b067 ∈ x_Ts := tin_4 (i := 75) rfl rfl
theorem wt_yJ2_length_9d52b : Cond.static yJ2_length_9d52b ∈ x_Ts := tin_4 (i := 71) rfl rfl
theorem wt_yJ2_indexOf_4cfef : Cond.static yJ2_indexOf_4cfef ∈ x_Ts := tin_4 (i := 130) rfl rfl
theorem wt_yJ2_indexOfChar_4cfef : Cond.static yJ2_indexOfChar_4cfef ∈ x_Ts := tin_4 (i := 136) rfl rfl
theorem wt_yJ2_indexOfCharUnsafe_4cfef : Cond.static yJ2_indexOfCharUnsafe_4cfef ∈ x_Ts := tin_4 (i := 148) rfl rfl
theorem wt_yJ2_indexOfSupplementary_4cfef : Cond.static yJ2_indexOfSupplementary_4cfef ∈ x_Ts := tin_4 (i := 151) rfl rfl
theorem wt_yJ2_charAt_3b067 : Cond.static yJ2_charAt_3b067 ∈ x_Ts := tin_4 (i := 65) rfl rfl
theorem wt_yJ2_checkIndex_2214a : Cond.static yJ2_checkIndex_2214a ∈ x_Ts := tin_4 (i := 68) rfl rfl
theorem wt_yJ2_checkBoundsBeginEnd_d044e : Cond.static yJ2_checkBoundsBeginEnd_d044e ∈ x_Ts := tin_4 (i := 139) rfl rfl
theorem wt_yJ7_fill_53178 : Cond.static yJ7_fill_53178 ∈ x_Ts := tin_3 (i := 215) rfl rfl
theorem wt_yJ7_copyOf_59c91 : Cond.static yJ7_copyOf_59c91 ∈ x_Ts := tin_2 (i := 162) rfl rfl
theorem wt_yJ7_checkLength_df160 : Cond.static yJ7_checkLength_df160 ∈ x_Ts := tin_4 (i := 187) rfl rfl
theorem wt_yJ7_copyOfRange_feecc : Cond.static yJ7_copyOfRange_feecc ∈ x_Ts := tin_4 (i := 181) rfl rfl
theorem wt_yJ7_copyOfRangeInt_feecc : Cond.static yJ7_copyOfRangeInt_feecc ∈ x_Ts := tin_4 (i := 184) rfl rfl
theorem wt_yJ3_checkIndex_8e157 : Cond.static yJ3_checkIndex_8e157 ∈ x_Ts := tin_4 (i := 62) rfl rfl
theorem wt_yJ3_checkFromToIndex_8c36e : Cond.static yJ3_checkFromToIndex_8c36e ∈ x_Ts := tin_4 (i := 145) rfl rfl
theorem wk_RX9_125 : Cond.constantLong RX9 125 (-1) ∈ x_Ts := tin_3 (i := 31) rfl rfl
theorem wk_RX9_136 : Cond.constantLong RX9 136 (32) ∈ x_Ts := tin_3 (i := 39) rfl rfl
theorem wk_RX9_138 : Cond.constantLong RX9 138 (8) ∈ x_Ts := tin_3 (i := 40) rfl rfl
theorem wk_RX9_149 : Cond.constantLong RX9 149 (4096) ∈ x_Ts := tin_3 (i := 45) rfl rfl
theorem wk_RX11_182 : Cond.constantLong RX11 182 (-9223372036854775808) ∈ x_Ts := tin_3 (i := 91) rfl rfl
theorem wk_RX9_272 : Cond.constantLong RX9 272 (63) ∈ x_Ts := tin_3 (i := 95) rfl rfl
theorem wk_RX11_171 : Cond.constantLong RX11 171 (-1) ∈ x_Ts := tin_3 (i := 186) rfl rfl
theorem wk_RX11_205 : Cond.constantLong RX11 205 (100) ∈ x_Ts := tin_3 (i := 202) rfl rfl
theorem wk_RX1_61 : Cond.constantLong RX1 61 (-1) ∈ x_Ts := tin_3 (i := 230) rfl rfl
theorem wk_RX7_118 : Cond.constantLong RX7 118 (10) ∈ x_Ts := tin_4 (i := 96) rfl rfl
theorem wk_RJ2_227 : Cond.constant RJ2 227 (65536) ∈ x_Ts := tin_4 (i := 134) rfl rfl
theorem wk_RJ11_110 : Cond.constant RJ11 110 (55232) ∈ x_Ts := tin_4 (i := 159) rfl rfl
theorem wk_RJ11_76 : Cond.constant RJ11 76 (56320) ∈ x_Ts := tin_4 (i := 163) rfl rfl
theorem wk_RX4_167 : Cond.constantLong RX4 167 (32) ∈ x_Ts := tin_5 (i := 75) rfl rfl
theorem wk_RX4_169 : Cond.constantLong RX4 169 (255) ∈ x_Ts := tin_5 (i := 139) rfl rfl
theorem wk_RX4_138 : Cond.constantLong RX4 138 (64) ∈ x_Ts := tin_5 (i := 145) rfl rfl
theorem wk_RX0_153 : Cond.constantLong RX0 153 (31) ∈ x_Ts := tin_5 (i := 170) rfl rfl
theorem wk_RX0_155 : Cond.constantLong RX0 155 (255) ∈ x_Ts := tin_5 (i := 171) rfl rfl
theorem wk_RX0_157 : Cond.constantLong RX0 157 (65535) ∈ x_Ts := tin_5 (i := 176) rfl rfl
theorem wk_RX0_159 : Cond.constantLong RX0 159 (4294967295) ∈ x_Ts := tin_5 (i := 177) rfl rfl
theorem wk_RX0_163 : Cond.constantLong RX0 163 (-64) ∈ x_Ts := tin_5 (i := 186) rfl rfl
theorem wk_RX0_165 : Cond.constantLong RX0 165 (63) ∈ x_Ts := tin_5 (i := 187) rfl rfl
theorem wk_RX0_161 : Cond.constantLong RX0 161 (127) ∈ x_Ts := tin_5 (i := 188) rfl rfl
theorem wk_RX0_120 : Cond.constantLong RX0 120 (8) ∈ x_Ts := tin_5 (i := 218) rfl rfl
theorem wk_RX11_269 : Cond.constantLong RX11 269 (1000) ∈ x_Ts := tin_5 (i := 233) rfl rfl
theorem wk_RX2_184 : Cond.constantLong RX2 184 (-1) ∈ x_Ts := tin_6 (i := 37) rfl rfl
theorem wk_RX12_226 : Cond.constantLong RX12 226 (-1) ∈ x_Ts := tin_7 (i := 231) rfl rfl
theorem wk_RX12_310 : Cond.constantLong RX12 310 (31) ∈ x_Ts := tin_7 (i := 232) rfl rfl
theorem wk_RX12_315 : Cond.constantLong RX12 315 (8) ∈ x_Ts := tin_7 (i := 237) rfl rfl
theorem wk_RX12_218 : Cond.constantLong RX12 218 (4096) ∈ x_Ts := tin_8 (i := 2) rfl rfl
theorem wk_RX12_340 : Cond.constantLong RX12 340 (512) ∈ x_Ts := tin_8 (i := 3) rfl rfl
theorem wk_RX12_325 : Cond.constantLong RX12 325 (15) ∈ x_Ts := tin_8 (i := 8) rfl rfl
theorem wk_RX12_392 : Cond.constantLong RX12 392 (-9223372036854775808) ∈ x_Ts := tin_8 (i := 41) rfl rfl
theorem wk_RX12_250 : Cond.constantLong RX12 250 (63) ∈ x_Ts := tin_8 (i := 42) rfl rfl
theorem wk_RX12_408 : Cond.constantLong RX12 408 (4095) ∈ x_Ts := tin_8 (i := 95) rfl rfl
theorem wk_RX12_455 : Cond.constantLong RX12 455 (37) ∈ x_Ts := tin_8 (i := 128) rfl rfl
theorem wk_RX12_426 : Cond.constantLong RX12 426 (24834) ∈ x_Ts := tin_8 (i := 137) rfl rfl
theorem wk_RX12_428 : Cond.constantLong RX12 428 (41299405) ∈ x_Ts := tin_8 (i := 138) rfl rfl
theorem wk_RX12_430 : Cond.constantLong RX12 430 (5042231) ∈ x_Ts := tin_8 (i := 139) rfl rfl
theorem wk_RX12_432 : Cond.constantLong RX12 432 (730200) ∈ x_Ts := tin_8 (i := 140) rfl rfl
theorem wk_RX12_434 : Cond.constantLong RX12 434 (224) ∈ x_Ts := tin_8 (i := 141) rfl rfl
theorem wk_RX12_436 : Cond.constantLong RX12 436 (4330) ∈ x_Ts := tin_8 (i := 142) rfl rfl
theorem wk_RX12_438 : Cond.constantLong RX12 438 (20619) ∈ x_Ts := tin_8 (i := 143) rfl rfl
theorem wk_RX12_440 : Cond.constantLong RX12 440 (27843) ∈ x_Ts := tin_8 (i := 144) rfl rfl
theorem wk_RX12_442 : Cond.constantLong RX12 442 (5831) ∈ x_Ts := tin_8 (i := 145) rfl rfl
theorem wk_RX12_444 : Cond.constantLong RX12 444 (18356) ∈ x_Ts := tin_8 (i := 146) rfl rfl
theorem wk_RX12_465 : Cond.constantLong RX12 465 (10) ∈ x_Ts := tin_8 (i := 147) rfl rfl
theorem wk_RX12_467 : Cond.constantLong RX12 467 (48) ∈ x_Ts := tin_8 (i := 148) rfl rfl
theorem wk_RX12_503 : Cond.constantLong RX12 503 (255) ∈ x_Ts := tin_8 (i := 221) rfl rfl
theorem wk_RX12_509 : Cond.constantLong RX12 509 (65535) ∈ x_Ts := tin_8 (i := 222) rfl rfl
theorem wk_RX12_511 : Cond.constantLong RX12 511 (4294967295) ∈ x_Ts := tin_8 (i := 223) rfl rfl
theorem wk_RX12_605 : Cond.constantLong RX12 605 (43) ∈ x_Ts := tin_9 (i := 0) rfl rfl
theorem wk_RX12_651 : Cond.constantLong RX12 651 (45) ∈ x_Ts := tin_9 (i := 1) rfl rfl
theorem wk_RX12_647 : Cond.constantLong RX12 647 (42) ∈ x_Ts := tin_9 (i := 10) rfl rfl
theorem wk_RX12_649 : Cond.constantLong RX12 649 (9) ∈ x_Ts := tin_9 (i := 11) rfl rfl
theorem wk_RX12_501 : Cond.constantLong RX12 501 (-64) ∈ x_Ts := tin_9 (i := 16) rfl rfl
theorem wk_RX12_499 : Cond.constantLong RX12 499 (127) ∈ x_Ts := tin_9 (i := 17) rfl rfl
theorem wk_RX12_641 : Cond.constantLong RX12 641 (261) ∈ x_Ts := tin_9 (i := 50) rfl rfl
theorem wk_RX12_643 : Cond.constantLong RX12 643 (262) ∈ x_Ts := tin_9 (i := 51) rfl rfl
theorem wk_RX12_645 : Cond.constantLong RX12 645 (263) ∈ x_Ts := tin_9 (i := 52) rfl rfl
theorem wk_RX12_629 : Cond.constantLong RX12 629 (257) ∈ x_Ts := tin_9 (i := 57) rfl rfl
theorem wk_RX12_631 : Cond.constantLong RX12 631 (258) ∈ x_Ts := tin_9 (i := 58) rfl rfl
theorem wk_RX12_633 : Cond.constantLong RX12 633 (60) ∈ x_Ts := tin_9 (i := 59) rfl rfl
theorem wk_RX12_635 : Cond.constantLong RX12 635 (259) ∈ x_Ts := tin_9 (i := 60) rfl rfl
theorem wk_RX12_637 : Cond.constantLong RX12 637 (62) ∈ x_Ts := tin_9 (i := 61) rfl rfl
theorem wk_RX12_639 : Cond.constantLong RX12 639 (260) ∈ x_Ts := tin_9 (i := 62) rfl rfl
theorem wk_RX12_547 : Cond.constantLong RX12 547 (64) ∈ x_Ts := tin_9 (i := 75) rfl rfl
theorem wk_RX12_692 : Cond.constantLong RX12 692 (126) ∈ x_Ts := tin_9 (i := 112) rfl rfl
theorem wk_RX12_697 : Cond.constantLong RX12 697 (40) ∈ x_Ts := tin_9 (i := 117) rfl rfl
theorem wk_RX12_702 : Cond.constantLong RX12 702 (5) ∈ x_Ts := tin_9 (i := 122) rfl rfl
theorem wk_RX12_707 : Cond.constantLong RX12 707 (6) ∈ x_Ts := tin_9 (i := 127) rfl rfl
theorem wk_RL_31 : Cond.constantLong RL 31 (4294967295) ∈ x_Ts := tin_9 (i := 152) rfl rfl
