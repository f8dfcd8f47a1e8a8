/-! the law: its loop -/
set_option maxHeartbeats 4000000 in
set_option maxRecDepth 100000 in
/-- from its head, n calls made, to its end -/
theorem l_loop {p : Program} {l : Launch} {e : Env} {s : State} {m : MethodId} {below : List Frame} {meth : Method} {c : Code} {b L : Nat} {xs : Nat → Int32} {D : va_G} {cy : Nat → ClassId} {adM : NT} {o a0 : Nat} (C : lctx p l s m c b L xs D cy) (hr : meth.sig.returnType = ret) (hlocks : meth.locks = false) (hL : L ≤ 1536) : ∀ (k n : Nat), L ≤ 3 * (n + k) → n ≤ 512 → lgo p l e s m below meth c b D cy adM o a0 n (3 * n) (100 + 6 * n) (2000 + 86 * n) 23 := by
  intro k
  induction k with
  | zero =>
    intro n hk hn
    obtain ⟨hx, hb, hml, hown, hts, hK, hY, hC9, hX, hbl, hl9⟩ := id C
    intro adC τ ν σ μ x0 H locs ls ha hR hJ hB hO hM hS hl
    refine lv_iload hx hb dL_law_23 (lv_at hl 4 rfl) ?_
    refine lv_aload_n hx hb dL_law_25 rfl (lv_at hl 0 rfl) ?_
    refine va_slen hx hb hX hbl (Nat.not_le.mpr hbl) hS dL_law_26 ?_
    refine lv_iconst (v := nI 3) hx hb dL_law_27 (by decide) ?_
    refine lv_isub hx hb dL_law_28 ?_
    refine lv_icmp_gt (tgt := 1172) hx hb dL_law_29 (by decide) (fun c1 => ?_) (fun c1 => ?_)
    · refine lv_iconst (v := 1) hx hb dL_law_1172 (by decide) ?_
      refine va_forget (fun q hq => hS.2.2 q hq) ?_
      exact W.widen (k := 601024) (n := 7293034) (by omega) (by omega) (lw_ret hx hb hr hlocks dL_law_1173)
    · refine absurd ?_ c1
      show nI L - nI 3 < nI (3 * n)
      rw [Int32.lt_iff_toInt_lt, pk_sub_toInt (by omega) (by omega), nI_toInt (by omega)]
      omega
  | succ k ih =>
    intro n hk hn
    obtain ⟨hx, hb, hml, hown, hts, hK, hY, hC9, hX, hbl, hl9⟩ := id C
    intro adC τ ν σ μ x0 H locs ls ha hR hJ hB hO hM hS hl
    refine lv_iload hx hb dL_law_23 (lv_at hl 4 rfl) ?_
    refine lv_aload_n hx hb dL_law_25 rfl (lv_at hl 0 rfl) ?_
    refine va_slen hx hb hX hbl (Nat.not_le.mpr hbl) hS dL_law_26 ?_
    refine lv_iconst (v := nI 3) hx hb dL_law_27 (by decide) ?_
    refine lv_isub hx hb dL_law_28 ?_
    refine lv_icmp_gt (tgt := 1172) hx hb dL_law_29 (by decide) (fun c1 => ?_) (fun c1 => ?_)
    · refine lv_iconst (v := 1) hx hb dL_law_1172 (by decide) ?_
      refine va_forget (fun q hq => hS.2.2 q hq) ?_
      exact W.widen (k := 601024) (n := 7293034) (by omega) (by omega) (lw_ret hx hb hr hlocks dL_law_1173)
    · have hi : 3 * n + 2 < L := by
        have c2 : ¬ nI L - nI 3 < nI (3 * n) := c1
        rw [Int32.lt_iff_toInt_lt, pk_sub_toInt (by omega) (by omega), nI_toInt (by omega)] at c2
        omega
      have hro : 100 + 6 * n + 6 ≤ room_1.cells ∧ 2000 + 86 * n + 86 ≤ room_1.slots := by
        show 100 + 6 * n + 6 ≤ 601024 ∧ 2000 + 86 * n + 86 ≤ 7293034
        omega
      have K : lgo p l e s m below meth c b D cy adM o a0 (n + 1) (3 * n) (100 + 6 * n + 6) (2000 + 86 * n + 86) 1166 := by
        intro adC τ ν σ μ x0 H locs ls ha hR hJ hB hO hM hS hl
        refine lv_iinc (v := nI (3 * (n + 1))) (lv' := [(4, .int (nI (3 * (n + 1)))), (0, .ref b), (1, .ref a0), (2, .ref (adM 0 0)), (3, .ref o)]) hx hb dL_law_1166 hl (k := 4) rfl (nI_add (3 * n) 3) (by decide) rfl (fun ls hl => ?_)
        refine lv_goto (tgt := 23) hx hb dL_law_1169 (by decide) ?_
        exact ih (n + 1) (by omega) (by omega) adC τ ν σ μ x0 H locs ls ha hR hJ hB hO hM hS (lv_sub hl [1, 2, 3, 4, 0] rfl)
      refine lv_aload_n hx hb dL_law_32 rfl (lv_at hl 0 rfl) ?_
      refine lv_iload hx hb dL_law_33 (lv_at hl 4 rfl) ?_
      refine va_sld hx hb hX hbl (Nat.not_le.mpr hbl) hS (vp_in_nI (by omega) (by omega)) dL_law_35 ?_
      refine lv_bipush (v := 31) hx hb dL_law_36 (by decide) ?_
      refine lv_iand hx hb dL_law_38 ?_
      obtain ⟨j, hj, ej⟩ := pk_andE (xs (nI (3 * n)).toNatClampNeg) (m := 31) 5 (by decide)
      refine g_top (v' := .int (nI j)) (congrArg Value.int ej) ?_
      by_cases h24 : j < 24
      · match j, h24 with
        | 0, _ => exact lv_tableIn (tgt := 148) hx hb dL_law_39 (by rw [nI_toInt (by omega)]; decide) (by rw [nI_toInt (by omega)]; decide) (by rw [nI_toInt (by omega)]; rfl) (by decide) (lc_0 C (by omega) (by omega) hL hro K adC τ ν σ μ x0 H locs ls ha hR hJ hB hO hM hS hl)
        | 1, _ => exact lv_tableIn (tgt := 206) hx hb dL_law_39 (by rw [nI_toInt (by omega)]; decide) (by rw [nI_toInt (by omega)]; decide) (by rw [nI_toInt (by omega)]; rfl) (by decide) (lc_1 C (by omega) (by omega) hL hro K adC τ ν σ μ x0 H locs ls ha hR hJ hB hO hM hS hl)
        | 2, _ => exact lv_tableIn (tgt := 219) hx hb dL_law_39 (by rw [nI_toInt (by omega)]; decide) (by rw [nI_toInt (by omega)]; decide) (by rw [nI_toInt (by omega)]; rfl) (by decide) (lc_2 C (by omega) (by omega) hL hro K adC τ ν σ μ x0 H locs ls ha hR hJ hB hO hM hS hl)
        | 3, _ => exact lv_tableIn (tgt := 232) hx hb dL_law_39 (by rw [nI_toInt (by omega)]; decide) (by rw [nI_toInt (by omega)]; decide) (by rw [nI_toInt (by omega)]; rfl) (by decide) (lc_3 C (by omega) (by omega) hL hro K adC τ ν σ μ x0 H locs ls ha hR hJ hB hO hM hS hl)
        | 4, _ => exact lv_tableIn (tgt := 245) hx hb dL_law_39 (by rw [nI_toInt (by omega)]; decide) (by rw [nI_toInt (by omega)]; decide) (by rw [nI_toInt (by omega)]; rfl) (by decide) (lc_4 C (by omega) (by omega) hL hro K adC τ ν σ μ x0 H locs ls ha hR hJ hB hO hM hS hl)
        | 5, _ => exact lv_tableIn (tgt := 313) hx hb dL_law_39 (by rw [nI_toInt (by omega)]; decide) (by rw [nI_toInt (by omega)]; decide) (by rw [nI_toInt (by omega)]; rfl) (by decide) (lc_5 C (by omega) (by omega) hL hro K adC τ ν σ μ x0 H locs ls ha hR hJ hB hO hM hS hl)
        | 6, _ => exact lv_tableIn (tgt := 361) hx hb dL_law_39 (by rw [nI_toInt (by omega)]; decide) (by rw [nI_toInt (by omega)]; decide) (by rw [nI_toInt (by omega)]; rfl) (by decide) (lc_6 C (by omega) (by omega) hL hro K adC τ ν σ μ x0 H locs ls ha hR hJ hB hO hM hS hl)
        | 7, _ => exact lv_tableIn (tgt := 417) hx hb dL_law_39 (by rw [nI_toInt (by omega)]; decide) (by rw [nI_toInt (by omega)]; decide) (by rw [nI_toInt (by omega)]; rfl) (by decide) (lc_7 C (by omega) (by omega) hL hro K adC τ ν σ μ x0 H locs ls ha hR hJ hB hO hM hS hl)
        | 8, _ => exact lv_tableIn (tgt := 473) hx hb dL_law_39 (by rw [nI_toInt (by omega)]; decide) (by rw [nI_toInt (by omega)]; decide) (by rw [nI_toInt (by omega)]; rfl) (by decide) (lc_8 C (by omega) (by omega) hL hro K adC τ ν σ μ x0 H locs ls ha hR hJ hB hO hM hS hl)
        | 9, _ => exact lv_tableIn (tgt := 529) hx hb dL_law_39 (by rw [nI_toInt (by omega)]; decide) (by rw [nI_toInt (by omega)]; decide) (by rw [nI_toInt (by omega)]; rfl) (by decide) (lc_9 C (by omega) (by omega) hL hro K adC τ ν σ μ x0 H locs ls ha hR hJ hB hO hM hS hl)
        | 10, _ => exact lv_tableIn (tgt := 597) hx hb dL_law_39 (by rw [nI_toInt (by omega)]; decide) (by rw [nI_toInt (by omega)]; decide) (by rw [nI_toInt (by omega)]; rfl) (by decide) (lc_10 C (by omega) (by omega) hL hro K adC τ ν σ μ x0 H locs ls ha hR hJ hB hO hM hS hl)
        | 11, _ => exact lv_tableIn (tgt := 665) hx hb dL_law_39 (by rw [nI_toInt (by omega)]; decide) (by rw [nI_toInt (by omega)]; decide) (by rw [nI_toInt (by omega)]; rfl) (by decide) (lc_11 C (by omega) (by omega) hL hro K adC τ ν σ μ x0 H locs ls ha hR hJ hB hO hM hS hl)
        | 12, _ => exact lv_tableIn (tgt := 678) hx hb dL_law_39 (by rw [nI_toInt (by omega)]; decide) (by rw [nI_toInt (by omega)]; decide) (by rw [nI_toInt (by omega)]; rfl) (by decide) (lc_12 C (by omega) (by omega) hL hro K adC τ ν σ μ x0 H locs ls ha hR hJ hB hO hM hS hl)
        | 13, _ => exact lv_tableIn (tgt := 734) hx hb dL_law_39 (by rw [nI_toInt (by omega)]; decide) (by rw [nI_toInt (by omega)]; decide) (by rw [nI_toInt (by omega)]; rfl) (by decide) (lc_13 C (by omega) (by omega) hL hro K adC τ ν σ μ x0 H locs ls ha hR hJ hB hO hM hS hl)
        | 14, _ => exact lv_tableIn (tgt := 790) hx hb dL_law_39 (by rw [nI_toInt (by omega)]; decide) (by rw [nI_toInt (by omega)]; decide) (by rw [nI_toInt (by omega)]; rfl) (by decide) (lc_14 C (by omega) (by omega) hL hro K adC τ ν σ μ x0 H locs ls ha hR hJ hB hO hM hS hl)
        | 15, _ => exact lv_tableIn (tgt := 846) hx hb dL_law_39 (by rw [nI_toInt (by omega)]; decide) (by rw [nI_toInt (by omega)]; decide) (by rw [nI_toInt (by omega)]; rfl) (by decide) (lc_15 C (by omega) (by omega) hL hro K adC τ ν σ μ x0 H locs ls ha hR hJ hB hO hM hS hl)
        | 16, _ => exact lv_tableIn (tgt := 909) hx hb dL_law_39 (by rw [nI_toInt (by omega)]; decide) (by rw [nI_toInt (by omega)]; decide) (by rw [nI_toInt (by omega)]; rfl) (by decide) (lc_16 C (by omega) (by omega) hL hro K adC τ ν σ μ x0 H locs ls ha hR hJ hB hO hM hS hl)
        | 17, _ => exact lv_tableIn (tgt := 922) hx hb dL_law_39 (by rw [nI_toInt (by omega)]; decide) (by rw [nI_toInt (by omega)]; decide) (by rw [nI_toInt (by omega)]; rfl) (by decide) (lc_17 C (by omega) (by omega) hL hro K adC τ ν σ μ x0 H locs ls ha hR hJ hB hO hM hS hl)
        | 18, _ => exact lv_tableIn (tgt := 935) hx hb dL_law_39 (by rw [nI_toInt (by omega)]; decide) (by rw [nI_toInt (by omega)]; decide) (by rw [nI_toInt (by omega)]; rfl) (by decide) (lc_18 C (by omega) (by omega) hL hro K adC τ ν σ μ x0 H locs ls ha hR hJ hB hO hM hS hl)
        | 19, _ => exact lv_tableIn (tgt := 1003) hx hb dL_law_39 (by rw [nI_toInt (by omega)]; decide) (by rw [nI_toInt (by omega)]; decide) (by rw [nI_toInt (by omega)]; rfl) (by decide) (lc_19 C (by omega) (by omega) hL hro K adC τ ν σ μ x0 H locs ls ha hR hJ hB hO hM hS hl)
        | 20, _ => exact lv_tableIn (tgt := 1059) hx hb dL_law_39 (by rw [nI_toInt (by omega)]; decide) (by rw [nI_toInt (by omega)]; decide) (by rw [nI_toInt (by omega)]; rfl) (by decide) (lc_20 C (by omega) (by omega) hL hro K adC τ ν σ μ x0 H locs ls ha hR hJ hB hO hM hS hl)
        | 21, _ => exact lv_tableIn (tgt := 1072) hx hb dL_law_39 (by rw [nI_toInt (by omega)]; decide) (by rw [nI_toInt (by omega)]; decide) (by rw [nI_toInt (by omega)]; rfl) (by decide) (lc_21 C (by omega) (by omega) hL hro K adC τ ν σ μ x0 H locs ls ha hR hJ hB hO hM hS hl)
        | 22, _ => exact lv_tableIn (tgt := 1085) hx hb dL_law_39 (by rw [nI_toInt (by omega)]; decide) (by rw [nI_toInt (by omega)]; decide) (by rw [nI_toInt (by omega)]; rfl) (by decide) (lc_22 C (by omega) (by omega) hL hro K adC τ ν σ μ x0 H locs ls ha hR hJ hB hO hM hS hl)
        | 23, _ => exact lv_tableIn (tgt := 1098) hx hb dL_law_39 (by rw [nI_toInt (by omega)]; decide) (by rw [nI_toInt (by omega)]; decide) (by rw [nI_toInt (by omega)]; rfl) (by decide) (lc_23 C (by omega) (by omega) hL hro K adC τ ν σ μ x0 H locs ls ha hR hJ hB hO hM hS hl)
        | _ + 24, h => exact absurd h (by omega)
      · refine lv_tableOut (tgt := 1166) hx hb dL_law_39 (Or.inr ?_) (by decide) (W.widen (k := 100 + 6 * n + 6) (n := 2000 + 86 * n + 86) (by omega) (by omega) (K adC τ ν σ μ x0 H locs ls ha (hR.up (Nat.le_succ n)) hJ hB hO hM hS hl))
        rw [nI_toInt (by omega)]
        omega
