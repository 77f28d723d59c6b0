/-! THE LAW: its loop -/
section XLP
variable {G : xG} {l : Launch} {d : Nat} {Z : List Frame → Array Value → State → Nat → Nat → State → Prop} {k n i : Nat} {h : xH} {b : Bool} {S : St}
theorem w_choice (hd : 100 ≤ d) (hL : G.2.2.2.2.2 9 ≤ 3072) (hi : i + 5 < G.2.2.2.2.2 9) (hR : RC b h S) (hM : RM h S) (hm : h.2 < 600000) (K : wK G l d Z k n i h) (j : Nat) (hj : j < 64) : xWP G l mL_law d Z (200 + k + kB b) (7000 + n + nB b) 33 (xL0 i) [.int (nI j)] h := by
  match j, hj with
  | 0, _ => exact x_tabIn (tgt := 268) dL_law_33 (by decide) (by decide) (off := 235) rfl rfl (wc_put hd hL hi hR hM hm K)
  | 1, _ => exact x_tabIn (tgt := 311) dL_law_33 (by decide) (by decide) (off := 278) rfl rfl (wc_one hd hL hi hR hM hm K)
  | 2, _ => exact x_tabIn (tgt := 344) dL_law_33 (by decide) (by decide) (off := 311) rfl rfl (wc_listed hd hL hi hR hM hm K)
  | 3, _ => exact x_tabIn (tgt := 387) dL_law_33 (by decide) (by decide) (off := 354) rfl rfl (wc_copy hd hL hi hR hM hm K)
  | 4, _ => exact x_tabIn (tgt := 420) dL_law_33 (by decide) (by decide) (off := 387) rfl rfl (wc_order hd hL hi hR hM hm K)
  | 5, _ => exact x_tabIn (tgt := 443) dL_law_33 (by decide) (by decide) (off := 410) rfl rfl (wc_sum hd hL hi hR hM hm K)
  | 6, _ => exact x_tabIn (tgt := 486) dL_law_33 (by decide) (by decide) (off := 453) rfl rfl (wc_less hd hL hi hR hM hm K)
  | 7, _ => exact x_tabIn (tgt := 529) dL_law_33 (by decide) (by decide) (off := 496) rfl rfl (wc_product hd hL hi hR hM hm K)
  | 8, _ => exact x_tabIn (tgt := 572) dL_law_33 (by decide) (by decide) (off := 539) rfl rfl (wc_mirror hd hL hi hR hM hm K)
  | 9, _ => exact x_tabIn (tgt := 605) dL_law_33 (by decide) (by decide) (off := 572) rfl rfl (wc_times hd hL hi hR hM hm K)
  | 10, _ => exact x_tabIn (tgt := 648) dL_law_33 (by decide) (by decide) (off := 615) rfl rfl (wc_turn hd hL hi hR hM hm K)
  | 11, _ => exact x_tabIn (tgt := 701) dL_law_33 (by decide) (by decide) (off := 668) rfl rfl (wc_chain hd hL hi hR hM hm K)
  | 12, _ => exact x_tabIn (tgt := 764) dL_law_33 (by decide) (by decide) (off := 731) rfl rfl (wc_last hd hL hi hR hM hm K)
  | 13, _ => exact x_tabIn (tgt := 807) dL_law_33 (by decide) (by decide) (off := 774) rfl rfl (wc_power hd hL hi hR hM hm K)
  | 14, _ => exact x_tabIn (tgt := 850) dL_law_33 (by decide) (by decide) (off := 817) rfl rfl (wc_associator hd hL hi hR hM hm K)
  | 15, _ => exact x_tabIn (tgt := 903) dL_law_33 (by decide) (by decide) (off := 870) rfl rfl (wc_commutator hd hL hi hR hM hm K)
  | 16, _ => exact x_tabIn (tgt := 946) dL_law_33 (by decide) (by decide) (off := 913) rfl rfl (wc_nearest hd hL hi hR hM hm K)
  | 17, _ => exact x_tabIn (tgt := 989) dL_law_33 (by decide) (by decide) (off := 956) rfl rfl (wc_divide hd hL hi hR hM hm K)
  | 18, _ => exact x_tabIn (tgt := 1042) dL_law_33 (by decide) (by decide) (off := 1009) rfl rfl (wc_bracket hd hL hi hR hM hm K)
  | 19, _ => exact x_tabIn (tgt := 1095) dL_law_33 (by decide) (by decide) (off := 1062) rfl rfl (wc_feed hd hL hi hR hM hm K)
  | 20, _ => exact x_tabIn (tgt := 1158) dL_law_33 (by decide) (by decide) (off := 1125) rfl rfl (wc_back hd hL hi hR hM hm K)
  | 21, _ => exact x_tabIn (tgt := 1181) dL_law_33 (by decide) (by decide) (off := 1148) rfl rfl (wc_work hd hL hi hR hM hm K)
  | 22, _ => exact x_tabIn (tgt := 1204) dL_law_33 (by decide) (by decide) (off := 1171) rfl rfl (wc_part hd hL hi hR hM hm K)
  | 23, _ => exact x_tabIn (tgt := 1237) dL_law_33 (by decide) (by decide) (off := 1204) rfl rfl (wc_norm hd hL hi hR hM hm K)
  | 24, _ => exact x_tabIn (tgt := 1260) dL_law_33 (by decide) (by decide) (off := 1227) rfl rfl (wc_spell hd hL hi hR hM hm K)
  | 25, _ => exact x_tabIn (tgt := 1293) dL_law_33 (by decide) (by decide) (off := 1260) rfl rfl (wc_turned hd hL hi hR hM hm K)
  | 26, _ => exact x_tabIn (tgt := 1346) dL_law_33 (by decide) (by decide) (off := 1313) rfl rfl (wc_odd hd hL hi hR hM hm K)
  | 27, _ => exact x_tabIn (tgt := 1369) dL_law_33 (by decide) (by decide) (off := 1336) rfl rfl (wc_whole hd hL hi hR hM hm K)
  | 28, _ => exact x_tabIn (tgt := 1392) dL_law_33 (by decide) (by decide) (off := 1359) rfl rfl (wc_orders hd hL hi hR hM hm K)
  | 29, _ => exact x_tabIn (tgt := 1415) dL_law_33 (by decide) (by decide) (off := 1382) rfl rfl (wc_same hd hL hi hR hM hm K)
  | 30, _ => exact x_tabIn (tgt := 1448) dL_law_33 (by decide) (by decide) (off := 1415) rfl rfl (wc_many hd hL hi hR hM hm K)
  | 31, _ => exact x_tabIn (tgt := 1471) dL_law_33 (by decide) (by decide) (off := 1438) rfl rfl (wc_listedPart hd hL hi hR hM hm K)
  | 32, _ => exact x_tabIn (tgt := 1514) dL_law_33 (by decide) (by decide) (off := 1481) rfl rfl (wc_place hd hL hi hR hM hm K)
  | 33, _ => exact x_tabIn (tgt := 1537) dL_law_33 (by decide) (by decide) (off := 1504) rfl rfl (wc_divisors hd hL hi hR hM hm K)
  | 34, _ => exact x_tabIn (tgt := 1596) dL_law_33 (by decide) (by decide) (off := 1563) rfl rfl (wc_divisor hd hL hi hR hM hm K)
  | 35, _ => exact x_tabIn (tgt := 1665) dL_law_33 (by decide) (by decide) (off := 1632) rfl rfl (wc_inner hd hL hi hR hM hm K)
  | 36, _ => exact x_tabIn (tgt := 1698) dL_law_33 (by decide) (by decide) (off := 1665) rfl rfl (wc_angles hd hL hi hR hM hm K)
  | 37, _ => exact x_tabIn (tgt := 1741) dL_law_33 (by decide) (by decide) (off := 1708) rfl rfl (wc_alike hd hL hi hR hM hm K)
  | 38, _ => exact x_tabIn (tgt := 1784) dL_law_33 (by decide) (by decide) (off := 1751) rfl rfl (wc_alikeMany hd hL hi hR hM hm K)
  | 39, _ => exact x_tabIn (tgt := 1827) dL_law_33 (by decide) (by decide) (off := 1794) rfl rfl (wc_commuting hd hL hi hR hM hm K)
  | 40, _ => exact x_tabIn (tgt := 1860) dL_law_33 (by decide) (by decide) (off := 1827) rfl rfl (wc_sides hd hL hi hR hM hm K)
  | 41, _ => exact x_tabIn (tgt := 1919) dL_law_33 (by decide) (by decide) (off := 1886) rfl rfl (wc_cycle hd hL hi hR hM hm K)
  | 42, _ => exact x_tabIn (tgt := 1942) dL_law_33 (by decide) (by decide) (off := 1909) rfl rfl (wc_made hd hL hi hR hM hm K)
  | 43, _ => exact x_tabIn (tgt := 1975) dL_law_33 (by decide) (by decide) (off := 1942) rfl rfl (wc_madeAt hd hL hi hR hM hm K)
  | 44, _ => exact x_tabIn (tgt := 2008) dL_law_33 (by decide) (by decide) (off := 1975) rfl rfl (wc_table hd hL hi hR hM hm K)
  | 45, _ => exact x_tabIn (tgt := 2041) dL_law_33 (by decide) (by decide) (off := 2008) rfl rfl (wc_turnCycle hd hL hi hR hM hm K)
  | 46, _ => exact x_tabIn (tgt := 2084) dL_law_33 (by decide) (by decide) (off := 2051) rfl rfl (wc_shared hd hL hi hR hM hm K)
  | 47, _ => exact x_tabIn (tgt := 2117) dL_law_33 (by decide) (by decide) (off := 2084) rfl rfl (wc_cycles hd hL hi hR hM hm K)
  | 48, _ => exact x_tabIn (tgt := 2140) dL_law_33 (by decide) (by decide) (off := 2107) rfl rfl (wc_nucleus hd hL hi hR hM hm K)
  | 49, _ => exact x_tabIn (tgt := 2173) dL_law_33 (by decide) (by decide) (off := 2140) rfl rfl (wc_laws hd hL hi hR hM hm K)
  | 50, _ => exact x_tabIn (tgt := 2216) dL_law_33 (by decide) (by decide) (off := 2183) rfl rfl (wc_bracketed hd hL hi hR hM hm K)
  | 51, _ => exact x_tabIn (tgt := 2249) dL_law_33 (by decide) (by decide) (off := 2216) rfl rfl (wc_rests hd hL hi hR hM hm K)
  | 52, _ => exact x_tabIn (tgt := 2292) dL_law_33 (by decide) (by decide) (off := 2259) rfl rfl (wc_keep hd hL hi hR hM hm K)
  | 53, _ => exact x_tabIn (tgt := 2305) dL_law_33 (by decide) (by decide) (off := 2272) rfl rfl (wc_restore hd hL hi hR hM hm K)
  | 54, _ => exact x_tabIn (tgt := 2318) dL_law_33 (by decide) (by decide) (off := 2285) rfl rfl (wc_count hd hL hi hR hM hm K)
  | j + 55, hj =>
    refine x_tabOut (tgt := 2341) dL_law_33 (Or.inr ?_) rfl ?_
    · rw [nI_toInt (by omega)]
      omega
    · exact xw_mono (by omega) (by omega) (K b S h hR hM (by omega))
theorem w_loop (hd : 100 ≤ d) (hL : G.2.2.2.2.2 9 ≤ 3072) : ∀ (m i : Nat) (b : Bool) (S : St) (h : xH), G.2.2.2.2.2 9 < i + 6 * m + 6 → i ≤ 3072 → RC b h S → RM h S → h.2 + 200 * m ≤ 102600 → xWP G l mL_law d (zLw G) (200 * m + kB b) (7000 * m + nB b) 18 (xL0 i) [] h := by
  intro m
  induction m with
  | zero =>
    intro i b S h hi hi2 hR hM hm
    refine x_iload_n (i := 3) dL_law_18 rfl rfl rfl ?_
    refine x_aload_n (i := 0) dL_law_19 rfl rfl rfl ?_
    refine x_salen (j := 8) dL_law_20 rfl scH rfl ?_
    refine x_bipush dL_law_21 rfl bC_6 ?_
    refine x_isub dL_law_23 rfl ?_
    refine x_ic_gt_t (tgt := 2347) dL_law_24 rfl ((lw_gt hL (by omega)).mpr (by omega)) ?_
    refine x_iconst (v := 1) dL_law_2347 rfl (by decide) ?_
    exact xw_end
  | succ m ih =>
    intro i b S h hi hi2 hR hM hm
    refine x_iload_n (i := 3) dL_law_18 rfl rfl rfl ?_
    refine x_aload_n (i := 0) dL_law_19 rfl rfl rfl ?_
    refine x_salen (j := 8) dL_law_20 rfl scH rfl ?_
    refine x_bipush dL_law_21 rfl bC_6 ?_
    refine x_isub dL_law_23 rfl ?_
    refine x_ic_gt (tgt := 2347) dL_law_24 rfl rfl (fun q => ?_) (fun q => ?_)
    · refine x_iconst (v := 1) dL_law_2347 rfl (by decide) ?_
      exact xw_end
    · have hlt : i + 5 < G.2.2.2.2.2 9 := by
        have h1 : ¬ G.2.2.2.2.2 9 < i + 6 := fun z => q ((lw_gt hL (by omega)).mpr z)
        omega
      refine x_aload_n (i := 0) dL_law_27 rfl rfl rfl ?_
      refine x_iload_n (i := 3) dL_law_28 rfl rfl rfl ?_
      refine x_siald (j := 8) (i2 := i) dL_law_29 rfl scH rfl (by omega) (by omega) rfl ?_
      refine x_bipush dL_law_30 rfl bC_63 ?_
      refine x_iand dL_law_32 rfl ?_
      obtain ⟨j, hj, ej⟩ := and63 (nI (G.2.2.2.2.2 (10 + i)))
      rw [ej]
      refine xw_mono (k2 := 200 + 200 * m + kB b) (n2 := 7000 + 7000 * m + nB b) (by omega) (by omega) (w_choice hd hL hlt hR hM (by omega) (fun b2 S2 h2 hR2 hM2 hl => ?_) j hj)
      refine x_iinc dL_law_2341 rfl rfl (inc6 i) ?_
      refine x_goto (tgt := 18) dL_law_2344 rfl ?_
      exact x_to (ih (i + 6) b2 S2 h2 (by omega) (by omega) hR2 hM2 (by omega)) ⟨rfl, rfl, rfl, rfl, trivial⟩
/-- from the entry -/
theorem kX11_len : kX11.length = 110 := by decide +kernel
theorem w_law (hd : 100 ≤ d) (hL : G.2.2.2.2.2 9 ≤ 3072) : xWP G l mL_law d (zLw G) 600000 7302250 0 (xls [(0, .ref (1000000 + 8))]) [] (lh []) := by
  refine xw_mono (k2 := 1 + 102534) (n2 := 16 + 3733760) (by decide) (by decide) ?_
  show xWP G l mL_law d (zLw G) (1 + 102534) (16 + 3733760) 0 _ [] (lh ([] ++ []))
  refine y_new (cs := []) (t := []) [bX11_0] (ci := 11) (q := (RX11, TX11, 16)) (m := 0) (k := 102534) (n := 3733760) dL_law_0 rfl rfl lL_7 inX11 izX11 (by decide) rfl (by decide) rfl ?_
  refine x_dup dL_law_3 rfl rfl ?_
  refine x_callI (b := 0) (As := []) (d2 := d - 1) (mc2 := 109) (ms2 := 1922) (k2 := 1 + 102424) (n2 := 38 + 3731800) dL_law_4 rfl kL_9 okX11_init (by omega) rfl rfl (Nat.le_of_ble_eq_true rfl) (by omega) (by omega) (i_X11 (by omega) ?_)
  refine x_astore_n (i := 1) dL_law_7 rfl rfl (by decide) ?_
  rw [← List.append_nil kX11]
  refine y_new (cs := kX11) (t := []) [(112, 0, fun j => defaultValue (xtys 12 j))] (ci := 12) (q := (RX12, TX12, 38)) (m := 0) (k := 102424) (n := 3731800) dL_law_8 rfl rfl lL_10 inX12 izX12 (by rw [kX11_len]; decide) rfl (by decide) rfl ?_
  refine x_dup dL_law_11 rfl rfl ?_
  refine x_callI (b := kX11.length) (As := []) (d2 := d - 1) (mc2 := 23) (ms2 := 133400) (k2 := 102401) (n2 := 3598400) dL_law_12 rfl kL_12 okX12_init (by omega) rfl rfl (Nat.le_of_ble_eq_true rfl) (by omega) (by omega) (i_X12 (by omega) (by rw [kX11_len]; decide) ?_)
  refine x_astore_n (i := 2) dL_law_15 rfl rfl (by decide) ?_
  refine x_iconst dL_law_16 rfl iC_0 ?_
  refine x_istore_n (i := 3) dL_law_17 rfl rfl (by decide) ?_
  rw [kX11_len]
  refine xw_mono (k2 := 200 * 512 + kB false) (n2 := 7000 * 512 + nB false) (by rw [show kB false = 1 from rfl]; omega) (by rw [show nB false = 14400 from rfl]; omega) ?_
  exact x_to (w_loop hd hL 512 0 false S0 hZ (by omega) (by decide) hZ_RC hZ_RM (by rw [hZ_2]; decide)) ⟨rfl, rfl, rfl, rfl, trivial⟩
end XLP

