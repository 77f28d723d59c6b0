/-! THE LAW: its cases, 4 -/
section XC4
variable {G : xG} {l : Launch} {d : Nat} {Z : List Frame → Array Value → State → Nat → Nat → State → Prop} {k n i : Nat} {h : xH} {b : Bool} {S : St}
theorem wc_made (hd : 100 ≤ d) (hL : G.2.2.2.2.2 9 ≤ 3072) (hi : i + 5 < G.2.2.2.2.2 9) (hR : RC b h S) (hM : RM h S) (hm : h.2 < 600000) (K : wK G l d Z k n i h) : xWP G l mL_law d Z (200 + k + kB b) (7000 + n + nB b) 1942 (xL0 i) [] h := by
  refine x_aload_n (i := 1) dL_law_1942 rfl rfl rfl ?_
  refine w_arg (j := 1) dL_law_1943 dL_law_1944 dL_law_1945 dL_law_1946 dL_law_1947 iC_1 (by omega) hL ?_
  refine w_arg (j := 2) dL_law_1948 dL_law_1949 dL_law_1950 dL_law_1951 dL_law_1952 iC_2 (by omega) hL ?_
  refine x_callV (ci := 11) (b := 0) (As := [_, _]) (d2 := d - 1) (mc2 := _) (ms2 := _) (k2 := k + kB (b || _)) (n2 := n + nB (b || _)) dL_law_1953 rfl kL_190 okX11_made (hR.1.o rfl) (fun q hq => by cases hq; rfl) (by omega) rfl rfl (Nat.le_of_ble_eq_true rfl) (wk_k _ _) (wk_n _ _) (p_made (by omega) hR (by omega) (wk_z hR) (T0_tbl hR.o.1) rfl (fun r S2 h2 e1 hR2 hF => ?_))
  have hM2 := hM.cp hR2.1 hF
  refine x_aload_n (i := 2) dL_law_1956 rfl rfl rfl ?_
  refine w_arg (j := 1) dL_law_1957 dL_law_1958 dL_law_1959 dL_law_1960 dL_law_1961 iC_1 (by omega) hL ?_
  refine w_arg (j := 2) dL_law_1962 dL_law_1963 dL_law_1964 dL_law_1965 dL_law_1966 iC_2 (by omega) hL ?_
  refine x_callV0 (ci := 12) (b := 110) (As := [_, _]) (d2 := d - 1) dL_law_1967 rfl kL_193 okX12_made (hR2.1.o rfl) (fun q hq => by cases hq; rfl) (by omega) rfl rfl (Nat.le_of_ble_eq_true rfl) (n_made (by omega) hM2 (fun r2 S3 h3 e2 hM3 hG => ?_))
  cases e1.symm.trans e2
  refine x_ic_eq_t (tgt := 2341) dL_law_1970 rfl rfl ?_
  exact K _ _ _ (hR2.md hG) hM3 (wk_le hF hG)
theorem wc_madeAt (hd : 100 ≤ d) (hL : G.2.2.2.2.2 9 ≤ 3072) (hi : i + 5 < G.2.2.2.2.2 9) (hR : RC b h S) (hM : RM h S) (hm : h.2 < 600000) (K : wK G l d Z k n i h) : xWP G l mL_law d Z (200 + k + kB b) (7000 + n + nB b) 1975 (xL0 i) [] h := by
  refine x_aload_n (i := 1) dL_law_1975 rfl rfl rfl ?_
  refine w_arg (j := 1) dL_law_1976 dL_law_1977 dL_law_1978 dL_law_1979 dL_law_1980 iC_1 (by omega) hL ?_
  refine w_arg (j := 2) dL_law_1981 dL_law_1982 dL_law_1983 dL_law_1984 dL_law_1985 iC_2 (by omega) hL ?_
  refine x_callV (ci := 11) (b := 0) (As := [_, _]) (d2 := d - 1) (mc2 := _) (ms2 := _) (k2 := k + kB (b || _)) (n2 := n + nB (b || _)) dL_law_1986 rfl kL_194 okX11_madeAt (hR.1.o rfl) (fun q hq => by cases hq; rfl) (by omega) rfl rfl (Nat.le_of_ble_eq_true rfl) (wk_k _ _) (wk_n _ _) (p_madeAt (by omega) hR (by omega) (wk_z hR) (T0_tbl hR.o.1) rfl (fun r S2 h2 e1 hR2 hF => ?_))
  have hM2 := hM.cp hR2.1 hF
  refine x_aload_n (i := 2) dL_law_1989 rfl rfl rfl ?_
  refine w_arg (j := 1) dL_law_1990 dL_law_1991 dL_law_1992 dL_law_1993 dL_law_1994 iC_1 (by omega) hL ?_
  refine w_arg (j := 2) dL_law_1995 dL_law_1996 dL_law_1997 dL_law_1998 dL_law_1999 iC_2 (by omega) hL ?_
  refine x_callV0 (ci := 12) (b := 110) (As := [_, _]) (d2 := d - 1) dL_law_2000 rfl kL_197 okX12_madeAt (hR2.1.o rfl) (fun q hq => by cases hq; rfl) (by omega) rfl rfl (Nat.le_of_ble_eq_true rfl) (n_madeAt (by omega) hM2 (fun r2 S3 h3 e2 hM3 hG => ?_))
  cases e1.symm.trans e2
  refine x_ic_eq_t (tgt := 2341) dL_law_2003 rfl rfl ?_
  exact K _ _ _ (hR2.md hG) hM3 (wk_le hF hG)
theorem wc_table (hd : 100 ≤ d) (hL : G.2.2.2.2.2 9 ≤ 3072) (hi : i + 5 < G.2.2.2.2.2 9) (hR : RC b h S) (hM : RM h S) (hm : h.2 < 600000) (K : wK G l d Z k n i h) : xWP G l mL_law d Z (200 + k + kB b) (7000 + n + nB b) 2008 (xL0 i) [] h := by
  refine x_aload_n (i := 1) dL_law_2008 rfl rfl rfl ?_
  refine w_arg (j := 1) dL_law_2009 dL_law_2010 dL_law_2011 dL_law_2012 dL_law_2013 iC_1 (by omega) hL ?_
  refine w_arg (j := 2) dL_law_2014 dL_law_2015 dL_law_2016 dL_law_2017 dL_law_2018 iC_2 (by omega) hL ?_
  refine x_callV (ci := 11) (b := 0) (As := [_, _]) (d2 := d - 1) (mc2 := _) (ms2 := _) (k2 := k + kB (b || _)) (n2 := n + nB (b || _)) dL_law_2019 rfl kL_198 okX11_table (hR.1.o rfl) (fun q hq => by cases hq; rfl) (by omega) rfl rfl (Nat.le_of_ble_eq_true rfl) (wk_k _ _) (wk_n _ _) (p_table (by omega) hR (by omega) (wk_z hR) rfl (fun r S2 h2 e1 hR2 hF => ?_))
  have hM2 := hM.cp hR2.1 hF
  refine x_aload_n (i := 2) dL_law_2022 rfl rfl rfl ?_
  refine w_arg (j := 1) dL_law_2023 dL_law_2024 dL_law_2025 dL_law_2026 dL_law_2027 iC_1 (by omega) hL ?_
  refine w_arg (j := 2) dL_law_2028 dL_law_2029 dL_law_2030 dL_law_2031 dL_law_2032 iC_2 (by omega) hL ?_
  refine x_callV0 (ci := 12) (b := 110) (As := [_, _]) (d2 := d - 1) dL_law_2033 rfl kL_201 okX12_table (hR2.1.o rfl) (fun q hq => by cases hq; rfl) (by omega) rfl rfl (Nat.le_of_ble_eq_true rfl) (n_table (by omega) hM2 (fun r2 S3 h3 e2 hM3 hG => ?_))
  cases e1.symm.trans e2
  refine x_ic_eq_t (tgt := 2341) dL_law_2036 rfl rfl ?_
  exact K _ _ _ (hR2.md hG) hM3 (wk_le hF hG)
theorem wc_turnCycle (hd : 100 ≤ d) (hL : G.2.2.2.2.2 9 ≤ 3072) (hi : i + 5 < G.2.2.2.2.2 9) (hR : RC b h S) (hM : RM h S) (hm : h.2 < 600000) (K : wK G l d Z k n i h) : xWP G l mL_law d Z (200 + k + kB b) (7000 + n + nB b) 2041 (xL0 i) [] h := by
  refine x_aload_n (i := 1) dL_law_2041 rfl rfl rfl ?_
  refine w_arg (j := 1) dL_law_2042 dL_law_2043 dL_law_2044 dL_law_2045 dL_law_2046 iC_1 (by omega) hL ?_
  refine w_arg (j := 2) dL_law_2047 dL_law_2048 dL_law_2049 dL_law_2050 dL_law_2051 iC_2 (by omega) hL ?_
  refine w_arg (j := 3) dL_law_2052 dL_law_2053 dL_law_2054 dL_law_2055 dL_law_2056 iC_3 (by omega) hL ?_
  refine x_callV (ci := 11) (b := 0) (As := [_, _, _]) (d2 := d - 1) (mc2 := 0) (ms2 := 0) (k2 := k + kB b) (n2 := n + nB b) dL_law_2057 rfl kL_202 okX11_turnCycle (hR.1.o rfl) (fun q hq => by cases hq; rfl) (by omega) rfl rfl (Nat.le_of_ble_eq_true rfl) (by omega) (by omega) (p_turnCycle (by omega) hR (fun r S2 h2 e1 hR2 hF => ?_))
  have hM2 := hM.cp hR2.1 hF
  refine x_aload_n (i := 2) dL_law_2060 rfl rfl rfl ?_
  refine w_arg (j := 1) dL_law_2061 dL_law_2062 dL_law_2063 dL_law_2064 dL_law_2065 iC_1 (by omega) hL ?_
  refine w_arg (j := 2) dL_law_2066 dL_law_2067 dL_law_2068 dL_law_2069 dL_law_2070 iC_2 (by omega) hL ?_
  refine w_arg (j := 3) dL_law_2071 dL_law_2072 dL_law_2073 dL_law_2074 dL_law_2075 iC_3 (by omega) hL ?_
  refine x_callV0 (ci := 12) (b := 110) (As := [_, _, _]) (d2 := d - 1) dL_law_2076 rfl kL_205 okX12_turnCycle (hR2.1.o rfl) (fun q hq => by cases hq; rfl) (by omega) rfl rfl (Nat.le_of_ble_eq_true rfl) (n_turnCycle (by omega) hM2 (fun r2 S3 h3 e2 hM3 hG => ?_))
  cases e1.symm.trans e2
  refine x_ic_eq_t (tgt := 2341) dL_law_2079 rfl rfl ?_
  exact K _ _ _ (hR2.md hG) hM3 (wk_le hF hG)
theorem wc_shared (hd : 100 ≤ d) (hL : G.2.2.2.2.2 9 ≤ 3072) (hi : i + 5 < G.2.2.2.2.2 9) (hR : RC b h S) (hM : RM h S) (hm : h.2 < 600000) (K : wK G l d Z k n i h) : xWP G l mL_law d Z (200 + k + kB b) (7000 + n + nB b) 2084 (xL0 i) [] h := by
  refine x_aload_n (i := 1) dL_law_2084 rfl rfl rfl ?_
  refine w_arg (j := 1) dL_law_2085 dL_law_2086 dL_law_2087 dL_law_2088 dL_law_2089 iC_1 (by omega) hL ?_
  refine w_arg (j := 2) dL_law_2090 dL_law_2091 dL_law_2092 dL_law_2093 dL_law_2094 iC_2 (by omega) hL ?_
  refine x_callV (ci := 11) (b := 0) (As := [_, _]) (d2 := d - 1) (mc2 := 0) (ms2 := 0) (k2 := k + kB b) (n2 := n + nB b) dL_law_2095 rfl kL_206 okX11_shared (hR.1.o rfl) (fun q hq => by cases hq; rfl) (by omega) rfl rfl (Nat.le_of_ble_eq_true rfl) (by omega) (by omega) (p_shared (by omega) hR (fun r S2 h2 e1 hR2 hF => ?_))
  have hM2 := hM.cp hR2.1 hF
  refine x_aload_n (i := 2) dL_law_2098 rfl rfl rfl ?_
  refine w_arg (j := 1) dL_law_2099 dL_law_2100 dL_law_2101 dL_law_2102 dL_law_2103 iC_1 (by omega) hL ?_
  refine w_arg (j := 2) dL_law_2104 dL_law_2105 dL_law_2106 dL_law_2107 dL_law_2108 iC_2 (by omega) hL ?_
  refine x_callV0 (ci := 12) (b := 110) (As := [_, _]) (d2 := d - 1) dL_law_2109 rfl kL_209 okX12_shared (hR2.1.o rfl) (fun q hq => by cases hq; rfl) (by omega) rfl rfl (Nat.le_of_ble_eq_true rfl) (n_shared (by omega) hM2 (fun r2 S3 h3 e2 hM3 hG => ?_))
  cases e1.symm.trans e2
  refine x_ic_eq_t (tgt := 2341) dL_law_2112 rfl rfl ?_
  exact K _ _ _ (hR2.md hG) hM3 (wk_le hF hG)
theorem wc_cycles (hd : 100 ≤ d) (hL : G.2.2.2.2.2 9 ≤ 3072) (hi : i + 5 < G.2.2.2.2.2 9) (hR : RC b h S) (hM : RM h S) (hm : h.2 < 600000) (K : wK G l d Z k n i h) : xWP G l mL_law d Z (200 + k + kB b) (7000 + n + nB b) 2117 (xL0 i) [] h := by
  refine x_aload_n (i := 1) dL_law_2117 rfl rfl rfl ?_
  refine w_arg (j := 1) dL_law_2118 dL_law_2119 dL_law_2120 dL_law_2121 dL_law_2122 iC_1 (by omega) hL ?_
  refine x_callV (ci := 11) (b := 0) (As := [_]) (d2 := d - 1) (mc2 := _) (ms2 := _) (k2 := k + kB (b || _)) (n2 := n + nB (b || _)) dL_law_2123 rfl kL_210 okX11_cycles (hR.1.o rfl) (fun q hq => by cases hq; rfl) (by omega) rfl rfl (Nat.le_of_ble_eq_true rfl) (wk_k _ _) (wk_n _ _) (p_cycles (by omega) hR (by omega) (wk_z hR) (T0_tbl hR.o.1) rfl (fun r S2 h2 e1 hR2 hF => ?_))
  have hM2 := hM.cp hR2.1 hF
  refine x_aload_n (i := 2) dL_law_2126 rfl rfl rfl ?_
  refine w_arg (j := 1) dL_law_2127 dL_law_2128 dL_law_2129 dL_law_2130 dL_law_2131 iC_1 (by omega) hL ?_
  refine x_callV0 (ci := 12) (b := 110) (As := [_]) (d2 := d - 1) dL_law_2132 rfl kL_213 okX12_cycles (hR2.1.o rfl) (fun q hq => by cases hq; rfl) (by omega) rfl rfl (Nat.le_of_ble_eq_true rfl) (n_cycles (by omega) hM2 (fun r2 S3 h3 e2 hM3 hG => ?_))
  cases e1.symm.trans e2
  refine x_ic_eq_t (tgt := 2341) dL_law_2135 rfl rfl ?_
  exact K _ _ _ (hR2.md hG) hM3 (wk_le hF hG)
theorem wc_nucleus (hd : 100 ≤ d) (hL : G.2.2.2.2.2 9 ≤ 3072) (hi : i + 5 < G.2.2.2.2.2 9) (hR : RC b h S) (hM : RM h S) (hm : h.2 < 600000) (K : wK G l d Z k n i h) : xWP G l mL_law d Z (200 + k + kB b) (7000 + n + nB b) 2140 (xL0 i) [] h := by
  refine x_aload_n (i := 1) dL_law_2140 rfl rfl rfl ?_
  refine w_arg (j := 1) dL_law_2141 dL_law_2142 dL_law_2143 dL_law_2144 dL_law_2145 iC_1 (by omega) hL ?_
  refine w_arg (j := 2) dL_law_2146 dL_law_2147 dL_law_2148 dL_law_2149 dL_law_2150 iC_2 (by omega) hL ?_
  refine x_callV (ci := 11) (b := 0) (As := [_, _]) (d2 := d - 1) (mc2 := 1) (ms2 := 6720) (k2 := k + kB b) (n2 := n + nB b) dL_law_2151 rfl kL_214 okX11_nucleus (hR.1.o rfl) (fun q hq => by cases hq; rfl) (by omega) rfl rfl (Nat.le_of_ble_eq_true rfl) (by omega) (by omega) (p_nucleus (by omega) hR (by omega) (fun r S2 h2 e1 hR2 hF => ?_))
  have hM2 := hM.cp hR2.1 hF
  refine x_aload_n (i := 2) dL_law_2154 rfl rfl rfl ?_
  refine w_arg (j := 1) dL_law_2155 dL_law_2156 dL_law_2157 dL_law_2158 dL_law_2159 iC_1 (by omega) hL ?_
  refine w_arg (j := 2) dL_law_2160 dL_law_2161 dL_law_2162 dL_law_2163 dL_law_2164 iC_2 (by omega) hL ?_
  refine x_callV0 (ci := 12) (b := 110) (As := [_, _]) (d2 := d - 1) dL_law_2165 rfl kL_217 okX12_nucleus (hR2.1.o rfl) (fun q hq => by cases hq; rfl) (by omega) rfl rfl (Nat.le_of_ble_eq_true rfl) (n_nucleus (by omega) hM2 (fun r2 S3 h3 e2 hM3 hG => ?_))
  cases e1.symm.trans e2
  refine x_ic_eq_t (tgt := 2341) dL_law_2168 rfl rfl ?_
  exact K _ _ _ (hR2.md hG) hM3 (wk_le hF hG)
theorem wc_laws (hd : 100 ≤ d) (hL : G.2.2.2.2.2 9 ≤ 3072) (hi : i + 5 < G.2.2.2.2.2 9) (hR : RC b h S) (hM : RM h S) (hm : h.2 < 600000) (K : wK G l d Z k n i h) : xWP G l mL_law d Z (200 + k + kB b) (7000 + n + nB b) 2173 (xL0 i) [] h := by
  refine x_aload_n (i := 1) dL_law_2173 rfl rfl rfl ?_
  refine w_arg (j := 1) dL_law_2174 dL_law_2175 dL_law_2176 dL_law_2177 dL_law_2178 iC_1 (by omega) hL ?_
  refine w_arg (j := 2) dL_law_2179 dL_law_2180 dL_law_2181 dL_law_2182 dL_law_2183 iC_2 (by omega) hL ?_
  refine w_arg (j := 3) dL_law_2184 dL_law_2185 dL_law_2186 dL_law_2187 dL_law_2188 iC_3 (by omega) hL ?_
  refine x_callV (ci := 11) (b := 0) (As := [_, _, _]) (d2 := d - 1) (mc2 := 0) (ms2 := 0) (k2 := k + kB b) (n2 := n + nB b) dL_law_2189 rfl kL_218 okX11_laws (hR.1.o rfl) (fun q hq => by cases hq; rfl) (by omega) rfl rfl (Nat.le_of_ble_eq_true rfl) (by omega) (by omega) (p_laws (by omega) hR (fun r S2 h2 e1 hR2 hF => ?_))
  have hM2 := hM.cp hR2.1 hF
  refine x_aload_n (i := 2) dL_law_2192 rfl rfl rfl ?_
  refine w_arg (j := 1) dL_law_2193 dL_law_2194 dL_law_2195 dL_law_2196 dL_law_2197 iC_1 (by omega) hL ?_
  refine w_arg (j := 2) dL_law_2198 dL_law_2199 dL_law_2200 dL_law_2201 dL_law_2202 iC_2 (by omega) hL ?_
  refine w_arg (j := 3) dL_law_2203 dL_law_2204 dL_law_2205 dL_law_2206 dL_law_2207 iC_3 (by omega) hL ?_
  refine x_callV0 (ci := 12) (b := 110) (As := [_, _, _]) (d2 := d - 1) dL_law_2208 rfl kL_221 okX12_laws (hR2.1.o rfl) (fun q hq => by cases hq; rfl) (by omega) rfl rfl (Nat.le_of_ble_eq_true rfl) (n_laws (by omega) hM2 (fun r2 S3 h3 e2 hM3 hG => ?_))
  cases e1.symm.trans e2
  refine x_ic_eq_t (tgt := 2341) dL_law_2211 rfl rfl ?_
  exact K _ _ _ (hR2.md hG) hM3 (wk_le hF hG)
theorem wc_bracketed (hd : 100 ≤ d) (hL : G.2.2.2.2.2 9 ≤ 3072) (hi : i + 5 < G.2.2.2.2.2 9) (hR : RC b h S) (hM : RM h S) (hm : h.2 < 600000) (K : wK G l d Z k n i h) : xWP G l mL_law d Z (200 + k + kB b) (7000 + n + nB b) 2216 (xL0 i) [] h := by
  refine x_aload_n (i := 1) dL_law_2216 rfl rfl rfl ?_
  refine w_arg (j := 1) dL_law_2217 dL_law_2218 dL_law_2219 dL_law_2220 dL_law_2221 iC_1 (by omega) hL ?_
  refine w_arg (j := 2) dL_law_2222 dL_law_2223 dL_law_2224 dL_law_2225 dL_law_2226 iC_2 (by omega) hL ?_
  refine x_callV (ci := 11) (b := 0) (As := [_, _]) (d2 := d - 1) (mc2 := 105) (ms2 := 936) (k2 := k + kB b) (n2 := n + nB b) dL_law_2227 rfl kL_222 okX11_bracketed (hR.1.o rfl) (fun q hq => by cases hq; rfl) (by omega) rfl rfl (Nat.le_of_ble_eq_true rfl) (by omega) (by omega) (p_bracketed (by omega) hR (by omega) (fun r S2 h2 e1 hR2 hF => ?_))
  have hM2 := hM.cp hR2.1 hF
  refine x_aload_n (i := 2) dL_law_2230 rfl rfl rfl ?_
  refine w_arg (j := 1) dL_law_2231 dL_law_2232 dL_law_2233 dL_law_2234 dL_law_2235 iC_1 (by omega) hL ?_
  refine w_arg (j := 2) dL_law_2236 dL_law_2237 dL_law_2238 dL_law_2239 dL_law_2240 iC_2 (by omega) hL ?_
  refine x_callV0 (ci := 12) (b := 110) (As := [_, _]) (d2 := d - 1) dL_law_2241 rfl kL_225 okX12_bracketed (hR2.1.o rfl) (fun q hq => by cases hq; rfl) (by omega) rfl rfl (Nat.le_of_ble_eq_true rfl) (n_bracketed (by omega) hM2 (fun r2 S3 h3 e2 hM3 hG => ?_))
  cases e1.symm.trans e2
  refine x_ic_eq_t (tgt := 2341) dL_law_2244 rfl rfl ?_
  exact K _ _ _ (hR2.md hG) hM3 (wk_le hF hG)
theorem wc_rests (hd : 100 ≤ d) (hL : G.2.2.2.2.2 9 ≤ 3072) (hi : i + 5 < G.2.2.2.2.2 9) (hR : RC b h S) (hM : RM h S) (hm : h.2 < 600000) (K : wK G l d Z k n i h) : xWP G l mL_law d Z (200 + k + kB b) (7000 + n + nB b) 2249 (xL0 i) [] h := by
  refine x_aload_n (i := 1) dL_law_2249 rfl rfl rfl ?_
  refine w_arg (j := 1) dL_law_2250 dL_law_2251 dL_law_2252 dL_law_2253 dL_law_2254 iC_1 (by omega) hL ?_
  refine w_arg (j := 2) dL_law_2255 dL_law_2256 dL_law_2257 dL_law_2258 dL_law_2259 iC_2 (by omega) hL ?_
  refine w_arg (j := 3) dL_law_2260 dL_law_2261 dL_law_2262 dL_law_2263 dL_law_2264 iC_3 (by omega) hL ?_
  refine x_callV (ci := 11) (b := 0) (As := [_, _, _]) (d2 := d - 1) (mc2 := 0) (ms2 := 0) (k2 := k + kB b) (n2 := n + nB b) dL_law_2265 rfl kL_226 okX11_rests (hR.1.o rfl) (fun q hq => by cases hq; rfl) (by omega) rfl rfl (Nat.le_of_ble_eq_true rfl) (by omega) (by omega) (p_rests (by omega) hR (fun r S2 h2 e1 hR2 hF => ?_))
  have hM2 := hM.cp hR2.1 hF
  refine x_aload_n (i := 2) dL_law_2268 rfl rfl rfl ?_
  refine w_arg (j := 1) dL_law_2269 dL_law_2270 dL_law_2271 dL_law_2272 dL_law_2273 iC_1 (by omega) hL ?_
  refine w_arg (j := 2) dL_law_2274 dL_law_2275 dL_law_2276 dL_law_2277 dL_law_2278 iC_2 (by omega) hL ?_
  refine w_arg (j := 3) dL_law_2279 dL_law_2280 dL_law_2281 dL_law_2282 dL_law_2283 iC_3 (by omega) hL ?_
  refine x_callV0 (ci := 12) (b := 110) (As := [_, _, _]) (d2 := d - 1) dL_law_2284 rfl kL_229 okX12_rests (hR2.1.o rfl) (fun q hq => by cases hq; rfl) (by omega) rfl rfl (Nat.le_of_ble_eq_true rfl) (n_rests (by omega) hM2 (fun r2 S3 h3 e2 hM3 hG => ?_))
  cases e1.symm.trans e2
  refine x_ic_eq_t (tgt := 2341) dL_law_2287 rfl rfl ?_
  exact K _ _ _ (hR2.md hG) hM3 (wk_le hF hG)
theorem wc_keep (hd : 100 ≤ d) (hL : G.2.2.2.2.2 9 ≤ 3072) (hi : i + 5 < G.2.2.2.2.2 9) (hR : RC b h S) (hM : RM h S) (hm : h.2 < 600000) (K : wK G l d Z k n i h) : xWP G l mL_law d Z (200 + k + kB b) (7000 + n + nB b) 2292 (xL0 i) [] h := by
  refine x_aload_n (i := 1) dL_law_2292 rfl rfl rfl ?_
  refine x_callV (ci := 11) (b := 0) (As := []) (d2 := d - 1) (mc2 := 0) (ms2 := 0) (k2 := k + kB b) (n2 := n + nB b) dL_law_2293 rfl kL_230 okX11_keep (hR.1.o rfl) (fun q hq => by cases hq; rfl) (by omega) rfl rfl (Nat.le_of_ble_eq_true rfl) (by omega) (by omega) (p_keep (by omega) hR (fun r S2 h2 e1 hR2 hF => ?_))
  have hM2 := hM.cp hR2.1 hF
  refine x_aload_n (i := 2) dL_law_2296 rfl rfl rfl ?_
  refine x_callV0 (ci := 12) (b := 110) (As := []) (d2 := d - 1) dL_law_2297 rfl kL_234 okX12_keep (hR2.1.o rfl) (fun q hq => by cases hq; rfl) (by omega) rfl rfl (Nat.le_of_ble_eq_true rfl) (n_keep (by omega) hM2 (fun r2 S3 h3 e2 hM3 hG => ?_))
  cases e1.symm.trans e2
  refine x_ic_eq_t (tgt := 2341) dL_law_2300 rfl rfl ?_
  exact K _ _ _ (hR2.md hG) hM3 (wk_le hF hG)
theorem wc_restore (hd : 100 ≤ d) (hL : G.2.2.2.2.2 9 ≤ 3072) (hi : i + 5 < G.2.2.2.2.2 9) (hR : RC b h S) (hM : RM h S) (hm : h.2 < 600000) (K : wK G l d Z k n i h) : xWP G l mL_law d Z (200 + k + kB b) (7000 + n + nB b) 2305 (xL0 i) [] h := by
  refine x_aload_n (i := 1) dL_law_2305 rfl rfl rfl ?_
  refine x_callV (ci := 11) (b := 0) (As := []) (d2 := d - 1) (mc2 := 0) (ms2 := 0) (k2 := k + kB b) (n2 := n + nB b) dL_law_2306 rfl kL_235 okX11_restore (hR.1.o rfl) (fun q hq => by cases hq; rfl) (by omega) rfl rfl (Nat.le_of_ble_eq_true rfl) (by omega) (by omega) (p_restore (by omega) hR (fun r S2 h2 e1 hR2 hF => ?_))
  have hM2 := hM.cp hR2.1 hF
  refine x_aload_n (i := 2) dL_law_2309 rfl rfl rfl ?_
  refine x_callV0 (ci := 12) (b := 110) (As := []) (d2 := d - 1) dL_law_2310 rfl kL_238 okX12_restore (hR2.1.o rfl) (fun q hq => by cases hq; rfl) (by omega) rfl rfl (Nat.le_of_ble_eq_true rfl) (n_restore (by omega) hM2 (fun r2 S3 h3 e2 hM3 hG => ?_))
  cases e1.symm.trans e2
  refine x_ic_eq_t (tgt := 2341) dL_law_2313 rfl rfl ?_
  exact K _ _ _ (hR2.md hG) hM3 (wk_le hF hG)
theorem wc_count (hd : 100 ≤ d) (hL : G.2.2.2.2.2 9 ≤ 3072) (hi : i + 5 < G.2.2.2.2.2 9) (hR : RC b h S) (hM : RM h S) (hm : h.2 < 600000) (K : wK G l d Z k n i h) : xWP G l mL_law d Z (200 + k + kB b) (7000 + n + nB b) 2318 (xL0 i) [] h := by
  refine x_aload_n (i := 1) dL_law_2318 rfl rfl rfl ?_
  refine w_arg (j := 1) dL_law_2319 dL_law_2320 dL_law_2321 dL_law_2322 dL_law_2323 iC_1 (by omega) hL ?_
  refine x_callV (ci := 11) (b := 0) (As := [_]) (d2 := d - 1) (mc2 := 1) (ms2 := 6720) (k2 := k + kB b) (n2 := n + nB b) dL_law_2324 rfl kL_239 okX11_count (hR.1.o rfl) (fun q hq => by cases hq; rfl) (by omega) rfl rfl (Nat.le_of_ble_eq_true rfl) (by omega) (by omega) (p_count (by omega) hR (by omega) (fun r S2 h2 e1 hR2 hF => ?_))
  have hM2 := hM.cp hR2.1 hF
  refine x_aload_n (i := 2) dL_law_2327 rfl rfl rfl ?_
  refine w_arg (j := 1) dL_law_2328 dL_law_2329 dL_law_2330 dL_law_2331 dL_law_2332 iC_1 (by omega) hL ?_
  refine x_callV0 (ci := 12) (b := 110) (As := [_]) (d2 := d - 1) dL_law_2333 rfl kL_242 okX12_count (hR2.1.o rfl) (fun q hq => by cases hq; rfl) (by omega) rfl rfl (Nat.le_of_ble_eq_true rfl) (n_count (by omega) hM2 (fun r2 S3 h3 e2 hM3 hG => ?_))
  cases e1.symm.trans e2
  refine x_ic_eq_t (tgt := 2341) dL_law_2336 rfl rfl ?_
  exact K _ _ _ (hR2.md hG) hM3 (wk_le hF hG)
end XC4

