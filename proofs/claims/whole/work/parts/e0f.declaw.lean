/-! THE LAW: its decode rows, 6 -/
theorem dL_law_1983 : decode code 1983 = .ok (.iconst 2, 1) := by decide +kernel
theorem dL_law_1984 : decode code 1984 = .ok (.iadd, 1) := by decide +kernel
theorem dL_law_1985 : decode code 1985 = .ok (.iaload, 1) := by decide +kernel
theorem dL_law_1986 : decode code 1986 = .ok (.invokevirtual 194, 3) := by decide +kernel
theorem dL_law_1989 : decode code 1989 = .ok (.aload_n 2, 1) := by decide +kernel
theorem dL_law_1990 : decode code 1990 = .ok (.aload_n 0, 1) := by decide +kernel
theorem dL_law_1991 : decode code 1991 = .ok (.iload_n 3, 1) := by decide +kernel
theorem dL_law_1992 : decode code 1992 = .ok (.iconst 1, 1) := by decide +kernel
theorem dL_law_1993 : decode code 1993 = .ok (.iadd, 1) := by decide +kernel
theorem dL_law_1994 : decode code 1994 = .ok (.iaload, 1) := by decide +kernel
theorem dL_law_1995 : decode code 1995 = .ok (.aload_n 0, 1) := by decide +kernel
theorem dL_law_1996 : decode code 1996 = .ok (.iload_n 3, 1) := by decide +kernel
theorem dL_law_1997 : decode code 1997 = .ok (.iconst 2, 1) := by decide +kernel
theorem dL_law_1998 : decode code 1998 = .ok (.iadd, 1) := by decide +kernel
theorem dL_law_1999 : decode code 1999 = .ok (.iaload, 1) := by decide +kernel
theorem dL_law_2000 : decode code 2000 = .ok (.invokevirtual 197, 3) := by decide +kernel
theorem dL_law_2003 : decode code 2003 = .ok (.if_icmp .eq 338, 3) := by decide +kernel
theorem dL_law_2006 : decode code 2006 = .ok (.iconst 0, 1) := by decide +kernel
theorem dL_law_2007 : decode code 2007 = .ok (.ireturn, 1) := by decide +kernel
theorem dL_law_2008 : decode code 2008 = .ok (.aload_n 1, 1) := by decide +kernel
theorem dL_law_2009 : decode code 2009 = .ok (.aload_n 0, 1) := by decide +kernel
theorem dL_law_2010 : decode code 2010 = .ok (.iload_n 3, 1) := by decide +kernel
theorem dL_law_2011 : decode code 2011 = .ok (.iconst 1, 1) := by decide +kernel
theorem dL_law_2012 : decode code 2012 = .ok (.iadd, 1) := by decide +kernel
theorem dL_law_2013 : decode code 2013 = .ok (.iaload, 1) := by decide +kernel
theorem dL_law_2014 : decode code 2014 = .ok (.aload_n 0, 1) := by decide +kernel
theorem dL_law_2015 : decode code 2015 = .ok (.iload_n 3, 1) := by decide +kernel
theorem dL_law_2016 : decode code 2016 = .ok (.iconst 2, 1) := by decide +kernel
theorem dL_law_2017 : decode code 2017 = .ok (.iadd, 1) := by decide +kernel
theorem dL_law_2018 : decode code 2018 = .ok (.iaload, 1) := by decide +kernel
theorem dL_law_2019 : decode code 2019 = .ok (.invokevirtual 198, 3) := by decide +kernel
theorem dL_law_2022 : decode code 2022 = .ok (.aload_n 2, 1) := by decide +kernel
theorem dL_law_2023 : decode code 2023 = .ok (.aload_n 0, 1) := by decide +kernel
theorem dL_law_2024 : decode code 2024 = .ok (.iload_n 3, 1) := by decide +kernel
theorem dL_law_2025 : decode code 2025 = .ok (.iconst 1, 1) := by decide +kernel
theorem dL_law_2026 : decode code 2026 = .ok (.iadd, 1) := by decide +kernel
theorem dL_law_2027 : decode code 2027 = .ok (.iaload, 1) := by decide +kernel
theorem dL_law_2028 : decode code 2028 = .ok (.aload_n 0, 1) := by decide +kernel
theorem dL_law_2029 : decode code 2029 = .ok (.iload_n 3, 1) := by decide +kernel
theorem dL_law_2030 : decode code 2030 = .ok (.iconst 2, 1) := by decide +kernel
theorem dL_law_2031 : decode code 2031 = .ok (.iadd, 1) := by decide +kernel
theorem dL_law_2032 : decode code 2032 = .ok (.iaload, 1) := by decide +kernel
theorem dL_law_2033 : decode code 2033 = .ok (.invokevirtual 201, 3) := by decide +kernel
theorem dL_law_2036 : decode code 2036 = .ok (.if_icmp .eq 305, 3) := by decide +kernel
theorem dL_law_2039 : decode code 2039 = .ok (.iconst 0, 1) := by decide +kernel
theorem dL_law_2040 : decode code 2040 = .ok (.ireturn, 1) := by decide +kernel
theorem dL_law_2041 : decode code 2041 = .ok (.aload_n 1, 1) := by decide +kernel
theorem dL_law_2042 : decode code 2042 = .ok (.aload_n 0, 1) := by decide +kernel
theorem dL_law_2043 : decode code 2043 = .ok (.iload_n 3, 1) := by decide +kernel
theorem dL_law_2044 : decode code 2044 = .ok (.iconst 1, 1) := by decide +kernel
theorem dL_law_2045 : decode code 2045 = .ok (.iadd, 1) := by decide +kernel
theorem dL_law_2046 : decode code 2046 = .ok (.iaload, 1) := by decide +kernel
theorem dL_law_2047 : decode code 2047 = .ok (.aload_n 0, 1) := by decide +kernel
theorem dL_law_2048 : decode code 2048 = .ok (.iload_n 3, 1) := by decide +kernel
theorem dL_law_2049 : decode code 2049 = .ok (.iconst 2, 1) := by decide +kernel
theorem dL_law_2050 : decode code 2050 = .ok (.iadd, 1) := by decide +kernel
theorem dL_law_2051 : decode code 2051 = .ok (.iaload, 1) := by decide +kernel
theorem dL_law_2052 : decode code 2052 = .ok (.aload_n 0, 1) := by decide +kernel
theorem dL_law_2053 : decode code 2053 = .ok (.iload_n 3, 1) := by decide +kernel
theorem dL_law_2054 : decode code 2054 = .ok (.iconst 3, 1) := by decide +kernel
theorem dL_law_2055 : decode code 2055 = .ok (.iadd, 1) := by decide +kernel
theorem dL_law_2056 : decode code 2056 = .ok (.iaload, 1) := by decide +kernel
theorem dL_law_2057 : decode code 2057 = .ok (.invokevirtual 202, 3) := by decide +kernel
theorem dL_law_2060 : decode code 2060 = .ok (.aload_n 2, 1) := by decide +kernel
theorem dL_law_2061 : decode code 2061 = .ok (.aload_n 0, 1) := by decide +kernel
theorem dL_law_2062 : decode code 2062 = .ok (.iload_n 3, 1) := by decide +kernel
theorem dL_law_2063 : decode code 2063 = .ok (.iconst 1, 1) := by decide +kernel
theorem dL_law_2064 : decode code 2064 = .ok (.iadd, 1) := by decide +kernel
theorem dL_law_2065 : decode code 2065 = .ok (.iaload, 1) := by decide +kernel
theorem dL_law_2066 : decode code 2066 = .ok (.aload_n 0, 1) := by decide +kernel
theorem dL_law_2067 : decode code 2067 = .ok (.iload_n 3, 1) := by decide +kernel
theorem dL_law_2068 : decode code 2068 = .ok (.iconst 2, 1) := by decide +kernel
theorem dL_law_2069 : decode code 2069 = .ok (.iadd, 1) := by decide +kernel
theorem dL_law_2070 : decode code 2070 = .ok (.iaload, 1) := by decide +kernel
theorem dL_law_2071 : decode code 2071 = .ok (.aload_n 0, 1) := by decide +kernel
theorem dL_law_2072 : decode code 2072 = .ok (.iload_n 3, 1) := by decide +kernel
theorem dL_law_2073 : decode code 2073 = .ok (.iconst 3, 1) := by decide +kernel
theorem dL_law_2074 : decode code 2074 = .ok (.iadd, 1) := by decide +kernel
theorem dL_law_2075 : decode code 2075 = .ok (.iaload, 1) := by decide +kernel
theorem dL_law_2076 : decode code 2076 = .ok (.invokevirtual 205, 3) := by decide +kernel
theorem dL_law_2079 : decode code 2079 = .ok (.if_icmp .eq 262, 3) := by decide +kernel
theorem dL_law_2082 : decode code 2082 = .ok (.iconst 0, 1) := by decide +kernel
theorem dL_law_2083 : decode code 2083 = .ok (.ireturn, 1) := by decide +kernel
theorem dL_law_2084 : decode code 2084 = .ok (.aload_n 1, 1) := by decide +kernel
theorem dL_law_2085 : decode code 2085 = .ok (.aload_n 0, 1) := by decide +kernel
theorem dL_law_2086 : decode code 2086 = .ok (.iload_n 3, 1) := by decide +kernel
theorem dL_law_2087 : decode code 2087 = .ok (.iconst 1, 1) := by decide +kernel
theorem dL_law_2088 : decode code 2088 = .ok (.iadd, 1) := by decide +kernel
theorem dL_law_2089 : decode code 2089 = .ok (.iaload, 1) := by decide +kernel
theorem dL_law_2090 : decode code 2090 = .ok (.aload_n 0, 1) := by decide +kernel
theorem dL_law_2091 : decode code 2091 = .ok (.iload_n 3, 1) := by decide +kernel
theorem dL_law_2092 : decode code 2092 = .ok (.iconst 2, 1) := by decide +kernel
theorem dL_law_2093 : decode code 2093 = .ok (.iadd, 1) := by decide +kernel
theorem dL_law_2094 : decode code 2094 = .ok (.iaload, 1) := by decide +kernel
theorem dL_law_2095 : decode code 2095 = .ok (.invokevirtual 206, 3) := by decide +kernel
theorem dL_law_2098 : decode code 2098 = .ok (.aload_n 2, 1) := by decide +kernel
theorem dL_law_2099 : decode code 2099 = .ok (.aload_n 0, 1) := by decide +kernel
theorem dL_law_2100 : decode code 2100 = .ok (.iload_n 3, 1) := by decide +kernel
theorem dL_law_2101 : decode code 2101 = .ok (.iconst 1, 1) := by decide +kernel
theorem dL_law_2102 : decode code 2102 = .ok (.iadd, 1) := by decide +kernel
theorem dL_law_2103 : decode code 2103 = .ok (.iaload, 1) := by decide +kernel
theorem dL_law_2104 : decode code 2104 = .ok (.aload_n 0, 1) := by decide +kernel
theorem dL_law_2105 : decode code 2105 = .ok (.iload_n 3, 1) := by decide +kernel
theorem dL_law_2106 : decode code 2106 = .ok (.iconst 2, 1) := by decide +kernel
theorem dL_law_2107 : decode code 2107 = .ok (.iadd, 1) := by decide +kernel
theorem dL_law_2108 : decode code 2108 = .ok (.iaload, 1) := by decide +kernel
theorem dL_law_2109 : decode code 2109 = .ok (.invokevirtual 209, 3) := by decide +kernel
theorem dL_law_2112 : decode code 2112 = .ok (.if_icmp .eq 229, 3) := by decide +kernel
theorem dL_law_2115 : decode code 2115 = .ok (.iconst 0, 1) := by decide +kernel
theorem dL_law_2116 : decode code 2116 = .ok (.ireturn, 1) := by decide +kernel
theorem dL_law_2117 : decode code 2117 = .ok (.aload_n 1, 1) := by decide +kernel
theorem dL_law_2118 : decode code 2118 = .ok (.aload_n 0, 1) := by decide +kernel
theorem dL_law_2119 : decode code 2119 = .ok (.iload_n 3, 1) := by decide +kernel
theorem dL_law_2120 : decode code 2120 = .ok (.iconst 1, 1) := by decide +kernel
theorem dL_law_2121 : decode code 2121 = .ok (.iadd, 1) := by decide +kernel
theorem dL_law_2122 : decode code 2122 = .ok (.iaload, 1) := by decide +kernel
theorem dL_law_2123 : decode code 2123 = .ok (.invokevirtual 210, 3) := by decide +kernel
theorem dL_law_2126 : decode code 2126 = .ok (.aload_n 2, 1) := by decide +kernel
theorem dL_law_2127 : decode code 2127 = .ok (.aload_n 0, 1) := by decide +kernel
theorem dL_law_2128 : decode code 2128 = .ok (.iload_n 3, 1) := by decide +kernel
theorem dL_law_2129 : decode code 2129 = .ok (.iconst 1, 1) := by decide +kernel
theorem dL_law_2130 : decode code 2130 = .ok (.iadd, 1) := by decide +kernel
theorem dL_law_2131 : decode code 2131 = .ok (.iaload, 1) := by decide +kernel
theorem dL_law_2132 : decode code 2132 = .ok (.invokevirtual 213, 3) := by decide +kernel
theorem dL_law_2135 : decode code 2135 = .ok (.if_icmp .eq 206, 3) := by decide +kernel
theorem dL_law_2138 : decode code 2138 = .ok (.iconst 0, 1) := by decide +kernel
theorem dL_law_2139 : decode code 2139 = .ok (.ireturn, 1) := by decide +kernel
theorem dL_law_2140 : decode code 2140 = .ok (.aload_n 1, 1) := by decide +kernel
theorem dL_law_2141 : decode code 2141 = .ok (.aload_n 0, 1) := by decide +kernel
theorem dL_law_2142 : decode code 2142 = .ok (.iload_n 3, 1) := by decide +kernel
theorem dL_law_2143 : decode code 2143 = .ok (.iconst 1, 1) := by decide +kernel
theorem dL_law_2144 : decode code 2144 = .ok (.iadd, 1) := by decide +kernel
theorem dL_law_2145 : decode code 2145 = .ok (.iaload, 1) := by decide +kernel
theorem dL_law_2146 : decode code 2146 = .ok (.aload_n 0, 1) := by decide +kernel
theorem dL_law_2147 : decode code 2147 = .ok (.iload_n 3, 1) := by decide +kernel
theorem dL_law_2148 : decode code 2148 = .ok (.iconst 2, 1) := by decide +kernel
theorem dL_law_2149 : decode code 2149 = .ok (.iadd, 1) := by decide +kernel
theorem dL_law_2150 : decode code 2150 = .ok (.iaload, 1) := by decide +kernel
theorem dL_law_2151 : decode code 2151 = .ok (.invokevirtual 214, 3) := by decide +kernel
theorem dL_law_2154 : decode code 2154 = .ok (.aload_n 2, 1) := by decide +kernel
theorem dL_law_2155 : decode code 2155 = .ok (.aload_n 0, 1) := by decide +kernel
theorem dL_law_2156 : decode code 2156 = .ok (.iload_n 3, 1) := by decide +kernel
theorem dL_law_2157 : decode code 2157 = .ok (.iconst 1, 1) := by decide +kernel
theorem dL_law_2158 : decode code 2158 = .ok (.iadd, 1) := by decide +kernel
theorem dL_law_2159 : decode code 2159 = .ok (.iaload, 1) := by decide +kernel
theorem dL_law_2160 : decode code 2160 = .ok (.aload_n 0, 1) := by decide +kernel
theorem dL_law_2161 : decode code 2161 = .ok (.iload_n 3, 1) := by decide +kernel
theorem dL_law_2162 : decode code 2162 = .ok (.iconst 2, 1) := by decide +kernel
theorem dL_law_2163 : decode code 2163 = .ok (.iadd, 1) := by decide +kernel
theorem dL_law_2164 : decode code 2164 = .ok (.iaload, 1) := by decide +kernel
theorem dL_law_2165 : decode code 2165 = .ok (.invokevirtual 217, 3) := by decide +kernel
theorem dL_law_2168 : decode code 2168 = .ok (.if_icmp .eq 173, 3) := by decide +kernel
theorem dL_law_2171 : decode code 2171 = .ok (.iconst 0, 1) := by decide +kernel
theorem dL_law_2172 : decode code 2172 = .ok (.ireturn, 1) := by decide +kernel
theorem dL_law_2173 : decode code 2173 = .ok (.aload_n 1, 1) := by decide +kernel
theorem dL_law_2174 : decode code 2174 = .ok (.aload_n 0, 1) := by decide +kernel
theorem dL_law_2175 : decode code 2175 = .ok (.iload_n 3, 1) := by decide +kernel
theorem dL_law_2176 : decode code 2176 = .ok (.iconst 1, 1) := by decide +kernel
theorem dL_law_2177 : decode code 2177 = .ok (.iadd, 1) := by decide +kernel
theorem dL_law_2178 : decode code 2178 = .ok (.iaload, 1) := by decide +kernel
theorem dL_law_2179 : decode code 2179 = .ok (.aload_n 0, 1) := by decide +kernel
theorem dL_law_2180 : decode code 2180 = .ok (.iload_n 3, 1) := by decide +kernel
theorem dL_law_2181 : decode code 2181 = .ok (.iconst 2, 1) := by decide +kernel
theorem dL_law_2182 : decode code 2182 = .ok (.iadd, 1) := by decide +kernel
theorem dL_law_2183 : decode code 2183 = .ok (.iaload, 1) := by decide +kernel
theorem dL_law_2184 : decode code 2184 = .ok (.aload_n 0, 1) := by decide +kernel
theorem dL_law_2185 : decode code 2185 = .ok (.iload_n 3, 1) := by decide +kernel
theorem dL_law_2186 : decode code 2186 = .ok (.iconst 3, 1) := by decide +kernel
theorem dL_law_2187 : decode code 2187 = .ok (.iadd, 1) := by decide +kernel
theorem dL_law_2188 : decode code 2188 = .ok (.iaload, 1) := by decide +kernel
theorem dL_law_2189 : decode code 2189 = .ok (.invokevirtual 218, 3) := by decide +kernel
theorem dL_law_2192 : decode code 2192 = .ok (.aload_n 2, 1) := by decide +kernel
theorem dL_law_2193 : decode code 2193 = .ok (.aload_n 0, 1) := by decide +kernel
theorem dL_law_2194 : decode code 2194 = .ok (.iload_n 3, 1) := by decide +kernel
theorem dL_law_2195 : decode code 2195 = .ok (.iconst 1, 1) := by decide +kernel
theorem dL_law_2196 : decode code 2196 = .ok (.iadd, 1) := by decide +kernel
theorem dL_law_2197 : decode code 2197 = .ok (.iaload, 1) := by decide +kernel
theorem dL_law_2198 : decode code 2198 = .ok (.aload_n 0, 1) := by decide +kernel
theorem dL_law_2199 : decode code 2199 = .ok (.iload_n 3, 1) := by decide +kernel
theorem dL_law_2200 : decode code 2200 = .ok (.iconst 2, 1) := by decide +kernel
theorem dL_law_2201 : decode code 2201 = .ok (.iadd, 1) := by decide +kernel
theorem dL_law_2202 : decode code 2202 = .ok (.iaload, 1) := by decide +kernel
theorem dL_law_2203 : decode code 2203 = .ok (.aload_n 0, 1) := by decide +kernel
theorem dL_law_2204 : decode code 2204 = .ok (.iload_n 3, 1) := by decide +kernel
theorem dL_law_2205 : decode code 2205 = .ok (.iconst 3, 1) := by decide +kernel
theorem dL_law_2206 : decode code 2206 = .ok (.iadd, 1) := by decide +kernel
theorem dL_law_2207 : decode code 2207 = .ok (.iaload, 1) := by decide +kernel
theorem dL_law_2208 : decode code 2208 = .ok (.invokevirtual 221, 3) := by decide +kernel
theorem dL_law_2211 : decode code 2211 = .ok (.if_icmp .eq 130, 3) := by decide +kernel
theorem dL_law_2214 : decode code 2214 = .ok (.iconst 0, 1) := by decide +kernel
theorem dL_law_2215 : decode code 2215 = .ok (.ireturn, 1) := by decide +kernel
theorem dL_law_2216 : decode code 2216 = .ok (.aload_n 1, 1) := by decide +kernel
theorem dL_law_2217 : decode code 2217 = .ok (.aload_n 0, 1) := by decide +kernel
theorem dL_law_2218 : decode code 2218 = .ok (.iload_n 3, 1) := by decide +kernel
theorem dL_law_2219 : decode code 2219 = .ok (.iconst 1, 1) := by decide +kernel
theorem dL_law_2220 : decode code 2220 = .ok (.iadd, 1) := by decide +kernel
theorem dL_law_2221 : decode code 2221 = .ok (.iaload, 1) := by decide +kernel
theorem dL_law_2222 : decode code 2222 = .ok (.aload_n 0, 1) := by decide +kernel
theorem dL_law_2223 : decode code 2223 = .ok (.iload_n 3, 1) := by decide +kernel
theorem dL_law_2224 : decode code 2224 = .ok (.iconst 2, 1) := by decide +kernel
theorem dL_law_2225 : decode code 2225 = .ok (.iadd, 1) := by decide +kernel
theorem dL_law_2226 : decode code 2226 = .ok (.iaload, 1) := by decide +kernel
theorem dL_law_2227 : decode code 2227 = .ok (.invokevirtual 222, 3) := by decide +kernel
theorem dL_law_2230 : decode code 2230 = .ok (.aload_n 2, 1) := by decide +kernel
theorem dL_law_2231 : decode code 2231 = .ok (.aload_n 0, 1) := by decide +kernel
theorem dL_law_2232 : decode code 2232 = .ok (.iload_n 3, 1) := by decide +kernel
theorem dL_law_2233 : decode code 2233 = .ok (.iconst 1, 1) := by decide +kernel
theorem dL_law_2234 : decode code 2234 = .ok (.iadd, 1) := by decide +kernel
theorem dL_law_2235 : decode code 2235 = .ok (.iaload, 1) := by decide +kernel
theorem dL_law_2236 : decode code 2236 = .ok (.aload_n 0, 1) := by decide +kernel
theorem dL_law_2237 : decode code 2237 = .ok (.iload_n 3, 1) := by decide +kernel
theorem dL_law_2238 : decode code 2238 = .ok (.iconst 2, 1) := by decide +kernel
theorem dL_law_2239 : decode code 2239 = .ok (.iadd, 1) := by decide +kernel
theorem dL_law_2240 : decode code 2240 = .ok (.iaload, 1) := by decide +kernel
theorem dL_law_2241 : decode code 2241 = .ok (.invokevirtual 225, 3) := by decide +kernel
theorem dL_law_2244 : decode code 2244 = .ok (.if_icmp .eq 97, 3) := by decide +kernel
theorem dL_law_2247 : decode code 2247 = .ok (.iconst 0, 1) := by decide +kernel
theorem dL_law_2248 : decode code 2248 = .ok (.ireturn, 1) := by decide +kernel
theorem dL_law_2249 : decode code 2249 = .ok (.aload_n 1, 1) := by decide +kernel
theorem dL_law_2250 : decode code 2250 = .ok (.aload_n 0, 1) := by decide +kernel
theorem dL_law_2251 : decode code 2251 = .ok (.iload_n 3, 1) := by decide +kernel
theorem dL_law_2252 : decode code 2252 = .ok (.iconst 1, 1) := by decide +kernel
theorem dL_law_2253 : decode code 2253 = .ok (.iadd, 1) := by decide +kernel
theorem dL_law_2254 : decode code 2254 = .ok (.iaload, 1) := by decide +kernel
theorem dL_law_2255 : decode code 2255 = .ok (.aload_n 0, 1) := by decide +kernel
theorem dL_law_2256 : decode code 2256 = .ok (.iload_n 3, 1) := by decide +kernel
theorem dL_law_2257 : decode code 2257 = .ok (.iconst 2, 1) := by decide +kernel
theorem dL_law_2258 : decode code 2258 = .ok (.iadd, 1) := by decide +kernel
theorem dL_law_2259 : decode code 2259 = .ok (.iaload, 1) := by decide +kernel
theorem dL_law_2260 : decode code 2260 = .ok (.aload_n 0, 1) := by decide +kernel
theorem dL_law_2261 : decode code 2261 = .ok (.iload_n 3, 1) := by decide +kernel
theorem dL_law_2262 : decode code 2262 = .ok (.iconst 3, 1) := by decide +kernel
theorem dL_law_2263 : decode code 2263 = .ok (.iadd, 1) := by decide +kernel
theorem dL_law_2264 : decode code 2264 = .ok (.iaload, 1) := by decide +kernel
theorem dL_law_2265 : decode code 2265 = .ok (.invokevirtual 226, 3) := by decide +kernel
theorem dL_law_2268 : decode code 2268 = .ok (.aload_n 2, 1) := by decide +kernel
theorem dL_law_2269 : decode code 2269 = .ok (.aload_n 0, 1) := by decide +kernel
theorem dL_law_2270 : decode code 2270 = .ok (.iload_n 3, 1) := by decide +kernel
theorem dL_law_2271 : decode code 2271 = .ok (.iconst 1, 1) := by decide +kernel
theorem dL_law_2272 : decode code 2272 = .ok (.iadd, 1) := by decide +kernel
theorem dL_law_2273 : decode code 2273 = .ok (.iaload, 1) := by decide +kernel
theorem dL_law_2274 : decode code 2274 = .ok (.aload_n 0, 1) := by decide +kernel
theorem dL_law_2275 : decode code 2275 = .ok (.iload_n 3, 1) := by decide +kernel
theorem dL_law_2276 : decode code 2276 = .ok (.iconst 2, 1) := by decide +kernel
theorem dL_law_2277 : decode code 2277 = .ok (.iadd, 1) := by decide +kernel
theorem dL_law_2278 : decode code 2278 = .ok (.iaload, 1) := by decide +kernel
theorem dL_law_2279 : decode code 2279 = .ok (.aload_n 0, 1) := by decide +kernel
theorem dL_law_2280 : decode code 2280 = .ok (.iload_n 3, 1) := by decide +kernel
theorem dL_law_2281 : decode code 2281 = .ok (.iconst 3, 1) := by decide +kernel
theorem dL_law_2282 : decode code 2282 = .ok (.iadd, 1) := by decide +kernel
theorem dL_law_2283 : decode code 2283 = .ok (.iaload, 1) := by decide +kernel
theorem dL_law_2284 : decode code 2284 = .ok (.invokevirtual 229, 3) := by decide +kernel
theorem dL_law_2287 : decode code 2287 = .ok (.if_icmp .eq 54, 3) := by decide +kernel
theorem dL_law_2290 : decode code 2290 = .ok (.iconst 0, 1) := by decide +kernel
theorem dL_law_2291 : decode code 2291 = .ok (.ireturn, 1) := by decide +kernel
theorem dL_law_2292 : decode code 2292 = .ok (.aload_n 1, 1) := by decide +kernel
theorem dL_law_2293 : decode code 2293 = .ok (.invokevirtual 230, 3) := by decide +kernel
theorem dL_law_2296 : decode code 2296 = .ok (.aload_n 2, 1) := by decide +kernel
theorem dL_law_2297 : decode code 2297 = .ok (.invokevirtual 234, 3) := by decide +kernel
theorem dL_law_2300 : decode code 2300 = .ok (.if_icmp .eq 41, 3) := by decide +kernel
theorem dL_law_2303 : decode code 2303 = .ok (.iconst 0, 1) := by decide +kernel
theorem dL_law_2304 : decode code 2304 = .ok (.ireturn, 1) := by decide +kernel
theorem dL_law_2305 : decode code 2305 = .ok (.aload_n 1, 1) := by decide +kernel
theorem dL_law_2306 : decode code 2306 = .ok (.invokevirtual 235, 3) := by decide +kernel
theorem dL_law_2309 : decode code 2309 = .ok (.aload_n 2, 1) := by decide +kernel
theorem dL_law_2310 : decode code 2310 = .ok (.invokevirtual 238, 3) := by decide +kernel
theorem dL_law_2313 : decode code 2313 = .ok (.if_icmp .eq 28, 3) := by decide +kernel
theorem dL_law_2316 : decode code 2316 = .ok (.iconst 0, 1) := by decide +kernel
theorem dL_law_2317 : decode code 2317 = .ok (.ireturn, 1) := by decide +kernel
theorem dL_law_2318 : decode code 2318 = .ok (.aload_n 1, 1) := by decide +kernel
theorem dL_law_2319 : decode code 2319 = .ok (.aload_n 0, 1) := by decide +kernel
theorem dL_law_2320 : decode code 2320 = .ok (.iload_n 3, 1) := by decide +kernel
theorem dL_law_2321 : decode code 2321 = .ok (.iconst 1, 1) := by decide +kernel
theorem dL_law_2322 : decode code 2322 = .ok (.iadd, 1) := by decide +kernel
theorem dL_law_2323 : decode code 2323 = .ok (.iaload, 1) := by decide +kernel
theorem dL_law_2324 : decode code 2324 = .ok (.invokevirtual 239, 3) := by decide +kernel
theorem dL_law_2327 : decode code 2327 = .ok (.aload_n 2, 1) := by decide +kernel
theorem dL_law_2328 : decode code 2328 = .ok (.aload_n 0, 1) := by decide +kernel
theorem dL_law_2329 : decode code 2329 = .ok (.iload_n 3, 1) := by decide +kernel
theorem dL_law_2330 : decode code 2330 = .ok (.iconst 1, 1) := by decide +kernel
theorem dL_law_2331 : decode code 2331 = .ok (.iadd, 1) := by decide +kernel
theorem dL_law_2332 : decode code 2332 = .ok (.iaload, 1) := by decide +kernel
theorem dL_law_2333 : decode code 2333 = .ok (.invokevirtual 242, 3) := by decide +kernel
theorem dL_law_2336 : decode code 2336 = .ok (.if_icmp .eq 5, 3) := by decide +kernel
theorem dL_law_2339 : decode code 2339 = .ok (.iconst 0, 1) := by decide +kernel
theorem dL_law_2340 : decode code 2340 = .ok (.ireturn, 1) := by decide +kernel
theorem dL_law_2341 : decode code 2341 = .ok (.iinc 3 6, 3) := by decide +kernel
theorem dL_law_2344 : decode code 2344 = .ok (.goto (-2326), 3) := by decide +kernel
theorem dL_law_2347 : decode code 2347 = .ok (.iconst 1, 1) := by decide +kernel
theorem dL_law_2348 : decode code 2348 = .ok (.ireturn, 1) := by decide +kernel
