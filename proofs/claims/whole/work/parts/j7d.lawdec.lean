theorem dL_law__1995 : decode cL_law_ 1995 = .ok (.aload_n 0, 1) := by decide +kernel
theorem dL_law__1996 : decode cL_law_ 1996 = .ok (.iload 4, 2) := by decide +kernel
theorem dL_law__1998 : decode cL_law_ 1998 = .ok (.iconst 1, 1) := by decide +kernel
theorem dL_law__1999 : decode cL_law_ 1999 = .ok (.iadd, 1) := by decide +kernel
theorem dL_law__2000 : decode cL_law_ 2000 = .ok (.iaload, 1) := by decide +kernel
theorem dL_law__2001 : decode cL_law_ 2001 = .ok (.aload_n 3, 1) := by decide +kernel
theorem dL_law__2002 : decode cL_law_ 2002 = .ok (.invokestatic 221, 3) := by decide +kernel
theorem dL_law__2005 : decode cL_law_ 2005 = .ok (.istore 5, 2) := by decide +kernel
theorem dL_law__2007 : decode cL_law_ 2007 = .ok (.aload_n 2, 1) := by decide +kernel
theorem dL_law__2008 : decode cL_law_ 2008 = .ok (.aload_n 0, 1) := by decide +kernel
theorem dL_law__2009 : decode cL_law_ 2009 = .ok (.iload 4, 2) := by decide +kernel
theorem dL_law__2011 : decode cL_law_ 2011 = .ok (.iconst 1, 1) := by decide +kernel
theorem dL_law__2012 : decode cL_law_ 2012 = .ok (.iadd, 1) := by decide +kernel
theorem dL_law__2013 : decode cL_law_ 2013 = .ok (.iaload, 1) := by decide +kernel
theorem dL_law__2014 : decode cL_law_ 2014 = .ok (.invokevirtual 223, 3) := by decide +kernel
theorem dL_law__2017 : decode cL_law_ 2017 = .ok (.istore 6, 2) := by decide +kernel
theorem dL_law__2019 : decode cL_law_ 2019 = .ok (.aload_n 2, 1) := by decide +kernel
theorem dL_law__2020 : decode cL_law_ 2020 = .ok (.invokevirtual 128, 3) := by decide +kernel
theorem dL_law__2023 : decode cL_law_ 2023 = .ok (.iload 5, 2) := by decide +kernel
theorem dL_law__2025 : decode cL_law_ 2025 = .ok (.if_icmp .eq 5, 3) := by decide +kernel
theorem dL_law__2028 : decode cL_law_ 2028 = .ok (.iconst 0, 1) := by decide +kernel
theorem dL_law__2029 : decode cL_law_ 2029 = .ok (.ireturn, 1) := by decide +kernel
theorem dL_law__2030 : decode cL_law_ 2030 = .ok (.iload 5, 2) := by decide +kernel
theorem dL_law__2032 : decode cL_law_ 2032 = .ok (.ifCond .ne 15, 3) := by decide +kernel
theorem dL_law__2035 : decode cL_law_ 2035 = .ok (.aload_n 3, 1) := by decide +kernel
theorem dL_law__2036 : decode cL_law_ 2036 = .ok (.iconst 0, 1) := by decide +kernel
theorem dL_law__2037 : decode cL_law_ 2037 = .ok (.laload, 1) := by decide +kernel
theorem dL_law__2038 : decode cL_law_ 2038 = .ok (.iload 6, 2) := by decide +kernel
theorem dL_law__2040 : decode cL_law_ 2040 = .ok (.i2l, 1) := by decide +kernel
theorem dL_law__2041 : decode cL_law_ 2041 = .ok (.lcmp, 1) := by decide +kernel
theorem dL_law__2042 : decode cL_law_ 2042 = .ok (.ifCond .eq 5, 3) := by decide +kernel
theorem dL_law__2045 : decode cL_law_ 2045 = .ok (.iconst 0, 1) := by decide +kernel
theorem dL_law__2046 : decode cL_law_ 2046 = .ok (.ireturn, 1) := by decide +kernel
theorem dL_law__2047 : decode cL_law_ 2047 = .ok (.goto 538, 3) := by decide +kernel
theorem dL_law__2050 : decode cL_law_ 2050 = .ok (.aload_n 1, 1) := by decide +kernel
theorem dL_law__2051 : decode cL_law_ 2051 = .ok (.invokevirtual 224, 3) := by decide +kernel
theorem dL_law__2054 : decode cL_law_ 2054 = .ok (.aload_n 2, 1) := by decide +kernel
theorem dL_law__2055 : decode cL_law_ 2055 = .ok (.invokevirtual 227, 3) := by decide +kernel
theorem dL_law__2058 : decode cL_law_ 2058 = .ok (.if_icmp .eq 527, 3) := by decide +kernel
theorem dL_law__2061 : decode cL_law_ 2061 = .ok (.iconst 0, 1) := by decide +kernel
theorem dL_law__2062 : decode cL_law_ 2062 = .ok (.ireturn, 1) := by decide +kernel
theorem dL_law__2063 : decode cL_law_ 2063 = .ok (.aload_n 1, 1) := by decide +kernel
theorem dL_law__2064 : decode cL_law_ 2064 = .ok (.aload_n 0, 1) := by decide +kernel
theorem dL_law__2065 : decode cL_law_ 2065 = .ok (.iload 4, 2) := by decide +kernel
theorem dL_law__2067 : decode cL_law_ 2067 = .ok (.iconst 1, 1) := by decide +kernel
theorem dL_law__2068 : decode cL_law_ 2068 = .ok (.iadd, 1) := by decide +kernel
theorem dL_law__2069 : decode cL_law_ 2069 = .ok (.iaload, 1) := by decide +kernel
theorem dL_law__2070 : decode cL_law_ 2070 = .ok (.aload_n 0, 1) := by decide +kernel
theorem dL_law__2071 : decode cL_law_ 2071 = .ok (.iload 4, 2) := by decide +kernel
theorem dL_law__2073 : decode cL_law_ 2073 = .ok (.iconst 2, 1) := by decide +kernel
theorem dL_law__2074 : decode cL_law_ 2074 = .ok (.iadd, 1) := by decide +kernel
theorem dL_law__2075 : decode cL_law_ 2075 = .ok (.iaload, 1) := by decide +kernel
theorem dL_law__2076 : decode cL_law_ 2076 = .ok (.aload_n 3, 1) := by decide +kernel
theorem dL_law__2077 : decode cL_law_ 2077 = .ok (.invokestatic 228, 3) := by decide +kernel
theorem dL_law__2080 : decode cL_law_ 2080 = .ok (.istore 5, 2) := by decide +kernel
theorem dL_law__2082 : decode cL_law_ 2082 = .ok (.aload_n 2, 1) := by decide +kernel
theorem dL_law__2083 : decode cL_law_ 2083 = .ok (.aload_n 0, 1) := by decide +kernel
theorem dL_law__2084 : decode cL_law_ 2084 = .ok (.iload 4, 2) := by decide +kernel
theorem dL_law__2086 : decode cL_law_ 2086 = .ok (.iconst 1, 1) := by decide +kernel
theorem dL_law__2087 : decode cL_law_ 2087 = .ok (.iadd, 1) := by decide +kernel
theorem dL_law__2088 : decode cL_law_ 2088 = .ok (.iaload, 1) := by decide +kernel
theorem dL_law__2089 : decode cL_law_ 2089 = .ok (.aload_n 0, 1) := by decide +kernel
theorem dL_law__2090 : decode cL_law_ 2090 = .ok (.iload 4, 2) := by decide +kernel
theorem dL_law__2092 : decode cL_law_ 2092 = .ok (.iconst 2, 1) := by decide +kernel
theorem dL_law__2093 : decode cL_law_ 2093 = .ok (.iadd, 1) := by decide +kernel
theorem dL_law__2094 : decode cL_law_ 2094 = .ok (.iaload, 1) := by decide +kernel
theorem dL_law__2095 : decode cL_law_ 2095 = .ok (.invokevirtual 230, 3) := by decide +kernel
theorem dL_law__2098 : decode cL_law_ 2098 = .ok (.istore 6, 2) := by decide +kernel
theorem dL_law__2100 : decode cL_law_ 2100 = .ok (.aload_n 2, 1) := by decide +kernel
theorem dL_law__2101 : decode cL_law_ 2101 = .ok (.invokevirtual 128, 3) := by decide +kernel
theorem dL_law__2104 : decode cL_law_ 2104 = .ok (.iload 5, 2) := by decide +kernel
theorem dL_law__2106 : decode cL_law_ 2106 = .ok (.if_icmp .eq 5, 3) := by decide +kernel
theorem dL_law__2109 : decode cL_law_ 2109 = .ok (.iconst 0, 1) := by decide +kernel
theorem dL_law__2110 : decode cL_law_ 2110 = .ok (.ireturn, 1) := by decide +kernel
theorem dL_law__2111 : decode cL_law_ 2111 = .ok (.iload 5, 2) := by decide +kernel
theorem dL_law__2113 : decode cL_law_ 2113 = .ok (.ifCond .ne 15, 3) := by decide +kernel
theorem dL_law__2116 : decode cL_law_ 2116 = .ok (.aload_n 3, 1) := by decide +kernel
theorem dL_law__2117 : decode cL_law_ 2117 = .ok (.iconst 0, 1) := by decide +kernel
theorem dL_law__2118 : decode cL_law_ 2118 = .ok (.laload, 1) := by decide +kernel
theorem dL_law__2119 : decode cL_law_ 2119 = .ok (.iload 6, 2) := by decide +kernel
theorem dL_law__2121 : decode cL_law_ 2121 = .ok (.i2l, 1) := by decide +kernel
theorem dL_law__2122 : decode cL_law_ 2122 = .ok (.lcmp, 1) := by decide +kernel
theorem dL_law__2123 : decode cL_law_ 2123 = .ok (.ifCond .eq 5, 3) := by decide +kernel
theorem dL_law__2126 : decode cL_law_ 2126 = .ok (.iconst 0, 1) := by decide +kernel
theorem dL_law__2127 : decode cL_law_ 2127 = .ok (.ireturn, 1) := by decide +kernel
theorem dL_law__2128 : decode cL_law_ 2128 = .ok (.goto 457, 3) := by decide +kernel
theorem dL_law__2131 : decode cL_law_ 2131 = .ok (.aload_n 1, 1) := by decide +kernel
theorem dL_law__2132 : decode cL_law_ 2132 = .ok (.aload_n 0, 1) := by decide +kernel
theorem dL_law__2133 : decode cL_law_ 2133 = .ok (.iload 4, 2) := by decide +kernel
theorem dL_law__2135 : decode cL_law_ 2135 = .ok (.iconst 1, 1) := by decide +kernel
theorem dL_law__2136 : decode cL_law_ 2136 = .ok (.iadd, 1) := by decide +kernel
theorem dL_law__2137 : decode cL_law_ 2137 = .ok (.iaload, 1) := by decide +kernel
theorem dL_law__2138 : decode cL_law_ 2138 = .ok (.aload_n 3, 1) := by decide +kernel
theorem dL_law__2139 : decode cL_law_ 2139 = .ok (.invokestatic 231, 3) := by decide +kernel
theorem dL_law__2142 : decode cL_law_ 2142 = .ok (.istore 5, 2) := by decide +kernel
theorem dL_law__2144 : decode cL_law_ 2144 = .ok (.aload_n 2, 1) := by decide +kernel
theorem dL_law__2145 : decode cL_law_ 2145 = .ok (.aload_n 0, 1) := by decide +kernel
theorem dL_law__2146 : decode cL_law_ 2146 = .ok (.iload 4, 2) := by decide +kernel
theorem dL_law__2148 : decode cL_law_ 2148 = .ok (.iconst 1, 1) := by decide +kernel
theorem dL_law__2149 : decode cL_law_ 2149 = .ok (.iadd, 1) := by decide +kernel
theorem dL_law__2150 : decode cL_law_ 2150 = .ok (.iaload, 1) := by decide +kernel
theorem dL_law__2151 : decode cL_law_ 2151 = .ok (.invokevirtual 233, 3) := by decide +kernel
theorem dL_law__2154 : decode cL_law_ 2154 = .ok (.istore 6, 2) := by decide +kernel
theorem dL_law__2156 : decode cL_law_ 2156 = .ok (.aload_n 2, 1) := by decide +kernel
theorem dL_law__2157 : decode cL_law_ 2157 = .ok (.invokevirtual 128, 3) := by decide +kernel
theorem dL_law__2160 : decode cL_law_ 2160 = .ok (.iload 5, 2) := by decide +kernel
theorem dL_law__2162 : decode cL_law_ 2162 = .ok (.if_icmp .eq 5, 3) := by decide +kernel
theorem dL_law__2165 : decode cL_law_ 2165 = .ok (.iconst 0, 1) := by decide +kernel
theorem dL_law__2166 : decode cL_law_ 2166 = .ok (.ireturn, 1) := by decide +kernel
theorem dL_law__2167 : decode cL_law_ 2167 = .ok (.iload 5, 2) := by decide +kernel
theorem dL_law__2169 : decode cL_law_ 2169 = .ok (.ifCond .ne 15, 3) := by decide +kernel
theorem dL_law__2172 : decode cL_law_ 2172 = .ok (.aload_n 3, 1) := by decide +kernel
theorem dL_law__2173 : decode cL_law_ 2173 = .ok (.iconst 0, 1) := by decide +kernel
theorem dL_law__2174 : decode cL_law_ 2174 = .ok (.laload, 1) := by decide +kernel
theorem dL_law__2175 : decode cL_law_ 2175 = .ok (.iload 6, 2) := by decide +kernel
theorem dL_law__2177 : decode cL_law_ 2177 = .ok (.i2l, 1) := by decide +kernel
theorem dL_law__2178 : decode cL_law_ 2178 = .ok (.lcmp, 1) := by decide +kernel
theorem dL_law__2179 : decode cL_law_ 2179 = .ok (.ifCond .eq 5, 3) := by decide +kernel
theorem dL_law__2182 : decode cL_law_ 2182 = .ok (.iconst 0, 1) := by decide +kernel
theorem dL_law__2183 : decode cL_law_ 2183 = .ok (.ireturn, 1) := by decide +kernel
theorem dL_law__2184 : decode cL_law_ 2184 = .ok (.goto 401, 3) := by decide +kernel
theorem dL_law__2187 : decode cL_law_ 2187 = .ok (.aload_n 1, 1) := by decide +kernel
theorem dL_law__2188 : decode cL_law_ 2188 = .ok (.aload_n 0, 1) := by decide +kernel
theorem dL_law__2189 : decode cL_law_ 2189 = .ok (.iload 4, 2) := by decide +kernel
theorem dL_law__2191 : decode cL_law_ 2191 = .ok (.iconst 1, 1) := by decide +kernel
theorem dL_law__2192 : decode cL_law_ 2192 = .ok (.iadd, 1) := by decide +kernel
theorem dL_law__2193 : decode cL_law_ 2193 = .ok (.iaload, 1) := by decide +kernel
theorem dL_law__2194 : decode cL_law_ 2194 = .ok (.aload_n 3, 1) := by decide +kernel
theorem dL_law__2195 : decode cL_law_ 2195 = .ok (.invokestatic 234, 3) := by decide +kernel
theorem dL_law__2198 : decode cL_law_ 2198 = .ok (.istore 5, 2) := by decide +kernel
theorem dL_law__2200 : decode cL_law_ 2200 = .ok (.aload_n 2, 1) := by decide +kernel
theorem dL_law__2201 : decode cL_law_ 2201 = .ok (.aload_n 0, 1) := by decide +kernel
theorem dL_law__2202 : decode cL_law_ 2202 = .ok (.iload 4, 2) := by decide +kernel
theorem dL_law__2204 : decode cL_law_ 2204 = .ok (.iconst 1, 1) := by decide +kernel
theorem dL_law__2205 : decode cL_law_ 2205 = .ok (.iadd, 1) := by decide +kernel
theorem dL_law__2206 : decode cL_law_ 2206 = .ok (.iaload, 1) := by decide +kernel
theorem dL_law__2207 : decode cL_law_ 2207 = .ok (.invokevirtual 236, 3) := by decide +kernel
theorem dL_law__2210 : decode cL_law_ 2210 = .ok (.istore 6, 2) := by decide +kernel
theorem dL_law__2212 : decode cL_law_ 2212 = .ok (.aload_n 2, 1) := by decide +kernel
theorem dL_law__2213 : decode cL_law_ 2213 = .ok (.invokevirtual 128, 3) := by decide +kernel
theorem dL_law__2216 : decode cL_law_ 2216 = .ok (.iload 5, 2) := by decide +kernel
theorem dL_law__2218 : decode cL_law_ 2218 = .ok (.if_icmp .eq 5, 3) := by decide +kernel
theorem dL_law__2221 : decode cL_law_ 2221 = .ok (.iconst 0, 1) := by decide +kernel
theorem dL_law__2222 : decode cL_law_ 2222 = .ok (.ireturn, 1) := by decide +kernel
theorem dL_law__2223 : decode cL_law_ 2223 = .ok (.iload 5, 2) := by decide +kernel
theorem dL_law__2225 : decode cL_law_ 2225 = .ok (.ifCond .ne 15, 3) := by decide +kernel
theorem dL_law__2228 : decode cL_law_ 2228 = .ok (.aload_n 3, 1) := by decide +kernel
theorem dL_law__2229 : decode cL_law_ 2229 = .ok (.iconst 0, 1) := by decide +kernel
theorem dL_law__2230 : decode cL_law_ 2230 = .ok (.laload, 1) := by decide +kernel
theorem dL_law__2231 : decode cL_law_ 2231 = .ok (.iload 6, 2) := by decide +kernel
theorem dL_law__2233 : decode cL_law_ 2233 = .ok (.i2l, 1) := by decide +kernel
theorem dL_law__2234 : decode cL_law_ 2234 = .ok (.lcmp, 1) := by decide +kernel
theorem dL_law__2235 : decode cL_law_ 2235 = .ok (.ifCond .eq 5, 3) := by decide +kernel
theorem dL_law__2238 : decode cL_law_ 2238 = .ok (.iconst 0, 1) := by decide +kernel
theorem dL_law__2239 : decode cL_law_ 2239 = .ok (.ireturn, 1) := by decide +kernel
theorem dL_law__2240 : decode cL_law_ 2240 = .ok (.goto 345, 3) := by decide +kernel
theorem dL_law__2243 : decode cL_law_ 2243 = .ok (.aload_n 1, 1) := by decide +kernel
theorem dL_law__2244 : decode cL_law_ 2244 = .ok (.aload_n 0, 1) := by decide +kernel
theorem dL_law__2245 : decode cL_law_ 2245 = .ok (.iload 4, 2) := by decide +kernel
theorem dL_law__2247 : decode cL_law_ 2247 = .ok (.iconst 1, 1) := by decide +kernel
theorem dL_law__2248 : decode cL_law_ 2248 = .ok (.iadd, 1) := by decide +kernel
theorem dL_law__2249 : decode cL_law_ 2249 = .ok (.iaload, 1) := by decide +kernel
theorem dL_law__2250 : decode cL_law_ 2250 = .ok (.aload_n 3, 1) := by decide +kernel
theorem dL_law__2251 : decode cL_law_ 2251 = .ok (.invokestatic 237, 3) := by decide +kernel
theorem dL_law__2254 : decode cL_law_ 2254 = .ok (.istore 5, 2) := by decide +kernel
theorem dL_law__2256 : decode cL_law_ 2256 = .ok (.aload_n 2, 1) := by decide +kernel
theorem dL_law__2257 : decode cL_law_ 2257 = .ok (.aload_n 0, 1) := by decide +kernel
theorem dL_law__2258 : decode cL_law_ 2258 = .ok (.iload 4, 2) := by decide +kernel
theorem dL_law__2260 : decode cL_law_ 2260 = .ok (.iconst 1, 1) := by decide +kernel
theorem dL_law__2261 : decode cL_law_ 2261 = .ok (.iadd, 1) := by decide +kernel
theorem dL_law__2262 : decode cL_law_ 2262 = .ok (.iaload, 1) := by decide +kernel
theorem dL_law__2263 : decode cL_law_ 2263 = .ok (.invokevirtual 239, 3) := by decide +kernel
theorem dL_law__2266 : decode cL_law_ 2266 = .ok (.istore 6, 2) := by decide +kernel
theorem dL_law__2268 : decode cL_law_ 2268 = .ok (.aload_n 2, 1) := by decide +kernel
theorem dL_law__2269 : decode cL_law_ 2269 = .ok (.invokevirtual 128, 3) := by decide +kernel
theorem dL_law__2272 : decode cL_law_ 2272 = .ok (.iload 5, 2) := by decide +kernel
theorem dL_law__2274 : decode cL_law_ 2274 = .ok (.if_icmp .eq 5, 3) := by decide +kernel
theorem dL_law__2277 : decode cL_law_ 2277 = .ok (.iconst 0, 1) := by decide +kernel
theorem dL_law__2278 : decode cL_law_ 2278 = .ok (.ireturn, 1) := by decide +kernel
theorem dL_law__2279 : decode cL_law_ 2279 = .ok (.iload 5, 2) := by decide +kernel
theorem dL_law__2281 : decode cL_law_ 2281 = .ok (.ifCond .ne 15, 3) := by decide +kernel
theorem dL_law__2284 : decode cL_law_ 2284 = .ok (.aload_n 3, 1) := by decide +kernel
theorem dL_law__2285 : decode cL_law_ 2285 = .ok (.iconst 0, 1) := by decide +kernel
theorem dL_law__2286 : decode cL_law_ 2286 = .ok (.laload, 1) := by decide +kernel
theorem dL_law__2287 : decode cL_law_ 2287 = .ok (.iload 6, 2) := by decide +kernel
theorem dL_law__2289 : decode cL_law_ 2289 = .ok (.i2l, 1) := by decide +kernel
theorem dL_law__2290 : decode cL_law_ 2290 = .ok (.lcmp, 1) := by decide +kernel
theorem dL_law__2291 : decode cL_law_ 2291 = .ok (.ifCond .eq 5, 3) := by decide +kernel
theorem dL_law__2294 : decode cL_law_ 2294 = .ok (.iconst 0, 1) := by decide +kernel
theorem dL_law__2295 : decode cL_law_ 2295 = .ok (.ireturn, 1) := by decide +kernel
theorem dL_law__2296 : decode cL_law_ 2296 = .ok (.goto 289, 3) := by decide +kernel
theorem dL_law__2299 : decode cL_law_ 2299 = .ok (.aload_n 1, 1) := by decide +kernel
theorem dL_law__2300 : decode cL_law_ 2300 = .ok (.aload_n 0, 1) := by decide +kernel
theorem dL_law__2301 : decode cL_law_ 2301 = .ok (.iload 4, 2) := by decide +kernel
theorem dL_law__2303 : decode cL_law_ 2303 = .ok (.iconst 1, 1) := by decide +kernel
theorem dL_law__2304 : decode cL_law_ 2304 = .ok (.iadd, 1) := by decide +kernel
theorem dL_law__2305 : decode cL_law_ 2305 = .ok (.iaload, 1) := by decide +kernel
theorem dL_law__2306 : decode cL_law_ 2306 = .ok (.aload_n 0, 1) := by decide +kernel
theorem dL_law__2307 : decode cL_law_ 2307 = .ok (.iload 4, 2) := by decide +kernel
theorem dL_law__2309 : decode cL_law_ 2309 = .ok (.iconst 2, 1) := by decide +kernel
theorem dL_law__2310 : decode cL_law_ 2310 = .ok (.iadd, 1) := by decide +kernel
theorem dL_law__2311 : decode cL_law_ 2311 = .ok (.iaload, 1) := by decide +kernel
theorem dL_law__2312 : decode cL_law_ 2312 = .ok (.aload_n 0, 1) := by decide +kernel
theorem dL_law__2313 : decode cL_law_ 2313 = .ok (.iload 4, 2) := by decide +kernel
theorem dL_law__2315 : decode cL_law_ 2315 = .ok (.iconst 3, 1) := by decide +kernel
theorem dL_law__2316 : decode cL_law_ 2316 = .ok (.iadd, 1) := by decide +kernel
theorem dL_law__2317 : decode cL_law_ 2317 = .ok (.iaload, 1) := by decide +kernel
theorem dL_law__2318 : decode cL_law_ 2318 = .ok (.aload_n 0, 1) := by decide +kernel
theorem dL_law__2319 : decode cL_law_ 2319 = .ok (.iload 4, 2) := by decide +kernel
theorem dL_law__2321 : decode cL_law_ 2321 = .ok (.iconst 4, 1) := by decide +kernel
theorem dL_law__2322 : decode cL_law_ 2322 = .ok (.iadd, 1) := by decide +kernel
theorem dL_law__2323 : decode cL_law_ 2323 = .ok (.iaload, 1) := by decide +kernel
theorem dL_law__2324 : decode cL_law_ 2324 = .ok (.aload_n 3, 1) := by decide +kernel
theorem dL_law__2325 : decode cL_law_ 2325 = .ok (.invokestatic 240, 3) := by decide +kernel
theorem dL_law__2328 : decode cL_law_ 2328 = .ok (.istore 5, 2) := by decide +kernel
theorem dL_law__2330 : decode cL_law_ 2330 = .ok (.aload_n 2, 1) := by decide +kernel
theorem dL_law__2331 : decode cL_law_ 2331 = .ok (.aload_n 0, 1) := by decide +kernel
theorem dL_law__2332 : decode cL_law_ 2332 = .ok (.iload 4, 2) := by decide +kernel
theorem dL_law__2334 : decode cL_law_ 2334 = .ok (.iconst 1, 1) := by decide +kernel
theorem dL_law__2335 : decode cL_law_ 2335 = .ok (.iadd, 1) := by decide +kernel
theorem dL_law__2336 : decode cL_law_ 2336 = .ok (.iaload, 1) := by decide +kernel
theorem dL_law__2337 : decode cL_law_ 2337 = .ok (.aload_n 0, 1) := by decide +kernel
theorem dL_law__2338 : decode cL_law_ 2338 = .ok (.iload 4, 2) := by decide +kernel
theorem dL_law__2340 : decode cL_law_ 2340 = .ok (.iconst 2, 1) := by decide +kernel
theorem dL_law__2341 : decode cL_law_ 2341 = .ok (.iadd, 1) := by decide +kernel
theorem dL_law__2342 : decode cL_law_ 2342 = .ok (.iaload, 1) := by decide +kernel
theorem dL_law__2343 : decode cL_law_ 2343 = .ok (.aload_n 0, 1) := by decide +kernel
theorem dL_law__2344 : decode cL_law_ 2344 = .ok (.iload 4, 2) := by decide +kernel
theorem dL_law__2346 : decode cL_law_ 2346 = .ok (.iconst 3, 1) := by decide +kernel
theorem dL_law__2347 : decode cL_law_ 2347 = .ok (.iadd, 1) := by decide +kernel
theorem dL_law__2348 : decode cL_law_ 2348 = .ok (.iaload, 1) := by decide +kernel
theorem dL_law__2349 : decode cL_law_ 2349 = .ok (.aload_n 0, 1) := by decide +kernel
theorem dL_law__2350 : decode cL_law_ 2350 = .ok (.iload 4, 2) := by decide +kernel
theorem dL_law__2352 : decode cL_law_ 2352 = .ok (.iconst 4, 1) := by decide +kernel
theorem dL_law__2353 : decode cL_law_ 2353 = .ok (.iadd, 1) := by decide +kernel
theorem dL_law__2354 : decode cL_law_ 2354 = .ok (.iaload, 1) := by decide +kernel
theorem dL_law__2355 : decode cL_law_ 2355 = .ok (.invokevirtual 242, 3) := by decide +kernel
theorem dL_law__2358 : decode cL_law_ 2358 = .ok (.istore 6, 2) := by decide +kernel
theorem dL_law__2360 : decode cL_law_ 2360 = .ok (.aload_n 2, 1) := by decide +kernel
theorem dL_law__2361 : decode cL_law_ 2361 = .ok (.invokevirtual 128, 3) := by decide +kernel
theorem dL_law__2364 : decode cL_law_ 2364 = .ok (.iload 5, 2) := by decide +kernel
theorem dL_law__2366 : decode cL_law_ 2366 = .ok (.if_icmp .eq 5, 3) := by decide +kernel
theorem dL_law__2369 : decode cL_law_ 2369 = .ok (.iconst 0, 1) := by decide +kernel
theorem dL_law__2370 : decode cL_law_ 2370 = .ok (.ireturn, 1) := by decide +kernel
theorem dL_law__2371 : decode cL_law_ 2371 = .ok (.iload 5, 2) := by decide +kernel
theorem dL_law__2373 : decode cL_law_ 2373 = .ok (.ifCond .ne 15, 3) := by decide +kernel
theorem dL_law__2376 : decode cL_law_ 2376 = .ok (.aload_n 3, 1) := by decide +kernel
theorem dL_law__2377 : decode cL_law_ 2377 = .ok (.iconst 0, 1) := by decide +kernel
theorem dL_law__2378 : decode cL_law_ 2378 = .ok (.laload, 1) := by decide +kernel
theorem dL_law__2379 : decode cL_law_ 2379 = .ok (.iload 6, 2) := by decide +kernel
theorem dL_law__2381 : decode cL_law_ 2381 = .ok (.i2l, 1) := by decide +kernel
theorem dL_law__2382 : decode cL_law_ 2382 = .ok (.lcmp, 1) := by decide +kernel
theorem dL_law__2383 : decode cL_law_ 2383 = .ok (.ifCond .eq 5, 3) := by decide +kernel
theorem dL_law__2386 : decode cL_law_ 2386 = .ok (.iconst 0, 1) := by decide +kernel
theorem dL_law__2387 : decode cL_law_ 2387 = .ok (.ireturn, 1) := by decide +kernel
theorem dL_law__2388 : decode cL_law_ 2388 = .ok (.goto 197, 3) := by decide +kernel
theorem dL_law__2391 : decode cL_law_ 2391 = .ok (.aload_n 1, 1) := by decide +kernel
theorem dL_law__2392 : decode cL_law_ 2392 = .ok (.aload_n 0, 1) := by decide +kernel
theorem dL_law__2393 : decode cL_law_ 2393 = .ok (.iload 4, 2) := by decide +kernel
theorem dL_law__2395 : decode cL_law_ 2395 = .ok (.iconst 1, 1) := by decide +kernel
theorem dL_law__2396 : decode cL_law_ 2396 = .ok (.iadd, 1) := by decide +kernel
theorem dL_law__2397 : decode cL_law_ 2397 = .ok (.iaload, 1) := by decide +kernel
theorem dL_law__2398 : decode cL_law_ 2398 = .ok (.aload_n 0, 1) := by decide +kernel
theorem dL_law__2399 : decode cL_law_ 2399 = .ok (.iload 4, 2) := by decide +kernel
theorem dL_law__2401 : decode cL_law_ 2401 = .ok (.iconst 2, 1) := by decide +kernel
theorem dL_law__2402 : decode cL_law_ 2402 = .ok (.iadd, 1) := by decide +kernel
theorem dL_law__2403 : decode cL_law_ 2403 = .ok (.iaload, 1) := by decide +kernel
theorem dL_law__2404 : decode cL_law_ 2404 = .ok (.aload_n 0, 1) := by decide +kernel
theorem dL_law__2405 : decode cL_law_ 2405 = .ok (.iload 4, 2) := by decide +kernel
theorem dL_law__2407 : decode cL_law_ 2407 = .ok (.iconst 3, 1) := by decide +kernel
theorem dL_law__2408 : decode cL_law_ 2408 = .ok (.iadd, 1) := by decide +kernel
theorem dL_law__2409 : decode cL_law_ 2409 = .ok (.iaload, 1) := by decide +kernel
theorem dL_law__2410 : decode cL_law_ 2410 = .ok (.aload_n 0, 1) := by decide +kernel
theorem dL_law__2411 : decode cL_law_ 2411 = .ok (.iload 4, 2) := by decide +kernel
theorem dL_law__2413 : decode cL_law_ 2413 = .ok (.iconst 4, 1) := by decide +kernel
theorem dL_law__2414 : decode cL_law_ 2414 = .ok (.iadd, 1) := by decide +kernel
theorem dL_law__2415 : decode cL_law_ 2415 = .ok (.iaload, 1) := by decide +kernel
theorem dL_law__2416 : decode cL_law_ 2416 = .ok (.aload_n 0, 1) := by decide +kernel
theorem dL_law__2417 : decode cL_law_ 2417 = .ok (.iload 4, 2) := by decide +kernel
theorem dL_law__2419 : decode cL_law_ 2419 = .ok (.iconst 5, 1) := by decide +kernel
theorem dL_law__2420 : decode cL_law_ 2420 = .ok (.iadd, 1) := by decide +kernel
theorem dL_law__2421 : decode cL_law_ 2421 = .ok (.iaload, 1) := by decide +kernel
theorem dL_law__2422 : decode cL_law_ 2422 = .ok (.aload_n 0, 1) := by decide +kernel
theorem dL_law__2423 : decode cL_law_ 2423 = .ok (.iload 4, 2) := by decide +kernel
theorem dL_law__2425 : decode cL_law_ 2425 = .ok (.bipush 6, 2) := by decide +kernel
theorem dL_law__2427 : decode cL_law_ 2427 = .ok (.iadd, 1) := by decide +kernel
theorem dL_law__2428 : decode cL_law_ 2428 = .ok (.iaload, 1) := by decide +kernel
theorem dL_law__2429 : decode cL_law_ 2429 = .ok (.aload_n 3, 1) := by decide +kernel
theorem dL_law__2430 : decode cL_law_ 2430 = .ok (.invokestatic 243, 3) := by decide +kernel
theorem dL_law__2433 : decode cL_law_ 2433 = .ok (.istore 5, 2) := by decide +kernel
theorem dL_law__2435 : decode cL_law_ 2435 = .ok (.aload_n 2, 1) := by decide +kernel
theorem dL_law__2436 : decode cL_law_ 2436 = .ok (.aload_n 0, 1) := by decide +kernel
theorem dL_law__2437 : decode cL_law_ 2437 = .ok (.iload 4, 2) := by decide +kernel
theorem dL_law__2439 : decode cL_law_ 2439 = .ok (.iconst 1, 1) := by decide +kernel
theorem dL_law__2440 : decode cL_law_ 2440 = .ok (.iadd, 1) := by decide +kernel
theorem dL_law__2441 : decode cL_law_ 2441 = .ok (.iaload, 1) := by decide +kernel
theorem dL_law__2442 : decode cL_law_ 2442 = .ok (.aload_n 0, 1) := by decide +kernel
theorem dL_law__2443 : decode cL_law_ 2443 = .ok (.iload 4, 2) := by decide +kernel
theorem dL_law__2445 : decode cL_law_ 2445 = .ok (.iconst 2, 1) := by decide +kernel
theorem dL_law__2446 : decode cL_law_ 2446 = .ok (.iadd, 1) := by decide +kernel
theorem dL_law__2447 : decode cL_law_ 2447 = .ok (.iaload, 1) := by decide +kernel
theorem dL_law__2448 : decode cL_law_ 2448 = .ok (.aload_n 0, 1) := by decide +kernel
theorem dL_law__2449 : decode cL_law_ 2449 = .ok (.iload 4, 2) := by decide +kernel
theorem dL_law__2451 : decode cL_law_ 2451 = .ok (.iconst 3, 1) := by decide +kernel
theorem dL_law__2452 : decode cL_law_ 2452 = .ok (.iadd, 1) := by decide +kernel
theorem dL_law__2453 : decode cL_law_ 2453 = .ok (.iaload, 1) := by decide +kernel
theorem dL_law__2454 : decode cL_law_ 2454 = .ok (.aload_n 0, 1) := by decide +kernel
theorem dL_law__2455 : decode cL_law_ 2455 = .ok (.iload 4, 2) := by decide +kernel
theorem dL_law__2457 : decode cL_law_ 2457 = .ok (.iconst 4, 1) := by decide +kernel
theorem dL_law__2458 : decode cL_law_ 2458 = .ok (.iadd, 1) := by decide +kernel
theorem dL_law__2459 : decode cL_law_ 2459 = .ok (.iaload, 1) := by decide +kernel
theorem dL_law__2460 : decode cL_law_ 2460 = .ok (.aload_n 0, 1) := by decide +kernel
theorem dL_law__2461 : decode cL_law_ 2461 = .ok (.iload 4, 2) := by decide +kernel
theorem dL_law__2463 : decode cL_law_ 2463 = .ok (.iconst 5, 1) := by decide +kernel
theorem dL_law__2464 : decode cL_law_ 2464 = .ok (.iadd, 1) := by decide +kernel
theorem dL_law__2465 : decode cL_law_ 2465 = .ok (.iaload, 1) := by decide +kernel
theorem dL_law__2466 : decode cL_law_ 2466 = .ok (.aload_n 0, 1) := by decide +kernel
theorem dL_law__2467 : decode cL_law_ 2467 = .ok (.iload 4, 2) := by decide +kernel
theorem dL_law__2469 : decode cL_law_ 2469 = .ok (.bipush 6, 2) := by decide +kernel
theorem dL_law__2471 : decode cL_law_ 2471 = .ok (.iadd, 1) := by decide +kernel
theorem dL_law__2472 : decode cL_law_ 2472 = .ok (.iaload, 1) := by decide +kernel
theorem dL_law__2473 : decode cL_law_ 2473 = .ok (.invokevirtual 246, 3) := by decide +kernel
theorem dL_law__2476 : decode cL_law_ 2476 = .ok (.istore 6, 2) := by decide +kernel
theorem dL_law__2478 : decode cL_law_ 2478 = .ok (.aload_n 2, 1) := by decide +kernel
theorem dL_law__2479 : decode cL_law_ 2479 = .ok (.invokevirtual 128, 3) := by decide +kernel
theorem dL_law__2482 : decode cL_law_ 2482 = .ok (.iload 5, 2) := by decide +kernel
theorem dL_law__2484 : decode cL_law_ 2484 = .ok (.if_icmp .eq 5, 3) := by decide +kernel
theorem dL_law__2487 : decode cL_law_ 2487 = .ok (.iconst 0, 1) := by decide +kernel
theorem dL_law__2488 : decode cL_law_ 2488 = .ok (.ireturn, 1) := by decide +kernel
theorem dL_law__2489 : decode cL_law_ 2489 = .ok (.iload 5, 2) := by decide +kernel
theorem dL_law__2491 : decode cL_law_ 2491 = .ok (.ifCond .ne 15, 3) := by decide +kernel
theorem dL_law__2494 : decode cL_law_ 2494 = .ok (.aload_n 3, 1) := by decide +kernel
theorem dL_law__2495 : decode cL_law_ 2495 = .ok (.iconst 0, 1) := by decide +kernel
theorem dL_law__2496 : decode cL_law_ 2496 = .ok (.laload, 1) := by decide +kernel
theorem dL_law__2497 : decode cL_law_ 2497 = .ok (.iload 6, 2) := by decide +kernel
theorem dL_law__2499 : decode cL_law_ 2499 = .ok (.i2l, 1) := by decide +kernel
theorem dL_law__2500 : decode cL_law_ 2500 = .ok (.lcmp, 1) := by decide +kernel
theorem dL_law__2501 : decode cL_law_ 2501 = .ok (.ifCond .eq 5, 3) := by decide +kernel
theorem dL_law__2504 : decode cL_law_ 2504 = .ok (.iconst 0, 1) := by decide +kernel
theorem dL_law__2505 : decode cL_law_ 2505 = .ok (.ireturn, 1) := by decide +kernel
theorem dL_law__2506 : decode cL_law_ 2506 = .ok (.goto 79, 3) := by decide +kernel
theorem dL_law__2509 : decode cL_law_ 2509 = .ok (.aload_n 1, 1) := by decide +kernel
theorem dL_law__2510 : decode cL_law_ 2510 = .ok (.invokevirtual 247, 3) := by decide +kernel
theorem dL_law__2513 : decode cL_law_ 2513 = .ok (.aload_n 2, 1) := by decide +kernel
theorem dL_law__2514 : decode cL_law_ 2514 = .ok (.invokevirtual 250, 3) := by decide +kernel
theorem dL_law__2517 : decode cL_law_ 2517 = .ok (.if_icmp .eq 68, 3) := by decide +kernel
theorem dL_law__2520 : decode cL_law_ 2520 = .ok (.iconst 0, 1) := by decide +kernel
theorem dL_law__2521 : decode cL_law_ 2521 = .ok (.ireturn, 1) := by decide +kernel
theorem dL_law__2522 : decode cL_law_ 2522 = .ok (.aload_n 1, 1) := by decide +kernel
theorem dL_law__2523 : decode cL_law_ 2523 = .ok (.invokevirtual 251, 3) := by decide +kernel
theorem dL_law__2526 : decode cL_law_ 2526 = .ok (.aload_n 2, 1) := by decide +kernel
theorem dL_law__2527 : decode cL_law_ 2527 = .ok (.invokevirtual 254, 3) := by decide +kernel
theorem dL_law__2530 : decode cL_law_ 2530 = .ok (.if_icmp .eq 55, 3) := by decide +kernel
theorem dL_law__2533 : decode cL_law_ 2533 = .ok (.iconst 0, 1) := by decide +kernel
theorem dL_law__2534 : decode cL_law_ 2534 = .ok (.ireturn, 1) := by decide +kernel
theorem dL_law__2535 : decode cL_law_ 2535 = .ok (.aload_n 1, 1) := by decide +kernel
theorem dL_law__2536 : decode cL_law_ 2536 = .ok (.aload_n 0, 1) := by decide +kernel
theorem dL_law__2537 : decode cL_law_ 2537 = .ok (.iload 4, 2) := by decide +kernel
theorem dL_law__2539 : decode cL_law_ 2539 = .ok (.iconst 1, 1) := by decide +kernel
theorem dL_law__2540 : decode cL_law_ 2540 = .ok (.iadd, 1) := by decide +kernel
theorem dL_law__2541 : decode cL_law_ 2541 = .ok (.iaload, 1) := by decide +kernel
theorem dL_law__2542 : decode cL_law_ 2542 = .ok (.invokevirtual 255, 3) := by decide +kernel
theorem dL_law__2545 : decode cL_law_ 2545 = .ok (.aload_n 2, 1) := by decide +kernel
theorem dL_law__2546 : decode cL_law_ 2546 = .ok (.aload_n 0, 1) := by decide +kernel
theorem dL_law__2547 : decode cL_law_ 2547 = .ok (.iload 4, 2) := by decide +kernel
theorem dL_law__2549 : decode cL_law_ 2549 = .ok (.iconst 1, 1) := by decide +kernel
theorem dL_law__2550 : decode cL_law_ 2550 = .ok (.iadd, 1) := by decide +kernel
theorem dL_law__2551 : decode cL_law_ 2551 = .ok (.iaload, 1) := by decide +kernel
theorem dL_law__2552 : decode cL_law_ 2552 = .ok (.invokevirtual 258, 3) := by decide +kernel
theorem dL_law__2555 : decode cL_law_ 2555 = .ok (.if_icmp .eq 30, 3) := by decide +kernel
theorem dL_law__2558 : decode cL_law_ 2558 = .ok (.iconst 0, 1) := by decide +kernel
theorem dL_law__2559 : decode cL_law_ 2559 = .ok (.ireturn, 1) := by decide +kernel
theorem dL_law__2560 : decode cL_law_ 2560 = .ok (.aload_n 1, 1) := by decide +kernel
theorem dL_law__2561 : decode cL_law_ 2561 = .ok (.aload_n 0, 1) := by decide +kernel
theorem dL_law__2562 : decode cL_law_ 2562 = .ok (.iload 4, 2) := by decide +kernel
theorem dL_law__2564 : decode cL_law_ 2564 = .ok (.iconst 1, 1) := by decide +kernel
theorem dL_law__2565 : decode cL_law_ 2565 = .ok (.iadd, 1) := by decide +kernel
theorem dL_law__2566 : decode cL_law_ 2566 = .ok (.iaload, 1) := by decide +kernel
theorem dL_law__2567 : decode cL_law_ 2567 = .ok (.invokevirtual 259, 3) := by decide +kernel
theorem dL_law__2570 : decode cL_law_ 2570 = .ok (.aload_n 2, 1) := by decide +kernel
theorem dL_law__2571 : decode cL_law_ 2571 = .ok (.aload_n 0, 1) := by decide +kernel
theorem dL_law__2572 : decode cL_law_ 2572 = .ok (.iload 4, 2) := by decide +kernel
theorem dL_law__2574 : decode cL_law_ 2574 = .ok (.iconst 1, 1) := by decide +kernel
theorem dL_law__2575 : decode cL_law_ 2575 = .ok (.iadd, 1) := by decide +kernel
theorem dL_law__2576 : decode cL_law_ 2576 = .ok (.iaload, 1) := by decide +kernel
theorem dL_law__2577 : decode cL_law_ 2577 = .ok (.invokevirtual 262, 3) := by decide +kernel
theorem dL_law__2580 : decode cL_law_ 2580 = .ok (.if_icmp .eq 5, 3) := by decide +kernel
theorem dL_law__2583 : decode cL_law_ 2583 = .ok (.iconst 0, 1) := by decide +kernel
theorem dL_law__2584 : decode cL_law_ 2584 = .ok (.ireturn, 1) := by decide +kernel
theorem dL_law__2585 : decode cL_law_ 2585 = .ok (.iinc 4 9, 3) := by decide +kernel
theorem dL_law__2588 : decode cL_law_ 2588 = .ok (.goto (-2565), 3) := by decide +kernel
theorem dL_law__2591 : decode cL_law_ 2591 = .ok (.iconst 1, 1) := by decide +kernel
theorem dL_law__2592 : decode cL_law_ 2592 = .ok (.ireturn, 1) := by decide +kernel
