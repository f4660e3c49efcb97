/-! the law's own instructions, 5 -/
theorem dL_law__2030 : decode cL_law_ 2030 = .ok (.iconst 0, 1) := by decide +kernel
theorem dL_law__2031 : decode cL_law_ 2031 = .ok (.ireturn, 1) := by decide +kernel
theorem dL_law__2032 : decode cL_law_ 2032 = .ok (.goto 913, 3) := by decide +kernel
theorem dL_law__2035 : decode cL_law_ 2035 = .ok (.aload_n 1, 1) := by decide +kernel
theorem dL_law__2036 : decode cL_law_ 2036 = .ok (.aload_n 0, 1) := by decide +kernel
theorem dL_law__2037 : decode cL_law_ 2037 = .ok (.iload 4, 2) := by decide +kernel
theorem dL_law__2039 : decode cL_law_ 2039 = .ok (.iconst 1, 1) := by decide +kernel
theorem dL_law__2040 : decode cL_law_ 2040 = .ok (.iadd, 1) := by decide +kernel
theorem dL_law__2041 : decode cL_law_ 2041 = .ok (.iaload, 1) := by decide +kernel
theorem dL_law__2042 : decode cL_law_ 2042 = .ok (.aload_n 0, 1) := by decide +kernel
theorem dL_law__2043 : decode cL_law_ 2043 = .ok (.iload 4, 2) := by decide +kernel
theorem dL_law__2045 : decode cL_law_ 2045 = .ok (.iconst 2, 1) := by decide +kernel
theorem dL_law__2046 : decode cL_law_ 2046 = .ok (.iadd, 1) := by decide +kernel
theorem dL_law__2047 : decode cL_law_ 2047 = .ok (.iaload, 1) := by decide +kernel
theorem dL_law__2048 : decode cL_law_ 2048 = .ok (.aload_n 0, 1) := by decide +kernel
theorem dL_law__2049 : decode cL_law_ 2049 = .ok (.iload 4, 2) := by decide +kernel
theorem dL_law__2051 : decode cL_law_ 2051 = .ok (.iconst 3, 1) := by decide +kernel
theorem dL_law__2052 : decode cL_law_ 2052 = .ok (.iadd, 1) := by decide +kernel
theorem dL_law__2053 : decode cL_law_ 2053 = .ok (.iaload, 1) := by decide +kernel
theorem dL_law__2054 : decode cL_law_ 2054 = .ok (.aload_n 3, 1) := by decide +kernel
theorem dL_law__2055 : decode cL_law_ 2055 = .ok (.invokestatic 236, 3) := by decide +kernel
theorem dL_law__2058 : decode cL_law_ 2058 = .ok (.istore 5, 2) := by decide +kernel
theorem dL_law__2060 : decode cL_law_ 2060 = .ok (.aload_n 2, 1) := by decide +kernel
theorem dL_law__2061 : decode cL_law_ 2061 = .ok (.aload_n 0, 1) := by decide +kernel
theorem dL_law__2062 : decode cL_law_ 2062 = .ok (.iload 4, 2) := by decide +kernel
theorem dL_law__2064 : decode cL_law_ 2064 = .ok (.iconst 1, 1) := by decide +kernel
theorem dL_law__2065 : decode cL_law_ 2065 = .ok (.iadd, 1) := by decide +kernel
theorem dL_law__2066 : decode cL_law_ 2066 = .ok (.iaload, 1) := by decide +kernel
theorem dL_law__2067 : decode cL_law_ 2067 = .ok (.aload_n 0, 1) := by decide +kernel
theorem dL_law__2068 : decode cL_law_ 2068 = .ok (.iload 4, 2) := by decide +kernel
theorem dL_law__2070 : decode cL_law_ 2070 = .ok (.iconst 2, 1) := by decide +kernel
theorem dL_law__2071 : decode cL_law_ 2071 = .ok (.iadd, 1) := by decide +kernel
theorem dL_law__2072 : decode cL_law_ 2072 = .ok (.iaload, 1) := by decide +kernel
theorem dL_law__2073 : decode cL_law_ 2073 = .ok (.aload_n 0, 1) := by decide +kernel
theorem dL_law__2074 : decode cL_law_ 2074 = .ok (.iload 4, 2) := by decide +kernel
theorem dL_law__2076 : decode cL_law_ 2076 = .ok (.iconst 3, 1) := by decide +kernel
theorem dL_law__2077 : decode cL_law_ 2077 = .ok (.iadd, 1) := by decide +kernel
theorem dL_law__2078 : decode cL_law_ 2078 = .ok (.iaload, 1) := by decide +kernel
theorem dL_law__2079 : decode cL_law_ 2079 = .ok (.invokevirtual 238, 3) := by decide +kernel
theorem dL_law__2082 : decode cL_law_ 2082 = .ok (.istore 6, 2) := by decide +kernel
theorem dL_law__2084 : decode cL_law_ 2084 = .ok (.aload_n 2, 1) := by decide +kernel
theorem dL_law__2085 : decode cL_law_ 2085 = .ok (.invokevirtual 149, 3) := by decide +kernel
theorem dL_law__2088 : decode cL_law_ 2088 = .ok (.iload 5, 2) := by decide +kernel
theorem dL_law__2090 : decode cL_law_ 2090 = .ok (.if_icmp .eq 5, 3) := by decide +kernel
theorem dL_law__2093 : decode cL_law_ 2093 = .ok (.iconst 0, 1) := by decide +kernel
theorem dL_law__2094 : decode cL_law_ 2094 = .ok (.ireturn, 1) := by decide +kernel
theorem dL_law__2095 : decode cL_law_ 2095 = .ok (.iload 5, 2) := by decide +kernel
theorem dL_law__2097 : decode cL_law_ 2097 = .ok (.ifCond .ne 15, 3) := by decide +kernel
theorem dL_law__2100 : decode cL_law_ 2100 = .ok (.aload_n 3, 1) := by decide +kernel
theorem dL_law__2101 : decode cL_law_ 2101 = .ok (.iconst 0, 1) := by decide +kernel
theorem dL_law__2102 : decode cL_law_ 2102 = .ok (.laload, 1) := by decide +kernel
theorem dL_law__2103 : decode cL_law_ 2103 = .ok (.iload 6, 2) := by decide +kernel
theorem dL_law__2105 : decode cL_law_ 2105 = .ok (.i2l, 1) := by decide +kernel
theorem dL_law__2106 : decode cL_law_ 2106 = .ok (.lcmp, 1) := by decide +kernel
theorem dL_law__2107 : decode cL_law_ 2107 = .ok (.ifCond .eq 5, 3) := by decide +kernel
theorem dL_law__2110 : decode cL_law_ 2110 = .ok (.iconst 0, 1) := by decide +kernel
theorem dL_law__2111 : decode cL_law_ 2111 = .ok (.ireturn, 1) := by decide +kernel
theorem dL_law__2112 : decode cL_law_ 2112 = .ok (.goto 833, 3) := by decide +kernel
theorem dL_law__2115 : decode cL_law_ 2115 = .ok (.aload_n 1, 1) := by decide +kernel
theorem dL_law__2116 : decode cL_law_ 2116 = .ok (.aload_n 0, 1) := by decide +kernel
theorem dL_law__2117 : decode cL_law_ 2117 = .ok (.iload 4, 2) := by decide +kernel
theorem dL_law__2119 : decode cL_law_ 2119 = .ok (.iconst 1, 1) := by decide +kernel
theorem dL_law__2120 : decode cL_law_ 2120 = .ok (.iadd, 1) := by decide +kernel
theorem dL_law__2121 : decode cL_law_ 2121 = .ok (.iaload, 1) := by decide +kernel
theorem dL_law__2122 : decode cL_law_ 2122 = .ok (.aload_n 0, 1) := by decide +kernel
theorem dL_law__2123 : decode cL_law_ 2123 = .ok (.iload 4, 2) := by decide +kernel
theorem dL_law__2125 : decode cL_law_ 2125 = .ok (.iconst 2, 1) := by decide +kernel
theorem dL_law__2126 : decode cL_law_ 2126 = .ok (.iadd, 1) := by decide +kernel
theorem dL_law__2127 : decode cL_law_ 2127 = .ok (.iaload, 1) := by decide +kernel
theorem dL_law__2128 : decode cL_law_ 2128 = .ok (.aload_n 3, 1) := by decide +kernel
theorem dL_law__2129 : decode cL_law_ 2129 = .ok (.invokestatic 239, 3) := by decide +kernel
theorem dL_law__2132 : decode cL_law_ 2132 = .ok (.istore 5, 2) := by decide +kernel
theorem dL_law__2134 : decode cL_law_ 2134 = .ok (.aload_n 2, 1) := by decide +kernel
theorem dL_law__2135 : decode cL_law_ 2135 = .ok (.aload_n 0, 1) := by decide +kernel
theorem dL_law__2136 : decode cL_law_ 2136 = .ok (.iload 4, 2) := by decide +kernel
theorem dL_law__2138 : decode cL_law_ 2138 = .ok (.iconst 1, 1) := by decide +kernel
theorem dL_law__2139 : decode cL_law_ 2139 = .ok (.iadd, 1) := by decide +kernel
theorem dL_law__2140 : decode cL_law_ 2140 = .ok (.iaload, 1) := by decide +kernel
theorem dL_law__2141 : decode cL_law_ 2141 = .ok (.aload_n 0, 1) := by decide +kernel
theorem dL_law__2142 : decode cL_law_ 2142 = .ok (.iload 4, 2) := by decide +kernel
theorem dL_law__2144 : decode cL_law_ 2144 = .ok (.iconst 2, 1) := by decide +kernel
theorem dL_law__2145 : decode cL_law_ 2145 = .ok (.iadd, 1) := by decide +kernel
theorem dL_law__2146 : decode cL_law_ 2146 = .ok (.iaload, 1) := by decide +kernel
theorem dL_law__2147 : decode cL_law_ 2147 = .ok (.invokevirtual 241, 3) := by decide +kernel
theorem dL_law__2150 : decode cL_law_ 2150 = .ok (.istore 6, 2) := by decide +kernel
theorem dL_law__2152 : decode cL_law_ 2152 = .ok (.aload_n 2, 1) := by decide +kernel
theorem dL_law__2153 : decode cL_law_ 2153 = .ok (.invokevirtual 149, 3) := by decide +kernel
theorem dL_law__2156 : decode cL_law_ 2156 = .ok (.iload 5, 2) := by decide +kernel
theorem dL_law__2158 : decode cL_law_ 2158 = .ok (.if_icmp .eq 5, 3) := by decide +kernel
theorem dL_law__2161 : decode cL_law_ 2161 = .ok (.iconst 0, 1) := by decide +kernel
theorem dL_law__2162 : decode cL_law_ 2162 = .ok (.ireturn, 1) := by decide +kernel
theorem dL_law__2163 : decode cL_law_ 2163 = .ok (.iload 5, 2) := by decide +kernel
theorem dL_law__2165 : decode cL_law_ 2165 = .ok (.ifCond .ne 15, 3) := by decide +kernel
theorem dL_law__2168 : decode cL_law_ 2168 = .ok (.aload_n 3, 1) := by decide +kernel
theorem dL_law__2169 : decode cL_law_ 2169 = .ok (.iconst 0, 1) := by decide +kernel
theorem dL_law__2170 : decode cL_law_ 2170 = .ok (.laload, 1) := by decide +kernel
theorem dL_law__2171 : decode cL_law_ 2171 = .ok (.iload 6, 2) := by decide +kernel
theorem dL_law__2173 : decode cL_law_ 2173 = .ok (.i2l, 1) := by decide +kernel
theorem dL_law__2174 : decode cL_law_ 2174 = .ok (.lcmp, 1) := by decide +kernel
theorem dL_law__2175 : decode cL_law_ 2175 = .ok (.ifCond .eq 5, 3) := by decide +kernel
theorem dL_law__2178 : decode cL_law_ 2178 = .ok (.iconst 0, 1) := by decide +kernel
theorem dL_law__2179 : decode cL_law_ 2179 = .ok (.ireturn, 1) := by decide +kernel
theorem dL_law__2180 : decode cL_law_ 2180 = .ok (.goto 765, 3) := by decide +kernel
theorem dL_law__2183 : decode cL_law_ 2183 = .ok (.aload_n 1, 1) := by decide +kernel
theorem dL_law__2184 : decode cL_law_ 2184 = .ok (.invokevirtual 242, 3) := by decide +kernel
theorem dL_law__2187 : decode cL_law_ 2187 = .ok (.aload_n 2, 1) := by decide +kernel
theorem dL_law__2188 : decode cL_law_ 2188 = .ok (.invokevirtual 245, 3) := by decide +kernel
theorem dL_law__2191 : decode cL_law_ 2191 = .ok (.if_icmp .eq 754, 3) := by decide +kernel
theorem dL_law__2194 : decode cL_law_ 2194 = .ok (.iconst 0, 1) := by decide +kernel
theorem dL_law__2195 : decode cL_law_ 2195 = .ok (.ireturn, 1) := by decide +kernel
theorem dL_law__2196 : decode cL_law_ 2196 = .ok (.aload_n 1, 1) := by decide +kernel
theorem dL_law__2197 : decode cL_law_ 2197 = .ok (.invokevirtual 246, 3) := by decide +kernel
theorem dL_law__2200 : decode cL_law_ 2200 = .ok (.aload_n 2, 1) := by decide +kernel
theorem dL_law__2201 : decode cL_law_ 2201 = .ok (.invokevirtual 249, 3) := by decide +kernel
theorem dL_law__2204 : decode cL_law_ 2204 = .ok (.if_icmp .eq 741, 3) := by decide +kernel
theorem dL_law__2207 : decode cL_law_ 2207 = .ok (.iconst 0, 1) := by decide +kernel
theorem dL_law__2208 : decode cL_law_ 2208 = .ok (.ireturn, 1) := by decide +kernel
theorem dL_law__2209 : decode cL_law_ 2209 = .ok (.aload_n 1, 1) := by decide +kernel
theorem dL_law__2210 : decode cL_law_ 2210 = .ok (.aload_n 0, 1) := by decide +kernel
theorem dL_law__2211 : decode cL_law_ 2211 = .ok (.iload 4, 2) := by decide +kernel
theorem dL_law__2213 : decode cL_law_ 2213 = .ok (.iconst 1, 1) := by decide +kernel
theorem dL_law__2214 : decode cL_law_ 2214 = .ok (.iadd, 1) := by decide +kernel
theorem dL_law__2215 : decode cL_law_ 2215 = .ok (.iaload, 1) := by decide +kernel
theorem dL_law__2216 : decode cL_law_ 2216 = .ok (.aload_n 0, 1) := by decide +kernel
theorem dL_law__2217 : decode cL_law_ 2217 = .ok (.iload 4, 2) := by decide +kernel
theorem dL_law__2219 : decode cL_law_ 2219 = .ok (.iconst 2, 1) := by decide +kernel
theorem dL_law__2220 : decode cL_law_ 2220 = .ok (.iadd, 1) := by decide +kernel
theorem dL_law__2221 : decode cL_law_ 2221 = .ok (.iaload, 1) := by decide +kernel
theorem dL_law__2222 : decode cL_law_ 2222 = .ok (.aload_n 3, 1) := by decide +kernel
theorem dL_law__2223 : decode cL_law_ 2223 = .ok (.invokestatic 250, 3) := by decide +kernel
theorem dL_law__2226 : decode cL_law_ 2226 = .ok (.istore 5, 2) := by decide +kernel
theorem dL_law__2228 : decode cL_law_ 2228 = .ok (.aload_n 2, 1) := by decide +kernel
theorem dL_law__2229 : decode cL_law_ 2229 = .ok (.aload_n 0, 1) := by decide +kernel
theorem dL_law__2230 : decode cL_law_ 2230 = .ok (.iload 4, 2) := by decide +kernel
theorem dL_law__2232 : decode cL_law_ 2232 = .ok (.iconst 1, 1) := by decide +kernel
theorem dL_law__2233 : decode cL_law_ 2233 = .ok (.iadd, 1) := by decide +kernel
theorem dL_law__2234 : decode cL_law_ 2234 = .ok (.iaload, 1) := by decide +kernel
theorem dL_law__2235 : decode cL_law_ 2235 = .ok (.aload_n 0, 1) := by decide +kernel
theorem dL_law__2236 : decode cL_law_ 2236 = .ok (.iload 4, 2) := by decide +kernel
theorem dL_law__2238 : decode cL_law_ 2238 = .ok (.iconst 2, 1) := by decide +kernel
theorem dL_law__2239 : decode cL_law_ 2239 = .ok (.iadd, 1) := by decide +kernel
theorem dL_law__2240 : decode cL_law_ 2240 = .ok (.iaload, 1) := by decide +kernel
theorem dL_law__2241 : decode cL_law_ 2241 = .ok (.invokevirtual 252, 3) := by decide +kernel
theorem dL_law__2244 : decode cL_law_ 2244 = .ok (.istore 6, 2) := by decide +kernel
theorem dL_law__2246 : decode cL_law_ 2246 = .ok (.aload_n 2, 1) := by decide +kernel
theorem dL_law__2247 : decode cL_law_ 2247 = .ok (.invokevirtual 149, 3) := by decide +kernel
theorem dL_law__2250 : decode cL_law_ 2250 = .ok (.iload 5, 2) := by decide +kernel
theorem dL_law__2252 : decode cL_law_ 2252 = .ok (.if_icmp .eq 5, 3) := by decide +kernel
theorem dL_law__2255 : decode cL_law_ 2255 = .ok (.iconst 0, 1) := by decide +kernel
theorem dL_law__2256 : decode cL_law_ 2256 = .ok (.ireturn, 1) := by decide +kernel
theorem dL_law__2257 : decode cL_law_ 2257 = .ok (.iload 5, 2) := by decide +kernel
theorem dL_law__2259 : decode cL_law_ 2259 = .ok (.ifCond .ne 15, 3) := by decide +kernel
theorem dL_law__2262 : decode cL_law_ 2262 = .ok (.aload_n 3, 1) := by decide +kernel
theorem dL_law__2263 : decode cL_law_ 2263 = .ok (.iconst 0, 1) := by decide +kernel
theorem dL_law__2264 : decode cL_law_ 2264 = .ok (.laload, 1) := by decide +kernel
theorem dL_law__2265 : decode cL_law_ 2265 = .ok (.iload 6, 2) := by decide +kernel
theorem dL_law__2267 : decode cL_law_ 2267 = .ok (.i2l, 1) := by decide +kernel
theorem dL_law__2268 : decode cL_law_ 2268 = .ok (.lcmp, 1) := by decide +kernel
theorem dL_law__2269 : decode cL_law_ 2269 = .ok (.ifCond .eq 5, 3) := by decide +kernel
theorem dL_law__2272 : decode cL_law_ 2272 = .ok (.iconst 0, 1) := by decide +kernel
theorem dL_law__2273 : decode cL_law_ 2273 = .ok (.ireturn, 1) := by decide +kernel
theorem dL_law__2274 : decode cL_law_ 2274 = .ok (.goto 671, 3) := by decide +kernel
theorem dL_law__2277 : decode cL_law_ 2277 = .ok (.aload_n 1, 1) := by decide +kernel
theorem dL_law__2278 : decode cL_law_ 2278 = .ok (.aload_n 0, 1) := by decide +kernel
theorem dL_law__2279 : decode cL_law_ 2279 = .ok (.iload 4, 2) := by decide +kernel
theorem dL_law__2281 : decode cL_law_ 2281 = .ok (.iconst 1, 1) := by decide +kernel
theorem dL_law__2282 : decode cL_law_ 2282 = .ok (.iadd, 1) := by decide +kernel
theorem dL_law__2283 : decode cL_law_ 2283 = .ok (.iaload, 1) := by decide +kernel
theorem dL_law__2284 : decode cL_law_ 2284 = .ok (.aload_n 0, 1) := by decide +kernel
theorem dL_law__2285 : decode cL_law_ 2285 = .ok (.iload 4, 2) := by decide +kernel
theorem dL_law__2287 : decode cL_law_ 2287 = .ok (.iconst 2, 1) := by decide +kernel
theorem dL_law__2288 : decode cL_law_ 2288 = .ok (.iadd, 1) := by decide +kernel
theorem dL_law__2289 : decode cL_law_ 2289 = .ok (.iaload, 1) := by decide +kernel
theorem dL_law__2290 : decode cL_law_ 2290 = .ok (.ifCond .eq 7, 3) := by decide +kernel
theorem dL_law__2293 : decode cL_law_ 2293 = .ok (.iconst 1, 1) := by decide +kernel
theorem dL_law__2294 : decode cL_law_ 2294 = .ok (.goto 4, 3) := by decide +kernel
theorem dL_law__2297 : decode cL_law_ 2297 = .ok (.iconst 0, 1) := by decide +kernel
theorem dL_law__2298 : decode cL_law_ 2298 = .ok (.aload_n 3, 1) := by decide +kernel
theorem dL_law__2299 : decode cL_law_ 2299 = .ok (.invokestatic 253, 3) := by decide +kernel
theorem dL_law__2302 : decode cL_law_ 2302 = .ok (.istore 5, 2) := by decide +kernel
theorem dL_law__2304 : decode cL_law_ 2304 = .ok (.aload_n 2, 1) := by decide +kernel
theorem dL_law__2305 : decode cL_law_ 2305 = .ok (.aload_n 0, 1) := by decide +kernel
theorem dL_law__2306 : decode cL_law_ 2306 = .ok (.iload 4, 2) := by decide +kernel
theorem dL_law__2308 : decode cL_law_ 2308 = .ok (.iconst 1, 1) := by decide +kernel
theorem dL_law__2309 : decode cL_law_ 2309 = .ok (.iadd, 1) := by decide +kernel
theorem dL_law__2310 : decode cL_law_ 2310 = .ok (.iaload, 1) := by decide +kernel
theorem dL_law__2311 : decode cL_law_ 2311 = .ok (.aload_n 0, 1) := by decide +kernel
theorem dL_law__2312 : decode cL_law_ 2312 = .ok (.iload 4, 2) := by decide +kernel
theorem dL_law__2314 : decode cL_law_ 2314 = .ok (.iconst 2, 1) := by decide +kernel
theorem dL_law__2315 : decode cL_law_ 2315 = .ok (.iadd, 1) := by decide +kernel
theorem dL_law__2316 : decode cL_law_ 2316 = .ok (.iaload, 1) := by decide +kernel
theorem dL_law__2317 : decode cL_law_ 2317 = .ok (.ifCond .eq 7, 3) := by decide +kernel
theorem dL_law__2320 : decode cL_law_ 2320 = .ok (.iconst 1, 1) := by decide +kernel
theorem dL_law__2321 : decode cL_law_ 2321 = .ok (.goto 4, 3) := by decide +kernel
theorem dL_law__2324 : decode cL_law_ 2324 = .ok (.iconst 0, 1) := by decide +kernel
theorem dL_law__2325 : decode cL_law_ 2325 = .ok (.invokevirtual 255, 3) := by decide +kernel
theorem dL_law__2328 : decode cL_law_ 2328 = .ok (.istore 6, 2) := by decide +kernel
theorem dL_law__2330 : decode cL_law_ 2330 = .ok (.aload_n 2, 1) := by decide +kernel
theorem dL_law__2331 : decode cL_law_ 2331 = .ok (.invokevirtual 149, 3) := by decide +kernel
theorem dL_law__2334 : decode cL_law_ 2334 = .ok (.iload 5, 2) := by decide +kernel
theorem dL_law__2336 : decode cL_law_ 2336 = .ok (.if_icmp .eq 5, 3) := by decide +kernel
theorem dL_law__2339 : decode cL_law_ 2339 = .ok (.iconst 0, 1) := by decide +kernel
theorem dL_law__2340 : decode cL_law_ 2340 = .ok (.ireturn, 1) := by decide +kernel
theorem dL_law__2341 : decode cL_law_ 2341 = .ok (.iload 5, 2) := by decide +kernel
theorem dL_law__2343 : decode cL_law_ 2343 = .ok (.ifCond .ne 15, 3) := by decide +kernel
theorem dL_law__2346 : decode cL_law_ 2346 = .ok (.aload_n 3, 1) := by decide +kernel
theorem dL_law__2347 : decode cL_law_ 2347 = .ok (.iconst 0, 1) := by decide +kernel
theorem dL_law__2348 : decode cL_law_ 2348 = .ok (.laload, 1) := by decide +kernel
theorem dL_law__2349 : decode cL_law_ 2349 = .ok (.iload 6, 2) := by decide +kernel
theorem dL_law__2351 : decode cL_law_ 2351 = .ok (.i2l, 1) := by decide +kernel
theorem dL_law__2352 : decode cL_law_ 2352 = .ok (.lcmp, 1) := by decide +kernel
theorem dL_law__2353 : decode cL_law_ 2353 = .ok (.ifCond .eq 5, 3) := by decide +kernel
theorem dL_law__2356 : decode cL_law_ 2356 = .ok (.iconst 0, 1) := by decide +kernel
theorem dL_law__2357 : decode cL_law_ 2357 = .ok (.ireturn, 1) := by decide +kernel
theorem dL_law__2358 : decode cL_law_ 2358 = .ok (.goto 587, 3) := by decide +kernel
theorem dL_law__2361 : decode cL_law_ 2361 = .ok (.aload_n 1, 1) := by decide +kernel
theorem dL_law__2362 : decode cL_law_ 2362 = .ok (.aload_n 0, 1) := by decide +kernel
theorem dL_law__2363 : decode cL_law_ 2363 = .ok (.iload 4, 2) := by decide +kernel
theorem dL_law__2365 : decode cL_law_ 2365 = .ok (.iconst 1, 1) := by decide +kernel
theorem dL_law__2366 : decode cL_law_ 2366 = .ok (.iadd, 1) := by decide +kernel
theorem dL_law__2367 : decode cL_law_ 2367 = .ok (.iaload, 1) := by decide +kernel
theorem dL_law__2368 : decode cL_law_ 2368 = .ok (.aload_n 3, 1) := by decide +kernel
theorem dL_law__2369 : decode cL_law_ 2369 = .ok (.invokestatic 256, 3) := by decide +kernel
theorem dL_law__2372 : decode cL_law_ 2372 = .ok (.istore 5, 2) := by decide +kernel
theorem dL_law__2374 : decode cL_law_ 2374 = .ok (.aload_n 2, 1) := by decide +kernel
theorem dL_law__2375 : decode cL_law_ 2375 = .ok (.aload_n 0, 1) := by decide +kernel
theorem dL_law__2376 : decode cL_law_ 2376 = .ok (.iload 4, 2) := by decide +kernel
theorem dL_law__2378 : decode cL_law_ 2378 = .ok (.iconst 1, 1) := by decide +kernel
theorem dL_law__2379 : decode cL_law_ 2379 = .ok (.iadd, 1) := by decide +kernel
theorem dL_law__2380 : decode cL_law_ 2380 = .ok (.iaload, 1) := by decide +kernel
theorem dL_law__2381 : decode cL_law_ 2381 = .ok (.invokevirtual 258, 3) := by decide +kernel
theorem dL_law__2384 : decode cL_law_ 2384 = .ok (.istore 6, 2) := by decide +kernel
theorem dL_law__2386 : decode cL_law_ 2386 = .ok (.aload_n 2, 1) := by decide +kernel
theorem dL_law__2387 : decode cL_law_ 2387 = .ok (.invokevirtual 149, 3) := by decide +kernel
theorem dL_law__2390 : decode cL_law_ 2390 = .ok (.iload 5, 2) := by decide +kernel
theorem dL_law__2392 : decode cL_law_ 2392 = .ok (.if_icmp .eq 5, 3) := by decide +kernel
theorem dL_law__2395 : decode cL_law_ 2395 = .ok (.iconst 0, 1) := by decide +kernel
theorem dL_law__2396 : decode cL_law_ 2396 = .ok (.ireturn, 1) := by decide +kernel
theorem dL_law__2397 : decode cL_law_ 2397 = .ok (.iload 5, 2) := by decide +kernel
theorem dL_law__2399 : decode cL_law_ 2399 = .ok (.ifCond .ne 15, 3) := by decide +kernel
theorem dL_law__2402 : decode cL_law_ 2402 = .ok (.aload_n 3, 1) := by decide +kernel
theorem dL_law__2403 : decode cL_law_ 2403 = .ok (.iconst 0, 1) := by decide +kernel
theorem dL_law__2404 : decode cL_law_ 2404 = .ok (.laload, 1) := by decide +kernel
theorem dL_law__2405 : decode cL_law_ 2405 = .ok (.iload 6, 2) := by decide +kernel
theorem dL_law__2407 : decode cL_law_ 2407 = .ok (.i2l, 1) := by decide +kernel
theorem dL_law__2408 : decode cL_law_ 2408 = .ok (.lcmp, 1) := by decide +kernel
theorem dL_law__2409 : decode cL_law_ 2409 = .ok (.ifCond .eq 5, 3) := by decide +kernel
theorem dL_law__2412 : decode cL_law_ 2412 = .ok (.iconst 0, 1) := by decide +kernel
theorem dL_law__2413 : decode cL_law_ 2413 = .ok (.ireturn, 1) := by decide +kernel
theorem dL_law__2414 : decode cL_law_ 2414 = .ok (.goto 531, 3) := by decide +kernel
theorem dL_law__2417 : decode cL_law_ 2417 = .ok (.aload_n 1, 1) := by decide +kernel
theorem dL_law__2418 : decode cL_law_ 2418 = .ok (.aload_n 0, 1) := by decide +kernel
theorem dL_law__2419 : decode cL_law_ 2419 = .ok (.iload 4, 2) := by decide +kernel
theorem dL_law__2421 : decode cL_law_ 2421 = .ok (.iconst 1, 1) := by decide +kernel
theorem dL_law__2422 : decode cL_law_ 2422 = .ok (.iadd, 1) := by decide +kernel
theorem dL_law__2423 : decode cL_law_ 2423 = .ok (.iaload, 1) := by decide +kernel
theorem dL_law__2424 : decode cL_law_ 2424 = .ok (.aload_n 0, 1) := by decide +kernel
theorem dL_law__2425 : decode cL_law_ 2425 = .ok (.iload 4, 2) := by decide +kernel
theorem dL_law__2427 : decode cL_law_ 2427 = .ok (.iconst 2, 1) := by decide +kernel
theorem dL_law__2428 : decode cL_law_ 2428 = .ok (.iadd, 1) := by decide +kernel
theorem dL_law__2429 : decode cL_law_ 2429 = .ok (.iaload, 1) := by decide +kernel
theorem dL_law__2430 : decode cL_law_ 2430 = .ok (.aload_n 3, 1) := by decide +kernel
theorem dL_law__2431 : decode cL_law_ 2431 = .ok (.invokestatic 259, 3) := by decide +kernel
theorem dL_law__2434 : decode cL_law_ 2434 = .ok (.istore 5, 2) := by decide +kernel
theorem dL_law__2436 : decode cL_law_ 2436 = .ok (.aload_n 2, 1) := by decide +kernel
theorem dL_law__2437 : decode cL_law_ 2437 = .ok (.aload_n 0, 1) := by decide +kernel
theorem dL_law__2438 : decode cL_law_ 2438 = .ok (.iload 4, 2) := by decide +kernel
theorem dL_law__2440 : decode cL_law_ 2440 = .ok (.iconst 1, 1) := by decide +kernel
theorem dL_law__2441 : decode cL_law_ 2441 = .ok (.iadd, 1) := by decide +kernel
theorem dL_law__2442 : decode cL_law_ 2442 = .ok (.iaload, 1) := by decide +kernel
theorem dL_law__2443 : decode cL_law_ 2443 = .ok (.aload_n 0, 1) := by decide +kernel
theorem dL_law__2444 : decode cL_law_ 2444 = .ok (.iload 4, 2) := by decide +kernel
theorem dL_law__2446 : decode cL_law_ 2446 = .ok (.iconst 2, 1) := by decide +kernel
theorem dL_law__2447 : decode cL_law_ 2447 = .ok (.iadd, 1) := by decide +kernel
theorem dL_law__2448 : decode cL_law_ 2448 = .ok (.iaload, 1) := by decide +kernel
theorem dL_law__2449 : decode cL_law_ 2449 = .ok (.invokevirtual 261, 3) := by decide +kernel
theorem dL_law__2452 : decode cL_law_ 2452 = .ok (.istore 6, 2) := by decide +kernel
theorem dL_law__2454 : decode cL_law_ 2454 = .ok (.aload_n 2, 1) := by decide +kernel
theorem dL_law__2455 : decode cL_law_ 2455 = .ok (.invokevirtual 149, 3) := by decide +kernel
theorem dL_law__2458 : decode cL_law_ 2458 = .ok (.iload 5, 2) := by decide +kernel
theorem dL_law__2460 : decode cL_law_ 2460 = .ok (.if_icmp .eq 5, 3) := by decide +kernel
theorem dL_law__2463 : decode cL_law_ 2463 = .ok (.iconst 0, 1) := by decide +kernel
theorem dL_law__2464 : decode cL_law_ 2464 = .ok (.ireturn, 1) := by decide +kernel
theorem dL_law__2465 : decode cL_law_ 2465 = .ok (.iload 5, 2) := by decide +kernel
theorem dL_law__2467 : decode cL_law_ 2467 = .ok (.ifCond .ne 15, 3) := by decide +kernel
theorem dL_law__2470 : decode cL_law_ 2470 = .ok (.aload_n 3, 1) := by decide +kernel
theorem dL_law__2471 : decode cL_law_ 2471 = .ok (.iconst 0, 1) := by decide +kernel
theorem dL_law__2472 : decode cL_law_ 2472 = .ok (.laload, 1) := by decide +kernel
theorem dL_law__2473 : decode cL_law_ 2473 = .ok (.iload 6, 2) := by decide +kernel
theorem dL_law__2475 : decode cL_law_ 2475 = .ok (.i2l, 1) := by decide +kernel
theorem dL_law__2476 : decode cL_law_ 2476 = .ok (.lcmp, 1) := by decide +kernel
theorem dL_law__2477 : decode cL_law_ 2477 = .ok (.ifCond .eq 5, 3) := by decide +kernel
theorem dL_law__2480 : decode cL_law_ 2480 = .ok (.iconst 0, 1) := by decide +kernel
theorem dL_law__2481 : decode cL_law_ 2481 = .ok (.ireturn, 1) := by decide +kernel
theorem dL_law__2482 : decode cL_law_ 2482 = .ok (.goto 463, 3) := by decide +kernel
theorem dL_law__2485 : decode cL_law_ 2485 = .ok (.aload_n 1, 1) := by decide +kernel
theorem dL_law__2486 : decode cL_law_ 2486 = .ok (.aload_n 0, 1) := by decide +kernel
theorem dL_law__2487 : decode cL_law_ 2487 = .ok (.iload 4, 2) := by decide +kernel
theorem dL_law__2489 : decode cL_law_ 2489 = .ok (.iconst 1, 1) := by decide +kernel
theorem dL_law__2490 : decode cL_law_ 2490 = .ok (.iadd, 1) := by decide +kernel
