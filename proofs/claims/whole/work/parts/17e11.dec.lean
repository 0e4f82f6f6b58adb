theorem d_w_2142 : decode code 2142 = .ok (.iload 5, 2) := by decide +kernel
theorem d_w_2144 : decode code 2144 = .ok (.iconst 1, 1) := by decide +kernel
theorem d_w_2145 : decode code 2145 = .ok (.iadd, 1) := by decide +kernel
theorem d_w_2146 : decode code 2146 = .ok (.iaload, 1) := by decide +kernel
theorem d_w_2147 : decode code 2147 = .ok (.invokevirtual 277, 3) := by decide +kernel
theorem d_w_2150 : decode code 2150 = .ok (.istore 7, 2) := by decide +kernel
theorem d_w_2152 : decode code 2152 = .ok (.aload_n 2, 1) := by decide +kernel
theorem d_w_2153 : decode code 2153 = .ok (.invokevirtual 114, 3) := by decide +kernel
theorem d_w_2156 : decode code 2156 = .ok (.iload 6, 2) := by decide +kernel
theorem d_w_2158 : decode code 2158 = .ok (.if_icmp .eq 5, 3) := by decide +kernel
theorem d_w_2161 : decode code 2161 = .ok (.iconst 0, 1) := by decide +kernel
theorem d_w_2162 : decode code 2162 = .ok (.ireturn, 1) := by decide +kernel
theorem d_w_2163 : decode code 2163 = .ok (.iload 6, 2) := by decide +kernel
theorem d_w_2165 : decode code 2165 = .ok (.ifCond .ne 15, 3) := by decide +kernel
theorem d_w_2168 : decode code 2168 = .ok (.aload_n 3, 1) := by decide +kernel
theorem d_w_2169 : decode code 2169 = .ok (.iconst 0, 1) := by decide +kernel
theorem d_w_2170 : decode code 2170 = .ok (.laload, 1) := by decide +kernel
theorem d_w_2171 : decode code 2171 = .ok (.iload 7, 2) := by decide +kernel
theorem d_w_2173 : decode code 2173 = .ok (.i2l, 1) := by decide +kernel
theorem d_w_2174 : decode code 2174 = .ok (.lcmp, 1) := by decide +kernel
theorem d_w_2175 : decode code 2175 = .ok (.ifCond .eq 5, 3) := by decide +kernel
theorem d_w_2178 : decode code 2178 = .ok (.iconst 0, 1) := by decide +kernel
theorem d_w_2179 : decode code 2179 = .ok (.ireturn, 1) := by decide +kernel
theorem d_w_2180 : decode code 2180 = .ok (.goto 59, 3) := by decide +kernel
theorem d_w_2183 : decode code 2183 = .ok (.aload_n 1, 1) := by decide +kernel
theorem d_w_2184 : decode code 2184 = .ok (.aload_n 0, 1) := by decide +kernel
theorem d_w_2185 : decode code 2185 = .ok (.iload 5, 2) := by decide +kernel
theorem d_w_2187 : decode code 2187 = .ok (.iconst 1, 1) := by decide +kernel
theorem d_w_2188 : decode code 2188 = .ok (.iadd, 1) := by decide +kernel
theorem d_w_2189 : decode code 2189 = .ok (.iaload, 1) := by decide +kernel
theorem d_w_2190 : decode code 2190 = .ok (.aload_n 3, 1) := by decide +kernel
theorem d_w_2191 : decode code 2191 = .ok (.invokestatic 278, 3) := by decide +kernel
theorem d_w_2194 : decode code 2194 = .ok (.istore 6, 2) := by decide +kernel
theorem d_w_2196 : decode code 2196 = .ok (.aload_n 2, 1) := by decide +kernel
theorem d_w_2197 : decode code 2197 = .ok (.aload_n 0, 1) := by decide +kernel
theorem d_w_2198 : decode code 2198 = .ok (.iload 5, 2) := by decide +kernel
theorem d_w_2200 : decode code 2200 = .ok (.iconst 1, 1) := by decide +kernel
theorem d_w_2201 : decode code 2201 = .ok (.iadd, 1) := by decide +kernel
theorem d_w_2202 : decode code 2202 = .ok (.iaload, 1) := by decide +kernel
theorem d_w_2203 : decode code 2203 = .ok (.invokevirtual 280, 3) := by decide +kernel
theorem d_w_2206 : decode code 2206 = .ok (.istore 7, 2) := by decide +kernel
theorem d_w_2208 : decode code 2208 = .ok (.aload_n 2, 1) := by decide +kernel
theorem d_w_2209 : decode code 2209 = .ok (.invokevirtual 114, 3) := by decide +kernel
theorem d_w_2212 : decode code 2212 = .ok (.iload 6, 2) := by decide +kernel
theorem d_w_2214 : decode code 2214 = .ok (.if_icmp .eq 5, 3) := by decide +kernel
theorem d_w_2217 : decode code 2217 = .ok (.iconst 0, 1) := by decide +kernel
theorem d_w_2218 : decode code 2218 = .ok (.ireturn, 1) := by decide +kernel
theorem d_w_2219 : decode code 2219 = .ok (.iload 6, 2) := by decide +kernel
theorem d_w_2221 : decode code 2221 = .ok (.ifCond .ne 15, 3) := by decide +kernel
theorem d_w_2224 : decode code 2224 = .ok (.aload_n 3, 1) := by decide +kernel
theorem d_w_2225 : decode code 2225 = .ok (.iconst 0, 1) := by decide +kernel
theorem d_w_2226 : decode code 2226 = .ok (.laload, 1) := by decide +kernel
theorem d_w_2227 : decode code 2227 = .ok (.iload 7, 2) := by decide +kernel
theorem d_w_2229 : decode code 2229 = .ok (.i2l, 1) := by decide +kernel
theorem d_w_2230 : decode code 2230 = .ok (.lcmp, 1) := by decide +kernel
theorem d_w_2231 : decode code 2231 = .ok (.ifCond .eq 5, 3) := by decide +kernel
theorem d_w_2234 : decode code 2234 = .ok (.iconst 0, 1) := by decide +kernel
theorem d_w_2235 : decode code 2235 = .ok (.ireturn, 1) := by decide +kernel
theorem d_w_2236 : decode code 2236 = .ok (.goto 3, 3) := by decide +kernel
theorem d_w_2239 : decode code 2239 = .ok (.iinc 5 6, 3) := by decide +kernel
theorem d_w_2242 : decode code 2242 = .ok (.goto (-2214), 3) := by decide +kernel
theorem d_w_2245 : decode code 2245 = .ok (.iconst 1, 1) := by decide +kernel
theorem d_w_2246 : decode code 2246 = .ok (.ireturn, 1) := by decide +kernel
