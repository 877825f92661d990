set_option maxRecDepth 100000 in
theorem d240_2063 : decode (xmb 240) 2063 = .ok (.invokestatic 215, 3) := by decide +kernel
set_option maxRecDepth 100000 in
theorem d240_2066 : decode (xmb 240) 2066 = .ok (.istore 5, 2) := by decide +kernel
set_option maxRecDepth 100000 in
theorem d240_2068 : decode (xmb 240) 2068 = .ok (.aload_n 2, 1) := by decide +kernel
set_option maxRecDepth 100000 in
theorem d240_2069 : decode (xmb 240) 2069 = .ok (.aload_n 0, 1) := by decide +kernel
set_option maxRecDepth 100000 in
theorem d240_2070 : decode (xmb 240) 2070 = .ok (.iload 4, 2) := by decide +kernel
set_option maxRecDepth 100000 in
theorem d240_2072 : decode (xmb 240) 2072 = .ok (.iconst 1, 1) := by decide +kernel
set_option maxRecDepth 100000 in
theorem d240_2073 : decode (xmb 240) 2073 = .ok (.iadd, 1) := by decide +kernel
set_option maxRecDepth 100000 in
theorem d240_2074 : decode (xmb 240) 2074 = .ok (.iaload, 1) := by decide +kernel
set_option maxRecDepth 100000 in
theorem d240_2075 : decode (xmb 240) 2075 = .ok (.invokevirtual 217, 3) := by decide +kernel
set_option maxRecDepth 100000 in
theorem d240_2078 : decode (xmb 240) 2078 = .ok (.istore 6, 2) := by decide +kernel
set_option maxRecDepth 100000 in
theorem d240_2080 : decode (xmb 240) 2080 = .ok (.aload_n 2, 1) := by decide +kernel
set_option maxRecDepth 100000 in
theorem d240_2081 : decode (xmb 240) 2081 = .ok (.invokevirtual 115, 3) := by decide +kernel
set_option maxRecDepth 100000 in
theorem d240_2084 : decode (xmb 240) 2084 = .ok (.iload 5, 2) := by decide +kernel
set_option maxRecDepth 100000 in
theorem d240_2086 : decode (xmb 240) 2086 = .ok (.if_icmp .eq 5, 3) := by decide +kernel
set_option maxRecDepth 100000 in
theorem d240_2089 : decode (xmb 240) 2089 = .ok (.iconst 0, 1) := by decide +kernel
set_option maxRecDepth 100000 in
theorem d240_2090 : decode (xmb 240) 2090 = .ok (.ireturn, 1) := by decide +kernel
set_option maxRecDepth 100000 in
theorem d240_2091 : decode (xmb 240) 2091 = .ok (.iload 5, 2) := by decide +kernel
set_option maxRecDepth 100000 in
theorem d240_2093 : decode (xmb 240) 2093 = .ok (.ifCond .ne 15, 3) := by decide +kernel
set_option maxRecDepth 100000 in
theorem d240_2096 : decode (xmb 240) 2096 = .ok (.aload_n 3, 1) := by decide +kernel
set_option maxRecDepth 100000 in
theorem d240_2097 : decode (xmb 240) 2097 = .ok (.iconst 0, 1) := by decide +kernel
set_option maxRecDepth 100000 in
theorem d240_2098 : decode (xmb 240) 2098 = .ok (.laload, 1) := by decide +kernel
set_option maxRecDepth 100000 in
theorem d240_2099 : decode (xmb 240) 2099 = .ok (.iload 6, 2) := by decide +kernel
set_option maxRecDepth 100000 in
theorem d240_2101 : decode (xmb 240) 2101 = .ok (.i2l, 1) := by decide +kernel
set_option maxRecDepth 100000 in
theorem d240_2102 : decode (xmb 240) 2102 = .ok (.lcmp, 1) := by decide +kernel
set_option maxRecDepth 100000 in
theorem d240_2103 : decode (xmb 240) 2103 = .ok (.ifCond .eq 5, 3) := by decide +kernel
set_option maxRecDepth 100000 in
theorem d240_2106 : decode (xmb 240) 2106 = .ok (.iconst 0, 1) := by decide +kernel
set_option maxRecDepth 100000 in
theorem d240_2107 : decode (xmb 240) 2107 = .ok (.ireturn, 1) := by decide +kernel
set_option maxRecDepth 100000 in
theorem d240_2108 : decode (xmb 240) 2108 = .ok (.goto 3, 3) := by decide +kernel
set_option maxRecDepth 100000 in
theorem d240_2111 : decode (xmb 240) 2111 = .ok (.iinc 4 4, 3) := by decide +kernel
set_option maxRecDepth 100000 in
theorem d240_2114 : decode (xmb 240) 2114 = .ok (.goto (-2091), 3) := by decide +kernel
set_option maxRecDepth 100000 in
theorem d240_2117 : decode (xmb 240) 2117 = .ok (.iconst 1, 1) := by decide +kernel
set_option maxRecDepth 100000 in
theorem d240_2118 : decode (xmb 240) 2118 = .ok (.ireturn, 1) := by decide +kernel
