theorem d_w_1963 : decode code 1963 = .ok (.goto 276, 3) := by decide +kernel
theorem d_w_1966 : decode code 1966 = .ok (.aload_n 1, 1) := by decide +kernel
theorem d_w_1967 : decode code 1967 = .ok (.aload_n 0, 1) := by decide +kernel
theorem d_w_1968 : decode code 1968 = .ok (.iload 5, 2) := by decide +kernel
theorem d_w_1970 : decode code 1970 = .ok (.iconst 1, 1) := by decide +kernel
theorem d_w_1971 : decode code 1971 = .ok (.iadd, 1) := by decide +kernel
theorem d_w_1972 : decode code 1972 = .ok (.iaload, 1) := by decide +kernel
theorem d_w_1973 : decode code 1973 = .ok (.aload_n 3, 1) := by decide +kernel
theorem d_w_1974 : decode code 1974 = .ok (.invokestatic 252, 3) := by decide +kernel
theorem d_w_1977 : decode code 1977 = .ok (.istore 6, 2) := by decide +kernel
theorem d_w_1979 : decode code 1979 = .ok (.aload_n 2, 1) := by decide +kernel
theorem d_w_1980 : decode code 1980 = .ok (.aload_n 0, 1) := by decide +kernel
theorem d_w_1981 : decode code 1981 = .ok (.iload 5, 2) := by decide +kernel
theorem d_w_1983 : decode code 1983 = .ok (.iconst 1, 1) := by decide +kernel
theorem d_w_1984 : decode code 1984 = .ok (.iadd, 1) := by decide +kernel
theorem d_w_1985 : decode code 1985 = .ok (.iaload, 1) := by decide +kernel
theorem d_w_1986 : decode code 1986 = .ok (.invokevirtual 254, 3) := by decide +kernel
theorem d_w_1989 : decode code 1989 = .ok (.istore 7, 2) := by decide +kernel
theorem d_w_1991 : decode code 1991 = .ok (.aload_n 2, 1) := by decide +kernel
theorem d_w_1992 : decode code 1992 = .ok (.invokevirtual 114, 3) := by decide +kernel
theorem d_w_1995 : decode code 1995 = .ok (.iload 6, 2) := by decide +kernel
theorem d_w_1997 : decode code 1997 = .ok (.if_icmp .eq 5, 3) := by decide +kernel
theorem d_w_2000 : decode code 2000 = .ok (.iconst 0, 1) := by decide +kernel
theorem d_w_2001 : decode code 2001 = .ok (.ireturn, 1) := by decide +kernel
theorem d_w_2002 : decode code 2002 = .ok (.iload 6, 2) := by decide +kernel
theorem d_w_2004 : decode code 2004 = .ok (.ifCond .ne 15, 3) := by decide +kernel
theorem d_w_2007 : decode code 2007 = .ok (.aload_n 3, 1) := by decide +kernel
theorem d_w_2008 : decode code 2008 = .ok (.iconst 0, 1) := by decide +kernel
theorem d_w_2009 : decode code 2009 = .ok (.laload, 1) := by decide +kernel
theorem d_w_2010 : decode code 2010 = .ok (.iload 7, 2) := by decide +kernel
theorem d_w_2012 : decode code 2012 = .ok (.i2l, 1) := by decide +kernel
theorem d_w_2013 : decode code 2013 = .ok (.lcmp, 1) := by decide +kernel
theorem d_w_2014 : decode code 2014 = .ok (.ifCond .eq 5, 3) := by decide +kernel
theorem d_w_2017 : decode code 2017 = .ok (.iconst 0, 1) := by decide +kernel
theorem d_w_2018 : decode code 2018 = .ok (.ireturn, 1) := by decide +kernel
theorem d_w_2019 : decode code 2019 = .ok (.goto 220, 3) := by decide +kernel
theorem d_w_2022 : decode code 2022 = .ok (.aload_n 1, 1) := by decide +kernel
theorem d_w_2023 : decode code 2023 = .ok (.invokevirtual 255, 3) := by decide +kernel
theorem d_w_2026 : decode code 2026 = .ok (.aload_n 2, 1) := by decide +kernel
theorem d_w_2027 : decode code 2027 = .ok (.invokevirtual 258, 3) := by decide +kernel
theorem d_w_2030 : decode code 2030 = .ok (.if_icmp .eq 209, 3) := by decide +kernel
theorem d_w_2033 : decode code 2033 = .ok (.iconst 0, 1) := by decide +kernel
theorem d_w_2034 : decode code 2034 = .ok (.ireturn, 1) := by decide +kernel
theorem d_w_2035 : decode code 2035 = .ok (.aload_n 1, 1) := by decide +kernel
theorem d_w_2036 : decode code 2036 = .ok (.aload_n 0, 1) := by decide +kernel
theorem d_w_2037 : decode code 2037 = .ok (.iload 5, 2) := by decide +kernel
theorem d_w_2039 : decode code 2039 = .ok (.iconst 1, 1) := by decide +kernel
theorem d_w_2040 : decode code 2040 = .ok (.iadd, 1) := by decide +kernel
theorem d_w_2041 : decode code 2041 = .ok (.iaload, 1) := by decide +kernel
theorem d_w_2042 : decode code 2042 = .ok (.ifCond .eq 7, 3) := by decide +kernel
theorem d_w_2045 : decode code 2045 = .ok (.iconst 1, 1) := by decide +kernel
theorem d_w_2046 : decode code 2046 = .ok (.goto 4, 3) := by decide +kernel
theorem d_w_2049 : decode code 2049 = .ok (.iconst 0, 1) := by decide +kernel
theorem d_w_2050 : decode code 2050 = .ok (.invokevirtual 259, 3) := by decide +kernel
theorem d_w_2053 : decode code 2053 = .ok (.aload_n 2, 1) := by decide +kernel
theorem d_w_2054 : decode code 2054 = .ok (.aload_n 0, 1) := by decide +kernel
theorem d_w_2055 : decode code 2055 = .ok (.iload 5, 2) := by decide +kernel
theorem d_w_2057 : decode code 2057 = .ok (.iconst 1, 1) := by decide +kernel
theorem d_w_2058 : decode code 2058 = .ok (.iadd, 1) := by decide +kernel
theorem d_w_2059 : decode code 2059 = .ok (.iaload, 1) := by decide +kernel
theorem d_w_2060 : decode code 2060 = .ok (.ifCond .eq 7, 3) := by decide +kernel
theorem d_w_2063 : decode code 2063 = .ok (.iconst 1, 1) := by decide +kernel
theorem d_w_2064 : decode code 2064 = .ok (.goto 4, 3) := by decide +kernel
theorem d_w_2067 : decode code 2067 = .ok (.iconst 0, 1) := by decide +kernel
theorem d_w_2068 : decode code 2068 = .ok (.invokevirtual 262, 3) := by decide +kernel
theorem d_w_2071 : decode code 2071 = .ok (.if_icmp .eq 168, 3) := by decide +kernel
theorem d_w_2074 : decode code 2074 = .ok (.iconst 0, 1) := by decide +kernel
theorem d_w_2075 : decode code 2075 = .ok (.ireturn, 1) := by decide +kernel
theorem d_w_2076 : decode code 2076 = .ok (.aload_n 1, 1) := by decide +kernel
theorem d_w_2077 : decode code 2077 = .ok (.invokevirtual 263, 3) := by decide +kernel
theorem d_w_2080 : decode code 2080 = .ok (.aload_n 2, 1) := by decide +kernel
theorem d_w_2081 : decode code 2081 = .ok (.invokevirtual 266, 3) := by decide +kernel
theorem d_w_2084 : decode code 2084 = .ok (.if_icmp .eq 155, 3) := by decide +kernel
theorem d_w_2087 : decode code 2087 = .ok (.iconst 0, 1) := by decide +kernel
theorem d_w_2088 : decode code 2088 = .ok (.ireturn, 1) := by decide +kernel
theorem d_w_2089 : decode code 2089 = .ok (.aload_n 1, 1) := by decide +kernel
theorem d_w_2090 : decode code 2090 = .ok (.aload_n 0, 1) := by decide +kernel
theorem d_w_2091 : decode code 2091 = .ok (.iload 5, 2) := by decide +kernel
theorem d_w_2093 : decode code 2093 = .ok (.iconst 1, 1) := by decide +kernel
theorem d_w_2094 : decode code 2094 = .ok (.iadd, 1) := by decide +kernel
theorem d_w_2095 : decode code 2095 = .ok (.iaload, 1) := by decide +kernel
theorem d_w_2096 : decode code 2096 = .ok (.invokevirtual 267, 3) := by decide +kernel
theorem d_w_2099 : decode code 2099 = .ok (.aload_n 2, 1) := by decide +kernel
theorem d_w_2100 : decode code 2100 = .ok (.aload_n 0, 1) := by decide +kernel
theorem d_w_2101 : decode code 2101 = .ok (.iload 5, 2) := by decide +kernel
theorem d_w_2103 : decode code 2103 = .ok (.iconst 1, 1) := by decide +kernel
theorem d_w_2104 : decode code 2104 = .ok (.iadd, 1) := by decide +kernel
theorem d_w_2105 : decode code 2105 = .ok (.iaload, 1) := by decide +kernel
theorem d_w_2106 : decode code 2106 = .ok (.invokevirtual 270, 3) := by decide +kernel
theorem d_w_2109 : decode code 2109 = .ok (.if_icmp .eq 130, 3) := by decide +kernel
theorem d_w_2112 : decode code 2112 = .ok (.iconst 0, 1) := by decide +kernel
theorem d_w_2113 : decode code 2113 = .ok (.ireturn, 1) := by decide +kernel
theorem d_w_2114 : decode code 2114 = .ok (.aload_n 1, 1) := by decide +kernel
theorem d_w_2115 : decode code 2115 = .ok (.invokevirtual 271, 3) := by decide +kernel
theorem d_w_2118 : decode code 2118 = .ok (.aload_n 2, 1) := by decide +kernel
theorem d_w_2119 : decode code 2119 = .ok (.invokevirtual 274, 3) := by decide +kernel
theorem d_w_2122 : decode code 2122 = .ok (.if_icmp .eq 117, 3) := by decide +kernel
theorem d_w_2125 : decode code 2125 = .ok (.iconst 0, 1) := by decide +kernel
theorem d_w_2126 : decode code 2126 = .ok (.ireturn, 1) := by decide +kernel
theorem d_w_2127 : decode code 2127 = .ok (.aload_n 1, 1) := by decide +kernel
theorem d_w_2128 : decode code 2128 = .ok (.aload_n 0, 1) := by decide +kernel
theorem d_w_2129 : decode code 2129 = .ok (.iload 5, 2) := by decide +kernel
theorem d_w_2131 : decode code 2131 = .ok (.iconst 1, 1) := by decide +kernel
theorem d_w_2132 : decode code 2132 = .ok (.iadd, 1) := by decide +kernel
theorem d_w_2133 : decode code 2133 = .ok (.iaload, 1) := by decide +kernel
theorem d_w_2134 : decode code 2134 = .ok (.aload_n 3, 1) := by decide +kernel
theorem d_w_2135 : decode code 2135 = .ok (.invokestatic 275, 3) := by decide +kernel
theorem d_w_2138 : decode code 2138 = .ok (.istore 6, 2) := by decide +kernel
theorem d_w_2140 : decode code 2140 = .ok (.aload_n 2, 1) := by decide +kernel
theorem d_w_2141 : decode code 2141 = .ok (.aload_n 0, 1) := by decide +kernel
