theorem d_L_1869 : decode code 1869 = .ok (.iaload, 1) := by decide +kernel
theorem d_L_1870 : decode code 1870 = .ok (.invokevirtual 198, 3) := by decide +kernel
theorem d_L_1873 : decode code 1873 = .ok (.pop, 1) := by decide +kernel
theorem d_L_1874 : decode code 1874 = .ok (.goto 532, 3) := by decide +kernel
theorem d_L_1877 : decode code 1877 = .ok (.aload_n 1, 1) := by decide +kernel
theorem d_L_1878 : decode code 1878 = .ok (.aload_n 0, 1) := by decide +kernel
theorem d_L_1879 : decode code 1879 = .ok (.iload 4, 2) := by decide +kernel
theorem d_L_1881 : decode code 1881 = .ok (.iconst 1, 1) := by decide +kernel
theorem d_L_1882 : decode code 1882 = .ok (.iadd, 1) := by decide +kernel
theorem d_L_1883 : decode code 1883 = .ok (.iaload, 1) := by decide +kernel
theorem d_L_1884 : decode code 1884 = .ok (.aload_n 0, 1) := by decide +kernel
theorem d_L_1885 : decode code 1885 = .ok (.iload 4, 2) := by decide +kernel
theorem d_L_1887 : decode code 1887 = .ok (.iconst 2, 1) := by decide +kernel
theorem d_L_1888 : decode code 1888 = .ok (.iadd, 1) := by decide +kernel
theorem d_L_1889 : decode code 1889 = .ok (.iaload, 1) := by decide +kernel
theorem d_L_1890 : decode code 1890 = .ok (.aload_n 0, 1) := by decide +kernel
theorem d_L_1891 : decode code 1891 = .ok (.iload 4, 2) := by decide +kernel
theorem d_L_1893 : decode code 1893 = .ok (.iconst 3, 1) := by decide +kernel
theorem d_L_1894 : decode code 1894 = .ok (.iadd, 1) := by decide +kernel
theorem d_L_1895 : decode code 1895 = .ok (.iaload, 1) := by decide +kernel
theorem d_L_1896 : decode code 1896 = .ok (.invokevirtual 199, 3) := by decide +kernel
theorem d_L_1899 : decode code 1899 = .ok (.pop, 1) := by decide +kernel
theorem d_L_1900 : decode code 1900 = .ok (.aload_n 2, 1) := by decide +kernel
theorem d_L_1901 : decode code 1901 = .ok (.aload_n 0, 1) := by decide +kernel
theorem d_L_1902 : decode code 1902 = .ok (.iload 4, 2) := by decide +kernel
theorem d_L_1904 : decode code 1904 = .ok (.iconst 1, 1) := by decide +kernel
theorem d_L_1905 : decode code 1905 = .ok (.iadd, 1) := by decide +kernel
theorem d_L_1906 : decode code 1906 = .ok (.iaload, 1) := by decide +kernel
theorem d_L_1907 : decode code 1907 = .ok (.aload_n 0, 1) := by decide +kernel
theorem d_L_1908 : decode code 1908 = .ok (.iload 4, 2) := by decide +kernel
theorem d_L_1910 : decode code 1910 = .ok (.iconst 2, 1) := by decide +kernel
theorem d_L_1911 : decode code 1911 = .ok (.iadd, 1) := by decide +kernel
theorem d_L_1912 : decode code 1912 = .ok (.iaload, 1) := by decide +kernel
theorem d_L_1913 : decode code 1913 = .ok (.aload_n 0, 1) := by decide +kernel
theorem d_L_1914 : decode code 1914 = .ok (.iload 4, 2) := by decide +kernel
theorem d_L_1916 : decode code 1916 = .ok (.iconst 3, 1) := by decide +kernel
theorem d_L_1917 : decode code 1917 = .ok (.iadd, 1) := by decide +kernel
theorem d_L_1918 : decode code 1918 = .ok (.iaload, 1) := by decide +kernel
theorem d_L_1919 : decode code 1919 = .ok (.invokevirtual 202, 3) := by decide +kernel
theorem d_L_1922 : decode code 1922 = .ok (.pop, 1) := by decide +kernel
theorem d_L_1923 : decode code 1923 = .ok (.goto 483, 3) := by decide +kernel
theorem d_L_1926 : decode code 1926 = .ok (.aload_n 1, 1) := by decide +kernel
theorem d_L_1927 : decode code 1927 = .ok (.aload_n 0, 1) := by decide +kernel
theorem d_L_1928 : decode code 1928 = .ok (.iload 4, 2) := by decide +kernel
theorem d_L_1930 : decode code 1930 = .ok (.iconst 1, 1) := by decide +kernel
theorem d_L_1931 : decode code 1931 = .ok (.iadd, 1) := by decide +kernel
theorem d_L_1932 : decode code 1932 = .ok (.iaload, 1) := by decide +kernel
theorem d_L_1933 : decode code 1933 = .ok (.invokevirtual 203, 3) := by decide +kernel
theorem d_L_1936 : decode code 1936 = .ok (.pop, 1) := by decide +kernel
theorem d_L_1937 : decode code 1937 = .ok (.aload_n 2, 1) := by decide +kernel
theorem d_L_1938 : decode code 1938 = .ok (.aload_n 0, 1) := by decide +kernel
theorem d_L_1939 : decode code 1939 = .ok (.iload 4, 2) := by decide +kernel
theorem d_L_1941 : decode code 1941 = .ok (.iconst 1, 1) := by decide +kernel
theorem d_L_1942 : decode code 1942 = .ok (.iadd, 1) := by decide +kernel
theorem d_L_1943 : decode code 1943 = .ok (.iaload, 1) := by decide +kernel
theorem d_L_1944 : decode code 1944 = .ok (.invokevirtual 206, 3) := by decide +kernel
theorem d_L_1947 : decode code 1947 = .ok (.pop, 1) := by decide +kernel
theorem d_L_1948 : decode code 1948 = .ok (.goto 458, 3) := by decide +kernel
theorem d_L_1951 : decode code 1951 = .ok (.aload_n 1, 1) := by decide +kernel
theorem d_L_1952 : decode code 1952 = .ok (.aload_n 0, 1) := by decide +kernel
theorem d_L_1953 : decode code 1953 = .ok (.iload 4, 2) := by decide +kernel
theorem d_L_1955 : decode code 1955 = .ok (.iconst 1, 1) := by decide +kernel
theorem d_L_1956 : decode code 1956 = .ok (.iadd, 1) := by decide +kernel
theorem d_L_1957 : decode code 1957 = .ok (.iaload, 1) := by decide +kernel
theorem d_L_1958 : decode code 1958 = .ok (.invokevirtual 207, 3) := by decide +kernel
theorem d_L_1961 : decode code 1961 = .ok (.pop, 1) := by decide +kernel
theorem d_L_1962 : decode code 1962 = .ok (.aload_n 2, 1) := by decide +kernel
theorem d_L_1963 : decode code 1963 = .ok (.aload_n 0, 1) := by decide +kernel
theorem d_L_1964 : decode code 1964 = .ok (.iload 4, 2) := by decide +kernel
theorem d_L_1966 : decode code 1966 = .ok (.iconst 1, 1) := by decide +kernel
theorem d_L_1967 : decode code 1967 = .ok (.iadd, 1) := by decide +kernel
theorem d_L_1968 : decode code 1968 = .ok (.iaload, 1) := by decide +kernel
theorem d_L_1969 : decode code 1969 = .ok (.invokevirtual 210, 3) := by decide +kernel
theorem d_L_1972 : decode code 1972 = .ok (.pop, 1) := by decide +kernel
theorem d_L_1973 : decode code 1973 = .ok (.goto 433, 3) := by decide +kernel
theorem d_L_1976 : decode code 1976 = .ok (.aload_n 1, 1) := by decide +kernel
theorem d_L_1977 : decode code 1977 = .ok (.invokevirtual 211, 3) := by decide +kernel
theorem d_L_1980 : decode code 1980 = .ok (.aload_n 2, 1) := by decide +kernel
theorem d_L_1981 : decode code 1981 = .ok (.invokevirtual 214, 3) := by decide +kernel
theorem d_L_1984 : decode code 1984 = .ok (.goto 422, 3) := by decide +kernel
theorem d_L_1987 : decode code 1987 = .ok (.aload_n 1, 1) := by decide +kernel
theorem d_L_1988 : decode code 1988 = .ok (.aload_n 0, 1) := by decide +kernel
theorem d_L_1989 : decode code 1989 = .ok (.iload 4, 2) := by decide +kernel
theorem d_L_1991 : decode code 1991 = .ok (.iconst 1, 1) := by decide +kernel
theorem d_L_1992 : decode code 1992 = .ok (.iadd, 1) := by decide +kernel
theorem d_L_1993 : decode code 1993 = .ok (.iaload, 1) := by decide +kernel
theorem d_L_1994 : decode code 1994 = .ok (.invokevirtual 215, 3) := by decide +kernel
theorem d_L_1997 : decode code 1997 = .ok (.pop, 1) := by decide +kernel
theorem d_L_1998 : decode code 1998 = .ok (.aload_n 2, 1) := by decide +kernel
theorem d_L_1999 : decode code 1999 = .ok (.aload_n 0, 1) := by decide +kernel
theorem d_L_2000 : decode code 2000 = .ok (.iload 4, 2) := by decide +kernel
theorem d_L_2002 : decode code 2002 = .ok (.iconst 1, 1) := by decide +kernel
theorem d_L_2003 : decode code 2003 = .ok (.iadd, 1) := by decide +kernel
theorem d_L_2004 : decode code 2004 = .ok (.iaload, 1) := by decide +kernel
theorem d_L_2005 : decode code 2005 = .ok (.invokevirtual 218, 3) := by decide +kernel
theorem d_L_2008 : decode code 2008 = .ok (.pop, 1) := by decide +kernel
theorem d_L_2009 : decode code 2009 = .ok (.goto 397, 3) := by decide +kernel
theorem d_L_2012 : decode code 2012 = .ok (.aload_n 1, 1) := by decide +kernel
theorem d_L_2013 : decode code 2013 = .ok (.aload_n 0, 1) := by decide +kernel
theorem d_L_2014 : decode code 2014 = .ok (.iload 4, 2) := by decide +kernel
theorem d_L_2016 : decode code 2016 = .ok (.iconst 1, 1) := by decide +kernel
theorem d_L_2017 : decode code 2017 = .ok (.iadd, 1) := by decide +kernel
theorem d_L_2018 : decode code 2018 = .ok (.iaload, 1) := by decide +kernel
theorem d_L_2019 : decode code 2019 = .ok (.aload_n 0, 1) := by decide +kernel
theorem d_L_2020 : decode code 2020 = .ok (.iload 4, 2) := by decide +kernel
theorem d_L_2022 : decode code 2022 = .ok (.iconst 2, 1) := by decide +kernel
theorem d_L_2023 : decode code 2023 = .ok (.iadd, 1) := by decide +kernel
theorem d_L_2024 : decode code 2024 = .ok (.iaload, 1) := by decide +kernel
theorem d_L_2025 : decode code 2025 = .ok (.aload_n 0, 1) := by decide +kernel
theorem d_L_2026 : decode code 2026 = .ok (.iload 4, 2) := by decide +kernel
theorem d_L_2028 : decode code 2028 = .ok (.iconst 3, 1) := by decide +kernel
theorem d_L_2029 : decode code 2029 = .ok (.iadd, 1) := by decide +kernel
theorem d_L_2030 : decode code 2030 = .ok (.iaload, 1) := by decide +kernel
theorem d_L_2031 : decode code 2031 = .ok (.invokevirtual 219, 3) := by decide +kernel
theorem d_L_2034 : decode code 2034 = .ok (.pop, 1) := by decide +kernel
theorem d_L_2035 : decode code 2035 = .ok (.aload_n 2, 1) := by decide +kernel
theorem d_L_2036 : decode code 2036 = .ok (.aload_n 0, 1) := by decide +kernel
theorem d_L_2037 : decode code 2037 = .ok (.iload 4, 2) := by decide +kernel
theorem d_L_2039 : decode code 2039 = .ok (.iconst 1, 1) := by decide +kernel
theorem d_L_2040 : decode code 2040 = .ok (.iadd, 1) := by decide +kernel
theorem d_L_2041 : decode code 2041 = .ok (.iaload, 1) := by decide +kernel
theorem d_L_2042 : decode code 2042 = .ok (.aload_n 0, 1) := by decide +kernel
theorem d_L_2043 : decode code 2043 = .ok (.iload 4, 2) := by decide +kernel
theorem d_L_2045 : decode code 2045 = .ok (.iconst 2, 1) := by decide +kernel
theorem d_L_2046 : decode code 2046 = .ok (.iadd, 1) := by decide +kernel
theorem d_L_2047 : decode code 2047 = .ok (.iaload, 1) := by decide +kernel
theorem d_L_2048 : decode code 2048 = .ok (.aload_n 0, 1) := by decide +kernel
theorem d_L_2049 : decode code 2049 = .ok (.iload 4, 2) := by decide +kernel
theorem d_L_2051 : decode code 2051 = .ok (.iconst 3, 1) := by decide +kernel
theorem d_L_2052 : decode code 2052 = .ok (.iadd, 1) := by decide +kernel
theorem d_L_2053 : decode code 2053 = .ok (.iaload, 1) := by decide +kernel
theorem d_L_2054 : decode code 2054 = .ok (.invokevirtual 222, 3) := by decide +kernel
theorem d_L_2057 : decode code 2057 = .ok (.pop, 1) := by decide +kernel
theorem d_L_2058 : decode code 2058 = .ok (.goto 348, 3) := by decide +kernel
theorem d_L_2061 : decode code 2061 = .ok (.aload_n 1, 1) := by decide +kernel
theorem d_L_2062 : decode code 2062 = .ok (.aload_n 0, 1) := by decide +kernel
theorem d_L_2063 : decode code 2063 = .ok (.iload 4, 2) := by decide +kernel
theorem d_L_2065 : decode code 2065 = .ok (.iconst 1, 1) := by decide +kernel
theorem d_L_2066 : decode code 2066 = .ok (.iadd, 1) := by decide +kernel
theorem d_L_2067 : decode code 2067 = .ok (.iaload, 1) := by decide +kernel
theorem d_L_2068 : decode code 2068 = .ok (.aload_n 0, 1) := by decide +kernel
theorem d_L_2069 : decode code 2069 = .ok (.iload 4, 2) := by decide +kernel
theorem d_L_2071 : decode code 2071 = .ok (.iconst 2, 1) := by decide +kernel
theorem d_L_2072 : decode code 2072 = .ok (.iadd, 1) := by decide +kernel
theorem d_L_2073 : decode code 2073 = .ok (.iaload, 1) := by decide +kernel
theorem d_L_2074 : decode code 2074 = .ok (.aload_n 0, 1) := by decide +kernel
theorem d_L_2075 : decode code 2075 = .ok (.iload 4, 2) := by decide +kernel
theorem d_L_2077 : decode code 2077 = .ok (.iconst 3, 1) := by decide +kernel
theorem d_L_2078 : decode code 2078 = .ok (.iadd, 1) := by decide +kernel
theorem d_L_2079 : decode code 2079 = .ok (.iaload, 1) := by decide +kernel
theorem d_L_2080 : decode code 2080 = .ok (.invokevirtual 223, 3) := by decide +kernel
theorem d_L_2083 : decode code 2083 = .ok (.pop, 1) := by decide +kernel
theorem d_L_2084 : decode code 2084 = .ok (.aload_n 2, 1) := by decide +kernel
theorem d_L_2085 : decode code 2085 = .ok (.aload_n 0, 1) := by decide +kernel
theorem d_L_2086 : decode code 2086 = .ok (.iload 4, 2) := by decide +kernel
theorem d_L_2088 : decode code 2088 = .ok (.iconst 1, 1) := by decide +kernel
theorem d_L_2089 : decode code 2089 = .ok (.iadd, 1) := by decide +kernel
theorem d_L_2090 : decode code 2090 = .ok (.iaload, 1) := by decide +kernel
theorem d_L_2091 : decode code 2091 = .ok (.aload_n 0, 1) := by decide +kernel
theorem d_L_2092 : decode code 2092 = .ok (.iload 4, 2) := by decide +kernel
theorem d_L_2094 : decode code 2094 = .ok (.iconst 2, 1) := by decide +kernel
theorem d_L_2095 : decode code 2095 = .ok (.iadd, 1) := by decide +kernel
theorem d_L_2096 : decode code 2096 = .ok (.iaload, 1) := by decide +kernel
theorem d_L_2097 : decode code 2097 = .ok (.aload_n 0, 1) := by decide +kernel
theorem d_L_2098 : decode code 2098 = .ok (.iload 4, 2) := by decide +kernel
theorem d_L_2100 : decode code 2100 = .ok (.iconst 3, 1) := by decide +kernel
theorem d_L_2101 : decode code 2101 = .ok (.iadd, 1) := by decide +kernel
theorem d_L_2102 : decode code 2102 = .ok (.iaload, 1) := by decide +kernel
theorem d_L_2103 : decode code 2103 = .ok (.invokevirtual 226, 3) := by decide +kernel
theorem d_L_2106 : decode code 2106 = .ok (.pop, 1) := by decide +kernel
theorem d_L_2107 : decode code 2107 = .ok (.goto 299, 3) := by decide +kernel
theorem d_L_2110 : decode code 2110 = .ok (.aload_n 1, 1) := by decide +kernel
theorem d_L_2111 : decode code 2111 = .ok (.aload_n 0, 1) := by decide +kernel
theorem d_L_2112 : decode code 2112 = .ok (.iload 4, 2) := by decide +kernel
theorem d_L_2114 : decode code 2114 = .ok (.iconst 1, 1) := by decide +kernel
theorem d_L_2115 : decode code 2115 = .ok (.iadd, 1) := by decide +kernel
theorem d_L_2116 : decode code 2116 = .ok (.iaload, 1) := by decide +kernel
theorem d_L_2117 : decode code 2117 = .ok (.aload_n 0, 1) := by decide +kernel
theorem d_L_2118 : decode code 2118 = .ok (.iload 4, 2) := by decide +kernel
theorem d_L_2120 : decode code 2120 = .ok (.iconst 2, 1) := by decide +kernel
theorem d_L_2121 : decode code 2121 = .ok (.iadd, 1) := by decide +kernel
theorem d_L_2122 : decode code 2122 = .ok (.iaload, 1) := by decide +kernel
theorem d_L_2123 : decode code 2123 = .ok (.aload_n 0, 1) := by decide +kernel
theorem d_L_2124 : decode code 2124 = .ok (.iload 4, 2) := by decide +kernel
theorem d_L_2126 : decode code 2126 = .ok (.iconst 3, 1) := by decide +kernel
theorem d_L_2127 : decode code 2127 = .ok (.iadd, 1) := by decide +kernel
theorem d_L_2128 : decode code 2128 = .ok (.iaload, 1) := by decide +kernel
theorem d_L_2129 : decode code 2129 = .ok (.invokevirtual 227, 3) := by decide +kernel
theorem d_L_2132 : decode code 2132 = .ok (.pop, 1) := by decide +kernel
theorem d_L_2133 : decode code 2133 = .ok (.aload_n 2, 1) := by decide +kernel
theorem d_L_2134 : decode code 2134 = .ok (.aload_n 0, 1) := by decide +kernel
theorem d_L_2135 : decode code 2135 = .ok (.iload 4, 2) := by decide +kernel
theorem d_L_2137 : decode code 2137 = .ok (.iconst 1, 1) := by decide +kernel
theorem d_L_2138 : decode code 2138 = .ok (.iadd, 1) := by decide +kernel
theorem d_L_2139 : decode code 2139 = .ok (.iaload, 1) := by decide +kernel
theorem d_L_2140 : decode code 2140 = .ok (.aload_n 0, 1) := by decide +kernel
theorem d_L_2141 : decode code 2141 = .ok (.iload 4, 2) := by decide +kernel
theorem d_L_2143 : decode code 2143 = .ok (.iconst 2, 1) := by decide +kernel
theorem d_L_2144 : decode code 2144 = .ok (.iadd, 1) := by decide +kernel
theorem d_L_2145 : decode code 2145 = .ok (.iaload, 1) := by decide +kernel
theorem d_L_2146 : decode code 2146 = .ok (.aload_n 0, 1) := by decide +kernel
theorem d_L_2147 : decode code 2147 = .ok (.iload 4, 2) := by decide +kernel
theorem d_L_2149 : decode code 2149 = .ok (.iconst 3, 1) := by decide +kernel
theorem d_L_2150 : decode code 2150 = .ok (.iadd, 1) := by decide +kernel
theorem d_L_2151 : decode code 2151 = .ok (.iaload, 1) := by decide +kernel
theorem d_L_2152 : decode code 2152 = .ok (.invokevirtual 230, 3) := by decide +kernel
theorem d_L_2155 : decode code 2155 = .ok (.pop, 1) := by decide +kernel
theorem d_L_2156 : decode code 2156 = .ok (.goto 250, 3) := by decide +kernel
theorem d_L_2159 : decode code 2159 = .ok (.aload_n 1, 1) := by decide +kernel
theorem d_L_2160 : decode code 2160 = .ok (.invokevirtual 231, 3) := by decide +kernel
theorem d_L_2163 : decode code 2163 = .ok (.pop, 1) := by decide +kernel
theorem d_L_2164 : decode code 2164 = .ok (.aload_n 2, 1) := by decide +kernel
theorem d_L_2165 : decode code 2165 = .ok (.invokevirtual 234, 3) := by decide +kernel
theorem d_L_2168 : decode code 2168 = .ok (.pop, 1) := by decide +kernel
theorem d_L_2169 : decode code 2169 = .ok (.goto 237, 3) := by decide +kernel
theorem d_L_2172 : decode code 2172 = .ok (.aload_n 1, 1) := by decide +kernel
theorem d_L_2173 : decode code 2173 = .ok (.aload_n 0, 1) := by decide +kernel
theorem d_L_2174 : decode code 2174 = .ok (.iload 4, 2) := by decide +kernel
theorem d_L_2176 : decode code 2176 = .ok (.iconst 1, 1) := by decide +kernel
theorem d_L_2177 : decode code 2177 = .ok (.iadd, 1) := by decide +kernel
theorem d_L_2178 : decode code 2178 = .ok (.iaload, 1) := by decide +kernel
theorem d_L_2179 : decode code 2179 = .ok (.aload_n 0, 1) := by decide +kernel
theorem d_L_2180 : decode code 2180 = .ok (.iload 4, 2) := by decide +kernel
theorem d_L_2182 : decode code 2182 = .ok (.iconst 2, 1) := by decide +kernel
theorem d_L_2183 : decode code 2183 = .ok (.iadd, 1) := by decide +kernel
theorem d_L_2184 : decode code 2184 = .ok (.iaload, 1) := by decide +kernel
theorem d_L_2185 : decode code 2185 = .ok (.invokevirtual 235, 3) := by decide +kernel
theorem d_L_2188 : decode code 2188 = .ok (.pop, 1) := by decide +kernel
theorem d_L_2189 : decode code 2189 = .ok (.aload_n 2, 1) := by decide +kernel
theorem d_L_2190 : decode code 2190 = .ok (.aload_n 0, 1) := by decide +kernel
theorem d_L_2191 : decode code 2191 = .ok (.iload 4, 2) := by decide +kernel
theorem d_L_2193 : decode code 2193 = .ok (.iconst 1, 1) := by decide +kernel
theorem d_L_2194 : decode code 2194 = .ok (.iadd, 1) := by decide +kernel
theorem d_L_2195 : decode code 2195 = .ok (.iaload, 1) := by decide +kernel
theorem d_L_2196 : decode code 2196 = .ok (.aload_n 0, 1) := by decide +kernel
theorem d_L_2197 : decode code 2197 = .ok (.iload 4, 2) := by decide +kernel
theorem d_L_2199 : decode code 2199 = .ok (.iconst 2, 1) := by decide +kernel
theorem d_L_2200 : decode code 2200 = .ok (.iadd, 1) := by decide +kernel
theorem d_L_2201 : decode code 2201 = .ok (.iaload, 1) := by decide +kernel
theorem d_L_2202 : decode code 2202 = .ok (.invokevirtual 238, 3) := by decide +kernel
theorem d_L_2205 : decode code 2205 = .ok (.pop, 1) := by decide +kernel
theorem d_L_2206 : decode code 2206 = .ok (.goto 200, 3) := by decide +kernel
theorem d_L_2209 : decode code 2209 = .ok (.aload_n 1, 1) := by decide +kernel
theorem d_L_2210 : decode code 2210 = .ok (.aload_n 0, 1) := by decide +kernel
theorem d_L_2211 : decode code 2211 = .ok (.iload 4, 2) := by decide +kernel
theorem d_L_2213 : decode code 2213 = .ok (.iconst 1, 1) := by decide +kernel
theorem d_L_2214 : decode code 2214 = .ok (.iadd, 1) := by decide +kernel
theorem d_L_2215 : decode code 2215 = .ok (.iaload, 1) := by decide +kernel
theorem d_L_2216 : decode code 2216 = .ok (.aload_n 0, 1) := by decide +kernel
theorem d_L_2217 : decode code 2217 = .ok (.iload 4, 2) := by decide +kernel
theorem d_L_2219 : decode code 2219 = .ok (.iconst 2, 1) := by decide +kernel
theorem d_L_2220 : decode code 2220 = .ok (.iadd, 1) := by decide +kernel
theorem d_L_2221 : decode code 2221 = .ok (.iaload, 1) := by decide +kernel
theorem d_L_2222 : decode code 2222 = .ok (.aload_n 0, 1) := by decide +kernel
theorem d_L_2223 : decode code 2223 = .ok (.iload 4, 2) := by decide +kernel
theorem d_L_2225 : decode code 2225 = .ok (.iconst 3, 1) := by decide +kernel
theorem d_L_2226 : decode code 2226 = .ok (.iadd, 1) := by decide +kernel
theorem d_L_2227 : decode code 2227 = .ok (.iaload, 1) := by decide +kernel
theorem d_L_2228 : decode code 2228 = .ok (.invokevirtual 239, 3) := by decide +kernel
theorem d_L_2231 : decode code 2231 = .ok (.pop, 1) := by decide +kernel
theorem d_L_2232 : decode code 2232 = .ok (.aload_n 2, 1) := by decide +kernel
theorem d_L_2233 : decode code 2233 = .ok (.aload_n 0, 1) := by decide +kernel
theorem d_L_2234 : decode code 2234 = .ok (.iload 4, 2) := by decide +kernel
theorem d_L_2236 : decode code 2236 = .ok (.iconst 1, 1) := by decide +kernel
theorem d_L_2237 : decode code 2237 = .ok (.iadd, 1) := by decide +kernel
theorem d_L_2238 : decode code 2238 = .ok (.iaload, 1) := by decide +kernel
theorem d_L_2239 : decode code 2239 = .ok (.aload_n 0, 1) := by decide +kernel
theorem d_L_2240 : decode code 2240 = .ok (.iload 4, 2) := by decide +kernel
theorem d_L_2242 : decode code 2242 = .ok (.iconst 2, 1) := by decide +kernel
theorem d_L_2243 : decode code 2243 = .ok (.iadd, 1) := by decide +kernel
theorem d_L_2244 : decode code 2244 = .ok (.iaload, 1) := by decide +kernel
theorem d_L_2245 : decode code 2245 = .ok (.aload_n 0, 1) := by decide +kernel
theorem d_L_2246 : decode code 2246 = .ok (.iload 4, 2) := by decide +kernel
theorem d_L_2248 : decode code 2248 = .ok (.iconst 3, 1) := by decide +kernel
theorem d_L_2249 : decode code 2249 = .ok (.iadd, 1) := by decide +kernel
theorem d_L_2250 : decode code 2250 = .ok (.iaload, 1) := by decide +kernel
theorem d_L_2251 : decode code 2251 = .ok (.invokevirtual 242, 3) := by decide +kernel
theorem d_L_2254 : decode code 2254 = .ok (.pop, 1) := by decide +kernel
theorem d_L_2255 : decode code 2255 = .ok (.goto 151, 3) := by decide +kernel
theorem d_L_2258 : decode code 2258 = .ok (.aload_n 1, 1) := by decide +kernel
theorem d_L_2259 : decode code 2259 = .ok (.aload_n 0, 1) := by decide +kernel
theorem d_L_2260 : decode code 2260 = .ok (.iload 4, 2) := by decide +kernel
theorem d_L_2262 : decode code 2262 = .ok (.iconst 1, 1) := by decide +kernel
theorem d_L_2263 : decode code 2263 = .ok (.iadd, 1) := by decide +kernel
theorem d_L_2264 : decode code 2264 = .ok (.iaload, 1) := by decide +kernel
theorem d_L_2265 : decode code 2265 = .ok (.invokevirtual 243, 3) := by decide +kernel
theorem d_L_2268 : decode code 2268 = .ok (.aload_n 2, 1) := by decide +kernel
theorem d_L_2269 : decode code 2269 = .ok (.aload_n 0, 1) := by decide +kernel
theorem d_L_2270 : decode code 2270 = .ok (.iload 4, 2) := by decide +kernel
theorem d_L_2272 : decode code 2272 = .ok (.iconst 1, 1) := by decide +kernel
theorem d_L_2273 : decode code 2273 = .ok (.iadd, 1) := by decide +kernel
theorem d_L_2274 : decode code 2274 = .ok (.iaload, 1) := by decide +kernel
theorem d_L_2275 : decode code 2275 = .ok (.invokevirtual 246, 3) := by decide +kernel
theorem d_L_2278 : decode code 2278 = .ok (.if_icmp .eq 128, 3) := by decide +kernel
theorem d_L_2281 : decode code 2281 = .ok (.iconst 0, 1) := by decide +kernel
theorem d_L_2282 : decode code 2282 = .ok (.ireturn, 1) := by decide +kernel
theorem d_L_2283 : decode code 2283 = .ok (.aload_n 1, 1) := by decide +kernel
theorem d_L_2284 : decode code 2284 = .ok (.aload_n 0, 1) := by decide +kernel
theorem d_L_2285 : decode code 2285 = .ok (.iload 4, 2) := by decide +kernel
theorem d_L_2287 : decode code 2287 = .ok (.iconst 1, 1) := by decide +kernel
theorem d_L_2288 : decode code 2288 = .ok (.iadd, 1) := by decide +kernel
theorem d_L_2289 : decode code 2289 = .ok (.iaload, 1) := by decide +kernel
theorem d_L_2290 : decode code 2290 = .ok (.aload_n 0, 1) := by decide +kernel
theorem d_L_2291 : decode code 2291 = .ok (.iload 4, 2) := by decide +kernel
theorem d_L_2293 : decode code 2293 = .ok (.iconst 2, 1) := by decide +kernel
theorem d_L_2294 : decode code 2294 = .ok (.iadd, 1) := by decide +kernel
theorem d_L_2295 : decode code 2295 = .ok (.iaload, 1) := by decide +kernel
theorem d_L_2296 : decode code 2296 = .ok (.invokevirtual 247, 3) := by decide +kernel
theorem d_L_2299 : decode code 2299 = .ok (.pop, 1) := by decide +kernel
theorem d_L_2300 : decode code 2300 = .ok (.aload_n 2, 1) := by decide +kernel
theorem d_L_2301 : decode code 2301 = .ok (.aload_n 0, 1) := by decide +kernel
theorem d_L_2302 : decode code 2302 = .ok (.iload 4, 2) := by decide +kernel
theorem d_L_2304 : decode code 2304 = .ok (.iconst 1, 1) := by decide +kernel
theorem d_L_2305 : decode code 2305 = .ok (.iadd, 1) := by decide +kernel
theorem d_L_2306 : decode code 2306 = .ok (.iaload, 1) := by decide +kernel
theorem d_L_2307 : decode code 2307 = .ok (.aload_n 0, 1) := by decide +kernel
theorem d_L_2308 : decode code 2308 = .ok (.iload 4, 2) := by decide +kernel
theorem d_L_2310 : decode code 2310 = .ok (.iconst 2, 1) := by decide +kernel
theorem d_L_2311 : decode code 2311 = .ok (.iadd, 1) := by decide +kernel
theorem d_L_2312 : decode code 2312 = .ok (.iaload, 1) := by decide +kernel
theorem d_L_2313 : decode code 2313 = .ok (.invokevirtual 250, 3) := by decide +kernel
theorem d_L_2316 : decode code 2316 = .ok (.pop, 1) := by decide +kernel
theorem d_L_2317 : decode code 2317 = .ok (.goto 89, 3) := by decide +kernel
theorem d_L_2320 : decode code 2320 = .ok (.aload_n 1, 1) := by decide +kernel
theorem d_L_2321 : decode code 2321 = .ok (.aload_n 0, 1) := by decide +kernel
theorem d_L_2322 : decode code 2322 = .ok (.iload 4, 2) := by decide +kernel
theorem d_L_2324 : decode code 2324 = .ok (.iconst 1, 1) := by decide +kernel
theorem d_L_2325 : decode code 2325 = .ok (.iadd, 1) := by decide +kernel
theorem d_L_2326 : decode code 2326 = .ok (.iaload, 1) := by decide +kernel
theorem d_L_2327 : decode code 2327 = .ok (.aload_n 0, 1) := by decide +kernel
theorem d_L_2328 : decode code 2328 = .ok (.iload 4, 2) := by decide +kernel
theorem d_L_2330 : decode code 2330 = .ok (.iconst 2, 1) := by decide +kernel
theorem d_L_2331 : decode code 2331 = .ok (.iadd, 1) := by decide +kernel
theorem d_L_2332 : decode code 2332 = .ok (.iaload, 1) := by decide +kernel
theorem d_L_2333 : decode code 2333 = .ok (.aload_n 0, 1) := by decide +kernel
theorem d_L_2334 : decode code 2334 = .ok (.iload 4, 2) := by decide +kernel
theorem d_L_2336 : decode code 2336 = .ok (.iconst 3, 1) := by decide +kernel
theorem d_L_2337 : decode code 2337 = .ok (.iadd, 1) := by decide +kernel
theorem d_L_2338 : decode code 2338 = .ok (.iaload, 1) := by decide +kernel
theorem d_L_2339 : decode code 2339 = .ok (.aload_n 0, 1) := by decide +kernel
theorem d_L_2340 : decode code 2340 = .ok (.iload 4, 2) := by decide +kernel
theorem d_L_2342 : decode code 2342 = .ok (.iconst 4, 1) := by decide +kernel
theorem d_L_2343 : decode code 2343 = .ok (.iadd, 1) := by decide +kernel
theorem d_L_2344 : decode code 2344 = .ok (.iaload, 1) := by decide +kernel
theorem d_L_2345 : decode code 2345 = .ok (.invokevirtual 251, 3) := by decide +kernel
theorem d_L_2348 : decode code 2348 = .ok (.pop, 1) := by decide +kernel
theorem d_L_2349 : decode code 2349 = .ok (.aload_n 2, 1) := by decide +kernel
theorem d_L_2350 : decode code 2350 = .ok (.aload_n 0, 1) := by decide +kernel
theorem d_L_2351 : decode code 2351 = .ok (.iload 4, 2) := by decide +kernel
theorem d_L_2353 : decode code 2353 = .ok (.iconst 1, 1) := by decide +kernel
theorem d_L_2354 : decode code 2354 = .ok (.iadd, 1) := by decide +kernel
theorem d_L_2355 : decode code 2355 = .ok (.iaload, 1) := by decide +kernel
theorem d_L_2356 : decode code 2356 = .ok (.aload_n 0, 1) := by decide +kernel
theorem d_L_2357 : decode code 2357 = .ok (.iload 4, 2) := by decide +kernel
theorem d_L_2359 : decode code 2359 = .ok (.iconst 2, 1) := by decide +kernel
theorem d_L_2360 : decode code 2360 = .ok (.iadd, 1) := by decide +kernel
theorem d_L_2361 : decode code 2361 = .ok (.iaload, 1) := by decide +kernel
theorem d_L_2362 : decode code 2362 = .ok (.aload_n 0, 1) := by decide +kernel
theorem d_L_2363 : decode code 2363 = .ok (.iload 4, 2) := by decide +kernel
theorem d_L_2365 : decode code 2365 = .ok (.iconst 3, 1) := by decide +kernel
theorem d_L_2366 : decode code 2366 = .ok (.iadd, 1) := by decide +kernel
theorem d_L_2367 : decode code 2367 = .ok (.iaload, 1) := by decide +kernel
theorem d_L_2368 : decode code 2368 = .ok (.aload_n 0, 1) := by decide +kernel
theorem d_L_2369 : decode code 2369 = .ok (.iload 4, 2) := by decide +kernel
theorem d_L_2371 : decode code 2371 = .ok (.iconst 4, 1) := by decide +kernel
theorem d_L_2372 : decode code 2372 = .ok (.iadd, 1) := by decide +kernel
theorem d_L_2373 : decode code 2373 = .ok (.iaload, 1) := by decide +kernel
theorem d_L_2374 : decode code 2374 = .ok (.invokevirtual 255, 3) := by decide +kernel
theorem d_L_2377 : decode code 2377 = .ok (.pop, 1) := by decide +kernel
theorem d_L_2378 : decode code 2378 = .ok (.goto 28, 3) := by decide +kernel
theorem d_L_2381 : decode code 2381 = .ok (.aload_n 1, 1) := by decide +kernel
theorem d_L_2382 : decode code 2382 = .ok (.aload_n 0, 1) := by decide +kernel
theorem d_L_2383 : decode code 2383 = .ok (.iload 4, 2) := by decide +kernel
theorem d_L_2385 : decode code 2385 = .ok (.iconst 1, 1) := by decide +kernel
theorem d_L_2386 : decode code 2386 = .ok (.iadd, 1) := by decide +kernel
theorem d_L_2387 : decode code 2387 = .ok (.iaload, 1) := by decide +kernel
theorem d_L_2388 : decode code 2388 = .ok (.invokevirtual 256, 3) := by decide +kernel
theorem d_L_2391 : decode code 2391 = .ok (.pop, 1) := by decide +kernel
theorem d_L_2392 : decode code 2392 = .ok (.aload_n 2, 1) := by decide +kernel
theorem d_L_2393 : decode code 2393 = .ok (.aload_n 0, 1) := by decide +kernel
theorem d_L_2394 : decode code 2394 = .ok (.iload 4, 2) := by decide +kernel
theorem d_L_2396 : decode code 2396 = .ok (.iconst 1, 1) := by decide +kernel
theorem d_L_2397 : decode code 2397 = .ok (.iadd, 1) := by decide +kernel
theorem d_L_2398 : decode code 2398 = .ok (.iaload, 1) := by decide +kernel
theorem d_L_2399 : decode code 2399 = .ok (.invokevirtual 259, 3) := by decide +kernel
theorem d_L_2402 : decode code 2402 = .ok (.pop, 1) := by decide +kernel
theorem d_L_2403 : decode code 2403 = .ok (.goto 3, 3) := by decide +kernel
theorem d_L_2406 : decode code 2406 = .ok (.iinc 4 6, 3) := by decide +kernel
theorem d_L_2409 : decode code 2409 = .ok (.goto (-2386), 3) := by decide +kernel
theorem d_L_2412 : decode code 2412 = .ok (.iconst 1, 1) := by decide +kernel
theorem d_L_2413 : decode code 2413 = .ok (.ireturn, 1) := by decide +kernel
