theorem dL_law_1877 : decode cL_law 1877 = .ok (.iload 4, 2) := by decide +kernel
theorem dL_law_1879 : decode cL_law 1879 = .ok (.iconst 2, 1) := by decide +kernel
theorem dL_law_1880 : decode cL_law 1880 = .ok (.iadd, 1) := by decide +kernel
theorem dL_law_1881 : decode cL_law 1881 = .ok (.iaload, 1) := by decide +kernel
theorem dL_law_1882 : decode cL_law 1882 = .ok (.aload_n 0, 1) := by decide +kernel
theorem dL_law_1883 : decode cL_law 1883 = .ok (.iload 4, 2) := by decide +kernel
theorem dL_law_1885 : decode cL_law 1885 = .ok (.iconst 3, 1) := by decide +kernel
theorem dL_law_1886 : decode cL_law 1886 = .ok (.iadd, 1) := by decide +kernel
theorem dL_law_1887 : decode cL_law 1887 = .ok (.iaload, 1) := by decide +kernel
theorem dL_law_1888 : decode cL_law 1888 = .ok (.invokevirtual 189, 3) := by decide +kernel
theorem dL_law_1891 : decode cL_law 1891 = .ok (.aload_n 2, 1) := by decide +kernel
theorem dL_law_1892 : decode cL_law 1892 = .ok (.aload_n 0, 1) := by decide +kernel
theorem dL_law_1893 : decode cL_law 1893 = .ok (.iload 4, 2) := by decide +kernel
theorem dL_law_1895 : decode cL_law 1895 = .ok (.iconst 1, 1) := by decide +kernel
theorem dL_law_1896 : decode cL_law 1896 = .ok (.iadd, 1) := by decide +kernel
theorem dL_law_1897 : decode cL_law 1897 = .ok (.iaload, 1) := by decide +kernel
theorem dL_law_1898 : decode cL_law 1898 = .ok (.aload_n 0, 1) := by decide +kernel
theorem dL_law_1899 : decode cL_law 1899 = .ok (.iload 4, 2) := by decide +kernel
theorem dL_law_1901 : decode cL_law 1901 = .ok (.iconst 2, 1) := by decide +kernel
theorem dL_law_1902 : decode cL_law 1902 = .ok (.iadd, 1) := by decide +kernel
theorem dL_law_1903 : decode cL_law 1903 = .ok (.iaload, 1) := by decide +kernel
theorem dL_law_1904 : decode cL_law 1904 = .ok (.aload_n 0, 1) := by decide +kernel
theorem dL_law_1905 : decode cL_law 1905 = .ok (.iload 4, 2) := by decide +kernel
theorem dL_law_1907 : decode cL_law 1907 = .ok (.iconst 3, 1) := by decide +kernel
theorem dL_law_1908 : decode cL_law 1908 = .ok (.iadd, 1) := by decide +kernel
theorem dL_law_1909 : decode cL_law 1909 = .ok (.iaload, 1) := by decide +kernel
theorem dL_law_1910 : decode cL_law 1910 = .ok (.invokevirtual 192, 3) := by decide +kernel
theorem dL_law_1913 : decode cL_law 1913 = .ok (.if_icmp .eq 626, 3) := by decide +kernel
theorem dL_law_1916 : decode cL_law 1916 = .ok (.iconst 0, 1) := by decide +kernel
theorem dL_law_1917 : decode cL_law 1917 = .ok (.ireturn, 1) := by decide +kernel
theorem dL_law_1918 : decode cL_law 1918 = .ok (.aload_n 1, 1) := by decide +kernel
theorem dL_law_1919 : decode cL_law 1919 = .ok (.invokevirtual 193, 3) := by decide +kernel
theorem dL_law_1922 : decode cL_law 1922 = .ok (.aload_n 2, 1) := by decide +kernel
theorem dL_law_1923 : decode cL_law 1923 = .ok (.invokevirtual 196, 3) := by decide +kernel
theorem dL_law_1926 : decode cL_law 1926 = .ok (.if_icmp .eq 613, 3) := by decide +kernel
theorem dL_law_1929 : decode cL_law 1929 = .ok (.iconst 0, 1) := by decide +kernel
theorem dL_law_1930 : decode cL_law 1930 = .ok (.ireturn, 1) := by decide +kernel
theorem dL_law_1931 : decode cL_law 1931 = .ok (.aload_n 1, 1) := by decide +kernel
theorem dL_law_1932 : decode cL_law 1932 = .ok (.aload_n 0, 1) := by decide +kernel
theorem dL_law_1933 : decode cL_law 1933 = .ok (.iload 4, 2) := by decide +kernel
theorem dL_law_1935 : decode cL_law 1935 = .ok (.iconst 1, 1) := by decide +kernel
theorem dL_law_1936 : decode cL_law 1936 = .ok (.iadd, 1) := by decide +kernel
theorem dL_law_1937 : decode cL_law 1937 = .ok (.iaload, 1) := by decide +kernel
theorem dL_law_1938 : decode cL_law 1938 = .ok (.aload_n 0, 1) := by decide +kernel
theorem dL_law_1939 : decode cL_law 1939 = .ok (.iload 4, 2) := by decide +kernel
theorem dL_law_1941 : decode cL_law 1941 = .ok (.iconst 2, 1) := by decide +kernel
theorem dL_law_1942 : decode cL_law 1942 = .ok (.iadd, 1) := by decide +kernel
theorem dL_law_1943 : decode cL_law 1943 = .ok (.iaload, 1) := by decide +kernel
theorem dL_law_1944 : decode cL_law 1944 = .ok (.aload_n 0, 1) := by decide +kernel
theorem dL_law_1945 : decode cL_law 1945 = .ok (.iload 4, 2) := by decide +kernel
theorem dL_law_1947 : decode cL_law 1947 = .ok (.iconst 3, 1) := by decide +kernel
theorem dL_law_1948 : decode cL_law 1948 = .ok (.iadd, 1) := by decide +kernel
theorem dL_law_1949 : decode cL_law 1949 = .ok (.iaload, 1) := by decide +kernel
theorem dL_law_1950 : decode cL_law 1950 = .ok (.invokevirtual 197, 3) := by decide +kernel
theorem dL_law_1953 : decode cL_law 1953 = .ok (.aload_n 2, 1) := by decide +kernel
theorem dL_law_1954 : decode cL_law 1954 = .ok (.aload_n 0, 1) := by decide +kernel
theorem dL_law_1955 : decode cL_law 1955 = .ok (.iload 4, 2) := by decide +kernel
theorem dL_law_1957 : decode cL_law 1957 = .ok (.iconst 1, 1) := by decide +kernel
theorem dL_law_1958 : decode cL_law 1958 = .ok (.iadd, 1) := by decide +kernel
theorem dL_law_1959 : decode cL_law 1959 = .ok (.iaload, 1) := by decide +kernel
theorem dL_law_1960 : decode cL_law 1960 = .ok (.aload_n 0, 1) := by decide +kernel
theorem dL_law_1961 : decode cL_law 1961 = .ok (.iload 4, 2) := by decide +kernel
theorem dL_law_1963 : decode cL_law 1963 = .ok (.iconst 2, 1) := by decide +kernel
theorem dL_law_1964 : decode cL_law 1964 = .ok (.iadd, 1) := by decide +kernel
theorem dL_law_1965 : decode cL_law 1965 = .ok (.iaload, 1) := by decide +kernel
theorem dL_law_1966 : decode cL_law 1966 = .ok (.aload_n 0, 1) := by decide +kernel
theorem dL_law_1967 : decode cL_law 1967 = .ok (.iload 4, 2) := by decide +kernel
theorem dL_law_1969 : decode cL_law 1969 = .ok (.iconst 3, 1) := by decide +kernel
theorem dL_law_1970 : decode cL_law 1970 = .ok (.iadd, 1) := by decide +kernel
theorem dL_law_1971 : decode cL_law 1971 = .ok (.iaload, 1) := by decide +kernel
theorem dL_law_1972 : decode cL_law 1972 = .ok (.invokevirtual 200, 3) := by decide +kernel
theorem dL_law_1975 : decode cL_law 1975 = .ok (.if_icmp .eq 564, 3) := by decide +kernel
theorem dL_law_1978 : decode cL_law 1978 = .ok (.iconst 0, 1) := by decide +kernel
theorem dL_law_1979 : decode cL_law 1979 = .ok (.ireturn, 1) := by decide +kernel
theorem dL_law_1980 : decode cL_law 1980 = .ok (.aload_n 1, 1) := by decide +kernel
theorem dL_law_1981 : decode cL_law 1981 = .ok (.aload_n 0, 1) := by decide +kernel
theorem dL_law_1982 : decode cL_law 1982 = .ok (.iload 4, 2) := by decide +kernel
theorem dL_law_1984 : decode cL_law 1984 = .ok (.iconst 1, 1) := by decide +kernel
theorem dL_law_1985 : decode cL_law 1985 = .ok (.iadd, 1) := by decide +kernel
theorem dL_law_1986 : decode cL_law 1986 = .ok (.iaload, 1) := by decide +kernel
theorem dL_law_1987 : decode cL_law 1987 = .ok (.aload_n 0, 1) := by decide +kernel
theorem dL_law_1988 : decode cL_law 1988 = .ok (.iload 4, 2) := by decide +kernel
theorem dL_law_1990 : decode cL_law 1990 = .ok (.iconst 2, 1) := by decide +kernel
theorem dL_law_1991 : decode cL_law 1991 = .ok (.iadd, 1) := by decide +kernel
theorem dL_law_1992 : decode cL_law 1992 = .ok (.iaload, 1) := by decide +kernel
theorem dL_law_1993 : decode cL_law 1993 = .ok (.aload_n 0, 1) := by decide +kernel
theorem dL_law_1994 : decode cL_law 1994 = .ok (.iload 4, 2) := by decide +kernel
theorem dL_law_1996 : decode cL_law 1996 = .ok (.iconst 3, 1) := by decide +kernel
theorem dL_law_1997 : decode cL_law 1997 = .ok (.iadd, 1) := by decide +kernel
theorem dL_law_1998 : decode cL_law 1998 = .ok (.iaload, 1) := by decide +kernel
theorem dL_law_1999 : decode cL_law 1999 = .ok (.invokevirtual 201, 3) := by decide +kernel
theorem dL_law_2002 : decode cL_law 2002 = .ok (.aload_n 2, 1) := by decide +kernel
theorem dL_law_2003 : decode cL_law 2003 = .ok (.aload_n 0, 1) := by decide +kernel
theorem dL_law_2004 : decode cL_law 2004 = .ok (.iload 4, 2) := by decide +kernel
theorem dL_law_2006 : decode cL_law 2006 = .ok (.iconst 1, 1) := by decide +kernel
theorem dL_law_2007 : decode cL_law 2007 = .ok (.iadd, 1) := by decide +kernel
theorem dL_law_2008 : decode cL_law 2008 = .ok (.iaload, 1) := by decide +kernel
theorem dL_law_2009 : decode cL_law 2009 = .ok (.aload_n 0, 1) := by decide +kernel
theorem dL_law_2010 : decode cL_law 2010 = .ok (.iload 4, 2) := by decide +kernel
theorem dL_law_2012 : decode cL_law 2012 = .ok (.iconst 2, 1) := by decide +kernel
theorem dL_law_2013 : decode cL_law 2013 = .ok (.iadd, 1) := by decide +kernel
theorem dL_law_2014 : decode cL_law 2014 = .ok (.iaload, 1) := by decide +kernel
theorem dL_law_2015 : decode cL_law 2015 = .ok (.aload_n 0, 1) := by decide +kernel
theorem dL_law_2016 : decode cL_law 2016 = .ok (.iload 4, 2) := by decide +kernel
theorem dL_law_2018 : decode cL_law 2018 = .ok (.iconst 3, 1) := by decide +kernel
theorem dL_law_2019 : decode cL_law 2019 = .ok (.iadd, 1) := by decide +kernel
theorem dL_law_2020 : decode cL_law 2020 = .ok (.iaload, 1) := by decide +kernel
theorem dL_law_2021 : decode cL_law 2021 = .ok (.invokevirtual 204, 3) := by decide +kernel
theorem dL_law_2024 : decode cL_law 2024 = .ok (.if_icmp .eq 515, 3) := by decide +kernel
theorem dL_law_2027 : decode cL_law 2027 = .ok (.iconst 0, 1) := by decide +kernel
theorem dL_law_2028 : decode cL_law 2028 = .ok (.ireturn, 1) := by decide +kernel
theorem dL_law_2029 : decode cL_law 2029 = .ok (.aload_n 1, 1) := by decide +kernel
theorem dL_law_2030 : decode cL_law 2030 = .ok (.aload_n 0, 1) := by decide +kernel
theorem dL_law_2031 : decode cL_law 2031 = .ok (.iload 4, 2) := by decide +kernel
theorem dL_law_2033 : decode cL_law 2033 = .ok (.iconst 1, 1) := by decide +kernel
theorem dL_law_2034 : decode cL_law 2034 = .ok (.iadd, 1) := by decide +kernel
theorem dL_law_2035 : decode cL_law 2035 = .ok (.iaload, 1) := by decide +kernel
theorem dL_law_2036 : decode cL_law 2036 = .ok (.aload_n 0, 1) := by decide +kernel
theorem dL_law_2037 : decode cL_law 2037 = .ok (.iload 4, 2) := by decide +kernel
theorem dL_law_2039 : decode cL_law 2039 = .ok (.iconst 2, 1) := by decide +kernel
theorem dL_law_2040 : decode cL_law 2040 = .ok (.iadd, 1) := by decide +kernel
theorem dL_law_2041 : decode cL_law 2041 = .ok (.iaload, 1) := by decide +kernel
theorem dL_law_2042 : decode cL_law 2042 = .ok (.invokevirtual 205, 3) := by decide +kernel
theorem dL_law_2045 : decode cL_law 2045 = .ok (.aload_n 2, 1) := by decide +kernel
theorem dL_law_2046 : decode cL_law 2046 = .ok (.aload_n 0, 1) := by decide +kernel
theorem dL_law_2047 : decode cL_law 2047 = .ok (.iload 4, 2) := by decide +kernel
theorem dL_law_2049 : decode cL_law 2049 = .ok (.iconst 1, 1) := by decide +kernel
theorem dL_law_2050 : decode cL_law 2050 = .ok (.iadd, 1) := by decide +kernel
theorem dL_law_2051 : decode cL_law 2051 = .ok (.iaload, 1) := by decide +kernel
theorem dL_law_2052 : decode cL_law 2052 = .ok (.aload_n 0, 1) := by decide +kernel
theorem dL_law_2053 : decode cL_law 2053 = .ok (.iload 4, 2) := by decide +kernel
theorem dL_law_2055 : decode cL_law 2055 = .ok (.iconst 2, 1) := by decide +kernel
theorem dL_law_2056 : decode cL_law 2056 = .ok (.iadd, 1) := by decide +kernel
theorem dL_law_2057 : decode cL_law 2057 = .ok (.iaload, 1) := by decide +kernel
theorem dL_law_2058 : decode cL_law 2058 = .ok (.invokevirtual 208, 3) := by decide +kernel
theorem dL_law_2061 : decode cL_law 2061 = .ok (.if_icmp .eq 478, 3) := by decide +kernel
theorem dL_law_2064 : decode cL_law 2064 = .ok (.iconst 0, 1) := by decide +kernel
theorem dL_law_2065 : decode cL_law 2065 = .ok (.ireturn, 1) := by decide +kernel
theorem dL_law_2066 : decode cL_law 2066 = .ok (.aload_n 1, 1) := by decide +kernel
theorem dL_law_2067 : decode cL_law 2067 = .ok (.aload_n 0, 1) := by decide +kernel
theorem dL_law_2068 : decode cL_law 2068 = .ok (.iload 4, 2) := by decide +kernel
theorem dL_law_2070 : decode cL_law 2070 = .ok (.iconst 1, 1) := by decide +kernel
theorem dL_law_2071 : decode cL_law 2071 = .ok (.iadd, 1) := by decide +kernel
theorem dL_law_2072 : decode cL_law 2072 = .ok (.iaload, 1) := by decide +kernel
theorem dL_law_2073 : decode cL_law 2073 = .ok (.aload_n 0, 1) := by decide +kernel
theorem dL_law_2074 : decode cL_law 2074 = .ok (.iload 4, 2) := by decide +kernel
theorem dL_law_2076 : decode cL_law 2076 = .ok (.iconst 2, 1) := by decide +kernel
theorem dL_law_2077 : decode cL_law 2077 = .ok (.iadd, 1) := by decide +kernel
theorem dL_law_2078 : decode cL_law 2078 = .ok (.iaload, 1) := by decide +kernel
theorem dL_law_2079 : decode cL_law 2079 = .ok (.aload_n 0, 1) := by decide +kernel
theorem dL_law_2080 : decode cL_law 2080 = .ok (.iload 4, 2) := by decide +kernel
theorem dL_law_2082 : decode cL_law 2082 = .ok (.iconst 3, 1) := by decide +kernel
theorem dL_law_2083 : decode cL_law 2083 = .ok (.iadd, 1) := by decide +kernel
theorem dL_law_2084 : decode cL_law 2084 = .ok (.iaload, 1) := by decide +kernel
theorem dL_law_2085 : decode cL_law 2085 = .ok (.invokevirtual 209, 3) := by decide +kernel
theorem dL_law_2088 : decode cL_law 2088 = .ok (.aload_n 2, 1) := by decide +kernel
theorem dL_law_2089 : decode cL_law 2089 = .ok (.aload_n 0, 1) := by decide +kernel
theorem dL_law_2090 : decode cL_law 2090 = .ok (.iload 4, 2) := by decide +kernel
theorem dL_law_2092 : decode cL_law 2092 = .ok (.iconst 1, 1) := by decide +kernel
theorem dL_law_2093 : decode cL_law 2093 = .ok (.iadd, 1) := by decide +kernel
theorem dL_law_2094 : decode cL_law 2094 = .ok (.iaload, 1) := by decide +kernel
theorem dL_law_2095 : decode cL_law 2095 = .ok (.aload_n 0, 1) := by decide +kernel
theorem dL_law_2096 : decode cL_law 2096 = .ok (.iload 4, 2) := by decide +kernel
theorem dL_law_2098 : decode cL_law 2098 = .ok (.iconst 2, 1) := by decide +kernel
theorem dL_law_2099 : decode cL_law 2099 = .ok (.iadd, 1) := by decide +kernel
theorem dL_law_2100 : decode cL_law 2100 = .ok (.iaload, 1) := by decide +kernel
theorem dL_law_2101 : decode cL_law 2101 = .ok (.aload_n 0, 1) := by decide +kernel
theorem dL_law_2102 : decode cL_law 2102 = .ok (.iload 4, 2) := by decide +kernel
theorem dL_law_2104 : decode cL_law 2104 = .ok (.iconst 3, 1) := by decide +kernel
theorem dL_law_2105 : decode cL_law 2105 = .ok (.iadd, 1) := by decide +kernel
theorem dL_law_2106 : decode cL_law 2106 = .ok (.iaload, 1) := by decide +kernel
theorem dL_law_2107 : decode cL_law 2107 = .ok (.invokevirtual 212, 3) := by decide +kernel
theorem dL_law_2110 : decode cL_law 2110 = .ok (.if_icmp .eq 429, 3) := by decide +kernel
theorem dL_law_2113 : decode cL_law 2113 = .ok (.iconst 0, 1) := by decide +kernel
theorem dL_law_2114 : decode cL_law 2114 = .ok (.ireturn, 1) := by decide +kernel
theorem dL_law_2115 : decode cL_law 2115 = .ok (.aload_n 1, 1) := by decide +kernel
theorem dL_law_2116 : decode cL_law 2116 = .ok (.aload_n 0, 1) := by decide +kernel
theorem dL_law_2117 : decode cL_law 2117 = .ok (.iload 4, 2) := by decide +kernel
theorem dL_law_2119 : decode cL_law 2119 = .ok (.iconst 1, 1) := by decide +kernel
theorem dL_law_2120 : decode cL_law 2120 = .ok (.iadd, 1) := by decide +kernel
theorem dL_law_2121 : decode cL_law 2121 = .ok (.iaload, 1) := by decide +kernel
theorem dL_law_2122 : decode cL_law 2122 = .ok (.invokevirtual 213, 3) := by decide +kernel
theorem dL_law_2125 : decode cL_law 2125 = .ok (.aload_n 2, 1) := by decide +kernel
theorem dL_law_2126 : decode cL_law 2126 = .ok (.aload_n 0, 1) := by decide +kernel
theorem dL_law_2127 : decode cL_law 2127 = .ok (.iload 4, 2) := by decide +kernel
theorem dL_law_2129 : decode cL_law 2129 = .ok (.iconst 1, 1) := by decide +kernel
theorem dL_law_2130 : decode cL_law 2130 = .ok (.iadd, 1) := by decide +kernel
theorem dL_law_2131 : decode cL_law 2131 = .ok (.iaload, 1) := by decide +kernel
theorem dL_law_2132 : decode cL_law 2132 = .ok (.invokevirtual 216, 3) := by decide +kernel
theorem dL_law_2135 : decode cL_law 2135 = .ok (.if_icmp .eq 404, 3) := by decide +kernel
theorem dL_law_2138 : decode cL_law 2138 = .ok (.iconst 0, 1) := by decide +kernel
theorem dL_law_2139 : decode cL_law 2139 = .ok (.ireturn, 1) := by decide +kernel
theorem dL_law_2140 : decode cL_law 2140 = .ok (.aload_n 1, 1) := by decide +kernel
theorem dL_law_2141 : decode cL_law 2141 = .ok (.aload_n 0, 1) := by decide +kernel
theorem dL_law_2142 : decode cL_law 2142 = .ok (.iload 4, 2) := by decide +kernel
theorem dL_law_2144 : decode cL_law 2144 = .ok (.iconst 1, 1) := by decide +kernel
theorem dL_law_2145 : decode cL_law 2145 = .ok (.iadd, 1) := by decide +kernel
theorem dL_law_2146 : decode cL_law 2146 = .ok (.iaload, 1) := by decide +kernel
theorem dL_law_2147 : decode cL_law 2147 = .ok (.aload_n 0, 1) := by decide +kernel
theorem dL_law_2148 : decode cL_law 2148 = .ok (.iload 4, 2) := by decide +kernel
theorem dL_law_2150 : decode cL_law 2150 = .ok (.iconst 2, 1) := by decide +kernel
theorem dL_law_2151 : decode cL_law 2151 = .ok (.iadd, 1) := by decide +kernel
theorem dL_law_2152 : decode cL_law 2152 = .ok (.iaload, 1) := by decide +kernel
theorem dL_law_2153 : decode cL_law 2153 = .ok (.aload_n 0, 1) := by decide +kernel
theorem dL_law_2154 : decode cL_law 2154 = .ok (.iload 4, 2) := by decide +kernel
theorem dL_law_2156 : decode cL_law 2156 = .ok (.iconst 3, 1) := by decide +kernel
theorem dL_law_2157 : decode cL_law 2157 = .ok (.iadd, 1) := by decide +kernel
theorem dL_law_2158 : decode cL_law 2158 = .ok (.iaload, 1) := by decide +kernel
theorem dL_law_2159 : decode cL_law 2159 = .ok (.invokevirtual 217, 3) := by decide +kernel
theorem dL_law_2162 : decode cL_law 2162 = .ok (.aload_n 2, 1) := by decide +kernel
theorem dL_law_2163 : decode cL_law 2163 = .ok (.aload_n 0, 1) := by decide +kernel
theorem dL_law_2164 : decode cL_law 2164 = .ok (.iload 4, 2) := by decide +kernel
theorem dL_law_2166 : decode cL_law 2166 = .ok (.iconst 1, 1) := by decide +kernel
theorem dL_law_2167 : decode cL_law 2167 = .ok (.iadd, 1) := by decide +kernel
theorem dL_law_2168 : decode cL_law 2168 = .ok (.iaload, 1) := by decide +kernel
theorem dL_law_2169 : decode cL_law 2169 = .ok (.aload_n 0, 1) := by decide +kernel
theorem dL_law_2170 : decode cL_law 2170 = .ok (.iload 4, 2) := by decide +kernel
theorem dL_law_2172 : decode cL_law 2172 = .ok (.iconst 2, 1) := by decide +kernel
theorem dL_law_2173 : decode cL_law 2173 = .ok (.iadd, 1) := by decide +kernel
theorem dL_law_2174 : decode cL_law 2174 = .ok (.iaload, 1) := by decide +kernel
theorem dL_law_2175 : decode cL_law 2175 = .ok (.aload_n 0, 1) := by decide +kernel
theorem dL_law_2176 : decode cL_law 2176 = .ok (.iload 4, 2) := by decide +kernel
theorem dL_law_2178 : decode cL_law 2178 = .ok (.iconst 3, 1) := by decide +kernel
theorem dL_law_2179 : decode cL_law 2179 = .ok (.iadd, 1) := by decide +kernel
theorem dL_law_2180 : decode cL_law 2180 = .ok (.iaload, 1) := by decide +kernel
theorem dL_law_2181 : decode cL_law 2181 = .ok (.invokevirtual 220, 3) := by decide +kernel
theorem dL_law_2184 : decode cL_law 2184 = .ok (.if_icmp .eq 355, 3) := by decide +kernel
theorem dL_law_2187 : decode cL_law 2187 = .ok (.iconst 0, 1) := by decide +kernel
theorem dL_law_2188 : decode cL_law 2188 = .ok (.ireturn, 1) := by decide +kernel
theorem dL_law_2189 : decode cL_law 2189 = .ok (.aload_n 1, 1) := by decide +kernel
theorem dL_law_2190 : decode cL_law 2190 = .ok (.aload_n 0, 1) := by decide +kernel
theorem dL_law_2191 : decode cL_law 2191 = .ok (.iload 4, 2) := by decide +kernel
theorem dL_law_2193 : decode cL_law 2193 = .ok (.iconst 1, 1) := by decide +kernel
theorem dL_law_2194 : decode cL_law 2194 = .ok (.iadd, 1) := by decide +kernel
theorem dL_law_2195 : decode cL_law 2195 = .ok (.iaload, 1) := by decide +kernel
theorem dL_law_2196 : decode cL_law 2196 = .ok (.invokevirtual 221, 3) := by decide +kernel
theorem dL_law_2199 : decode cL_law 2199 = .ok (.aload_n 2, 1) := by decide +kernel
theorem dL_law_2200 : decode cL_law 2200 = .ok (.aload_n 0, 1) := by decide +kernel
theorem dL_law_2201 : decode cL_law 2201 = .ok (.iload 4, 2) := by decide +kernel
theorem dL_law_2203 : decode cL_law 2203 = .ok (.iconst 1, 1) := by decide +kernel
theorem dL_law_2204 : decode cL_law 2204 = .ok (.iadd, 1) := by decide +kernel
theorem dL_law_2205 : decode cL_law 2205 = .ok (.iaload, 1) := by decide +kernel
theorem dL_law_2206 : decode cL_law 2206 = .ok (.invokevirtual 224, 3) := by decide +kernel
theorem dL_law_2209 : decode cL_law 2209 = .ok (.if_icmp .eq 330, 3) := by decide +kernel
theorem dL_law_2212 : decode cL_law 2212 = .ok (.iconst 0, 1) := by decide +kernel
theorem dL_law_2213 : decode cL_law 2213 = .ok (.ireturn, 1) := by decide +kernel
theorem dL_law_2214 : decode cL_law 2214 = .ok (.aload_n 1, 1) := by decide +kernel
theorem dL_law_2215 : decode cL_law 2215 = .ok (.aload_n 0, 1) := by decide +kernel
theorem dL_law_2216 : decode cL_law 2216 = .ok (.iload 4, 2) := by decide +kernel
theorem dL_law_2218 : decode cL_law 2218 = .ok (.iconst 1, 1) := by decide +kernel
theorem dL_law_2219 : decode cL_law 2219 = .ok (.iadd, 1) := by decide +kernel
theorem dL_law_2220 : decode cL_law 2220 = .ok (.iaload, 1) := by decide +kernel
theorem dL_law_2221 : decode cL_law 2221 = .ok (.aload_n 0, 1) := by decide +kernel
theorem dL_law_2222 : decode cL_law 2222 = .ok (.iload 4, 2) := by decide +kernel
theorem dL_law_2224 : decode cL_law 2224 = .ok (.iconst 2, 1) := by decide +kernel
theorem dL_law_2225 : decode cL_law 2225 = .ok (.iadd, 1) := by decide +kernel
theorem dL_law_2226 : decode cL_law 2226 = .ok (.iaload, 1) := by decide +kernel
theorem dL_law_2227 : decode cL_law 2227 = .ok (.aload_n 0, 1) := by decide +kernel
theorem dL_law_2228 : decode cL_law 2228 = .ok (.iload 4, 2) := by decide +kernel
theorem dL_law_2230 : decode cL_law 2230 = .ok (.iconst 3, 1) := by decide +kernel
theorem dL_law_2231 : decode cL_law 2231 = .ok (.iadd, 1) := by decide +kernel
theorem dL_law_2232 : decode cL_law 2232 = .ok (.iaload, 1) := by decide +kernel
theorem dL_law_2233 : decode cL_law 2233 = .ok (.aload_n 0, 1) := by decide +kernel
theorem dL_law_2234 : decode cL_law 2234 = .ok (.iload 4, 2) := by decide +kernel
theorem dL_law_2236 : decode cL_law 2236 = .ok (.iconst 4, 1) := by decide +kernel
theorem dL_law_2237 : decode cL_law 2237 = .ok (.iadd, 1) := by decide +kernel
theorem dL_law_2238 : decode cL_law 2238 = .ok (.iaload, 1) := by decide +kernel
theorem dL_law_2239 : decode cL_law 2239 = .ok (.aload_n 0, 1) := by decide +kernel
theorem dL_law_2240 : decode cL_law 2240 = .ok (.iload 4, 2) := by decide +kernel
theorem dL_law_2242 : decode cL_law 2242 = .ok (.iconst 5, 1) := by decide +kernel
theorem dL_law_2243 : decode cL_law 2243 = .ok (.iadd, 1) := by decide +kernel
theorem dL_law_2244 : decode cL_law 2244 = .ok (.iaload, 1) := by decide +kernel
theorem dL_law_2245 : decode cL_law 2245 = .ok (.invokevirtual 225, 3) := by decide +kernel
theorem dL_law_2248 : decode cL_law 2248 = .ok (.aload_n 2, 1) := by decide +kernel
theorem dL_law_2249 : decode cL_law 2249 = .ok (.aload_n 0, 1) := by decide +kernel
theorem dL_law_2250 : decode cL_law 2250 = .ok (.iload 4, 2) := by decide +kernel
theorem dL_law_2252 : decode cL_law 2252 = .ok (.iconst 1, 1) := by decide +kernel
theorem dL_law_2253 : decode cL_law 2253 = .ok (.iadd, 1) := by decide +kernel
theorem dL_law_2254 : decode cL_law 2254 = .ok (.iaload, 1) := by decide +kernel
theorem dL_law_2255 : decode cL_law 2255 = .ok (.aload_n 0, 1) := by decide +kernel
theorem dL_law_2256 : decode cL_law 2256 = .ok (.iload 4, 2) := by decide +kernel
theorem dL_law_2258 : decode cL_law 2258 = .ok (.iconst 2, 1) := by decide +kernel
theorem dL_law_2259 : decode cL_law 2259 = .ok (.iadd, 1) := by decide +kernel
theorem dL_law_2260 : decode cL_law 2260 = .ok (.iaload, 1) := by decide +kernel
theorem dL_law_2261 : decode cL_law 2261 = .ok (.aload_n 0, 1) := by decide +kernel
theorem dL_law_2262 : decode cL_law 2262 = .ok (.iload 4, 2) := by decide +kernel
theorem dL_law_2264 : decode cL_law 2264 = .ok (.iconst 3, 1) := by decide +kernel
theorem dL_law_2265 : decode cL_law 2265 = .ok (.iadd, 1) := by decide +kernel
theorem dL_law_2266 : decode cL_law 2266 = .ok (.iaload, 1) := by decide +kernel
theorem dL_law_2267 : decode cL_law 2267 = .ok (.aload_n 0, 1) := by decide +kernel
theorem dL_law_2268 : decode cL_law 2268 = .ok (.iload 4, 2) := by decide +kernel
theorem dL_law_2270 : decode cL_law 2270 = .ok (.iconst 4, 1) := by decide +kernel
theorem dL_law_2271 : decode cL_law 2271 = .ok (.iadd, 1) := by decide +kernel
theorem dL_law_2272 : decode cL_law 2272 = .ok (.iaload, 1) := by decide +kernel
theorem dL_law_2273 : decode cL_law 2273 = .ok (.aload_n 0, 1) := by decide +kernel
theorem dL_law_2274 : decode cL_law 2274 = .ok (.iload 4, 2) := by decide +kernel
theorem dL_law_2276 : decode cL_law 2276 = .ok (.iconst 5, 1) := by decide +kernel
theorem dL_law_2277 : decode cL_law 2277 = .ok (.iadd, 1) := by decide +kernel
theorem dL_law_2278 : decode cL_law 2278 = .ok (.iaload, 1) := by decide +kernel
theorem dL_law_2279 : decode cL_law 2279 = .ok (.invokevirtual 228, 3) := by decide +kernel
theorem dL_law_2282 : decode cL_law 2282 = .ok (.if_icmp .eq 257, 3) := by decide +kernel
theorem dL_law_2285 : decode cL_law 2285 = .ok (.iconst 0, 1) := by decide +kernel
theorem dL_law_2286 : decode cL_law 2286 = .ok (.ireturn, 1) := by decide +kernel
theorem dL_law_2287 : decode cL_law 2287 = .ok (.aload_n 1, 1) := by decide +kernel
theorem dL_law_2288 : decode cL_law 2288 = .ok (.aload_n 0, 1) := by decide +kernel
theorem dL_law_2289 : decode cL_law 2289 = .ok (.iload 4, 2) := by decide +kernel
theorem dL_law_2291 : decode cL_law 2291 = .ok (.iconst 1, 1) := by decide +kernel
theorem dL_law_2292 : decode cL_law 2292 = .ok (.iadd, 1) := by decide +kernel
theorem dL_law_2293 : decode cL_law 2293 = .ok (.iaload, 1) := by decide +kernel
theorem dL_law_2294 : decode cL_law 2294 = .ok (.aload_n 0, 1) := by decide +kernel
theorem dL_law_2295 : decode cL_law 2295 = .ok (.iload 4, 2) := by decide +kernel
theorem dL_law_2297 : decode cL_law 2297 = .ok (.iconst 2, 1) := by decide +kernel
theorem dL_law_2298 : decode cL_law 2298 = .ok (.iadd, 1) := by decide +kernel
theorem dL_law_2299 : decode cL_law 2299 = .ok (.iaload, 1) := by decide +kernel
theorem dL_law_2300 : decode cL_law 2300 = .ok (.aload_n 0, 1) := by decide +kernel
theorem dL_law_2301 : decode cL_law 2301 = .ok (.iload 4, 2) := by decide +kernel
theorem dL_law_2303 : decode cL_law 2303 = .ok (.iconst 3, 1) := by decide +kernel
theorem dL_law_2304 : decode cL_law 2304 = .ok (.iadd, 1) := by decide +kernel
theorem dL_law_2305 : decode cL_law 2305 = .ok (.iaload, 1) := by decide +kernel
theorem dL_law_2306 : decode cL_law 2306 = .ok (.invokevirtual 229, 3) := by decide +kernel
theorem dL_law_2309 : decode cL_law 2309 = .ok (.dstore 5, 2) := by decide +kernel
theorem dL_law_2311 : decode cL_law 2311 = .ok (.aload_n 2, 1) := by decide +kernel
theorem dL_law_2312 : decode cL_law 2312 = .ok (.aload_n 0, 1) := by decide +kernel
theorem dL_law_2313 : decode cL_law 2313 = .ok (.iload 4, 2) := by decide +kernel
theorem dL_law_2315 : decode cL_law 2315 = .ok (.iconst 1, 1) := by decide +kernel
theorem dL_law_2316 : decode cL_law 2316 = .ok (.iadd, 1) := by decide +kernel
theorem dL_law_2317 : decode cL_law 2317 = .ok (.iaload, 1) := by decide +kernel
theorem dL_law_2318 : decode cL_law 2318 = .ok (.aload_n 0, 1) := by decide +kernel
theorem dL_law_2319 : decode cL_law 2319 = .ok (.iload 4, 2) := by decide +kernel
theorem dL_law_2321 : decode cL_law 2321 = .ok (.iconst 2, 1) := by decide +kernel
theorem dL_law_2322 : decode cL_law 2322 = .ok (.iadd, 1) := by decide +kernel
theorem dL_law_2323 : decode cL_law 2323 = .ok (.iaload, 1) := by decide +kernel
theorem dL_law_2324 : decode cL_law 2324 = .ok (.aload_n 0, 1) := by decide +kernel
theorem dL_law_2325 : decode cL_law 2325 = .ok (.iload 4, 2) := by decide +kernel
theorem dL_law_2327 : decode cL_law 2327 = .ok (.iconst 3, 1) := by decide +kernel
theorem dL_law_2328 : decode cL_law 2328 = .ok (.iadd, 1) := by decide +kernel
theorem dL_law_2329 : decode cL_law 2329 = .ok (.iaload, 1) := by decide +kernel
theorem dL_law_2330 : decode cL_law 2330 = .ok (.invokevirtual 233, 3) := by decide +kernel
theorem dL_law_2333 : decode cL_law 2333 = .ok (.dstore 7, 2) := by decide +kernel
theorem dL_law_2335 : decode cL_law 2335 = .ok (.dload 5, 2) := by decide +kernel
theorem dL_law_2337 : decode cL_law 2337 = .ok (.dload 7, 2) := by decide +kernel
theorem dL_law_2339 : decode cL_law 2339 = .ok (.dcmp .l, 1) := by decide +kernel
theorem dL_law_2340 : decode cL_law 2340 = .ok (.ifCond .eq 21, 3) := by decide +kernel
theorem dL_law_2343 : decode cL_law 2343 = .ok (.dload 5, 2) := by decide +kernel
theorem dL_law_2345 : decode cL_law 2345 = .ok (.dload 5, 2) := by decide +kernel
theorem dL_law_2347 : decode cL_law 2347 = .ok (.dcmp .l, 1) := by decide +kernel
theorem dL_law_2348 : decode cL_law 2348 = .ok (.ifCond .eq 11, 3) := by decide +kernel
theorem dL_law_2351 : decode cL_law 2351 = .ok (.dload 7, 2) := by decide +kernel
theorem dL_law_2353 : decode cL_law 2353 = .ok (.dload 7, 2) := by decide +kernel
theorem dL_law_2355 : decode cL_law 2355 = .ok (.dcmp .l, 1) := by decide +kernel
theorem dL_law_2356 : decode cL_law 2356 = .ok (.ifCond .ne 5, 3) := by decide +kernel
theorem dL_law_2359 : decode cL_law 2359 = .ok (.iconst 0, 1) := by decide +kernel
theorem dL_law_2360 : decode cL_law 2360 = .ok (.ireturn, 1) := by decide +kernel
theorem dL_law_2361 : decode cL_law 2361 = .ok (.goto 178, 3) := by decide +kernel
theorem dL_law_2364 : decode cL_law 2364 = .ok (.aload_n 1, 1) := by decide +kernel
theorem dL_law_2365 : decode cL_law 2365 = .ok (.aload_n 0, 1) := by decide +kernel
theorem dL_law_2366 : decode cL_law 2366 = .ok (.iload 4, 2) := by decide +kernel
theorem dL_law_2368 : decode cL_law 2368 = .ok (.iconst 1, 1) := by decide +kernel
theorem dL_law_2369 : decode cL_law 2369 = .ok (.iadd, 1) := by decide +kernel
theorem dL_law_2370 : decode cL_law 2370 = .ok (.iaload, 1) := by decide +kernel
theorem dL_law_2371 : decode cL_law 2371 = .ok (.aload_n 0, 1) := by decide +kernel
theorem dL_law_2372 : decode cL_law 2372 = .ok (.iload 4, 2) := by decide +kernel
theorem dL_law_2374 : decode cL_law 2374 = .ok (.iconst 2, 1) := by decide +kernel
theorem dL_law_2375 : decode cL_law 2375 = .ok (.iadd, 1) := by decide +kernel
theorem dL_law_2376 : decode cL_law 2376 = .ok (.iaload, 1) := by decide +kernel
theorem dL_law_2377 : decode cL_law 2377 = .ok (.aload_n 0, 1) := by decide +kernel
theorem dL_law_2378 : decode cL_law 2378 = .ok (.iload 4, 2) := by decide +kernel
theorem dL_law_2380 : decode cL_law 2380 = .ok (.iconst 3, 1) := by decide +kernel
theorem dL_law_2381 : decode cL_law 2381 = .ok (.iadd, 1) := by decide +kernel
theorem dL_law_2382 : decode cL_law 2382 = .ok (.iaload, 1) := by decide +kernel
theorem dL_law_2383 : decode cL_law 2383 = .ok (.aload_n 0, 1) := by decide +kernel
theorem dL_law_2384 : decode cL_law 2384 = .ok (.iload 4, 2) := by decide +kernel
theorem dL_law_2386 : decode cL_law 2386 = .ok (.iconst 4, 1) := by decide +kernel
theorem dL_law_2387 : decode cL_law 2387 = .ok (.iadd, 1) := by decide +kernel
theorem dL_law_2388 : decode cL_law 2388 = .ok (.iaload, 1) := by decide +kernel
theorem dL_law_2389 : decode cL_law 2389 = .ok (.invokevirtual 234, 3) := by decide +kernel
theorem dL_law_2392 : decode cL_law 2392 = .ok (.dstore 5, 2) := by decide +kernel
theorem dL_law_2394 : decode cL_law 2394 = .ok (.aload_n 2, 1) := by decide +kernel
theorem dL_law_2395 : decode cL_law 2395 = .ok (.aload_n 0, 1) := by decide +kernel
theorem dL_law_2396 : decode cL_law 2396 = .ok (.iload 4, 2) := by decide +kernel
theorem dL_law_2398 : decode cL_law 2398 = .ok (.iconst 1, 1) := by decide +kernel
theorem dL_law_2399 : decode cL_law 2399 = .ok (.iadd, 1) := by decide +kernel
theorem dL_law_2400 : decode cL_law 2400 = .ok (.iaload, 1) := by decide +kernel
theorem dL_law_2401 : decode cL_law 2401 = .ok (.aload_n 0, 1) := by decide +kernel
theorem dL_law_2402 : decode cL_law 2402 = .ok (.iload 4, 2) := by decide +kernel
theorem dL_law_2404 : decode cL_law 2404 = .ok (.iconst 2, 1) := by decide +kernel
theorem dL_law_2405 : decode cL_law 2405 = .ok (.iadd, 1) := by decide +kernel
theorem dL_law_2406 : decode cL_law 2406 = .ok (.iaload, 1) := by decide +kernel
theorem dL_law_2407 : decode cL_law 2407 = .ok (.aload_n 0, 1) := by decide +kernel
theorem dL_law_2408 : decode cL_law 2408 = .ok (.iload 4, 2) := by decide +kernel
theorem dL_law_2410 : decode cL_law 2410 = .ok (.iconst 3, 1) := by decide +kernel
theorem dL_law_2411 : decode cL_law 2411 = .ok (.iadd, 1) := by decide +kernel
theorem dL_law_2412 : decode cL_law 2412 = .ok (.iaload, 1) := by decide +kernel
theorem dL_law_2413 : decode cL_law 2413 = .ok (.aload_n 0, 1) := by decide +kernel
theorem dL_law_2414 : decode cL_law 2414 = .ok (.iload 4, 2) := by decide +kernel
theorem dL_law_2416 : decode cL_law 2416 = .ok (.iconst 4, 1) := by decide +kernel
theorem dL_law_2417 : decode cL_law 2417 = .ok (.iadd, 1) := by decide +kernel
theorem dL_law_2418 : decode cL_law 2418 = .ok (.iaload, 1) := by decide +kernel
theorem dL_law_2419 : decode cL_law 2419 = .ok (.invokevirtual 238, 3) := by decide +kernel
theorem dL_law_2422 : decode cL_law 2422 = .ok (.dstore 7, 2) := by decide +kernel
