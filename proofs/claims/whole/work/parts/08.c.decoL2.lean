theorem dL_law_1796 : decode cL_law 1796 = .ok (.iaload, 1) := by decide +kernel
theorem dL_law_1797 : decode cL_law 1797 = .ok (.invokevirtual 157, 3) := by decide +kernel
theorem dL_law_1800 : decode cL_law 1800 = .ok (.if_icmp .eq 1470, 3) := by decide +kernel
theorem dL_law_1803 : decode cL_law 1803 = .ok (.iconst 0, 1) := by decide +kernel
theorem dL_law_1804 : decode cL_law 1804 = .ok (.ireturn, 1) := by decide +kernel
theorem dL_law_1805 : decode cL_law 1805 = .ok (.aload_n 1, 1) := by decide +kernel
theorem dL_law_1806 : decode cL_law 1806 = .ok (.aload_n 0, 1) := by decide +kernel
theorem dL_law_1807 : decode cL_law 1807 = .ok (.iload_n 3, 1) := by decide +kernel
theorem dL_law_1808 : decode cL_law 1808 = .ok (.iconst 1, 1) := by decide +kernel
theorem dL_law_1809 : decode cL_law 1809 = .ok (.iadd, 1) := by decide +kernel
theorem dL_law_1810 : decode cL_law 1810 = .ok (.iaload, 1) := by decide +kernel
theorem dL_law_1811 : decode cL_law 1811 = .ok (.invokevirtual 158, 3) := by decide +kernel
theorem dL_law_1814 : decode cL_law 1814 = .ok (.aload_n 2, 1) := by decide +kernel
theorem dL_law_1815 : decode cL_law 1815 = .ok (.aload_n 0, 1) := by decide +kernel
theorem dL_law_1816 : decode cL_law 1816 = .ok (.iload_n 3, 1) := by decide +kernel
theorem dL_law_1817 : decode cL_law 1817 = .ok (.iconst 1, 1) := by decide +kernel
theorem dL_law_1818 : decode cL_law 1818 = .ok (.iadd, 1) := by decide +kernel
theorem dL_law_1819 : decode cL_law 1819 = .ok (.iaload, 1) := by decide +kernel
theorem dL_law_1820 : decode cL_law 1820 = .ok (.invokevirtual 161, 3) := by decide +kernel
theorem dL_law_1823 : decode cL_law 1823 = .ok (.if_icmp .eq 1447, 3) := by decide +kernel
theorem dL_law_1826 : decode cL_law 1826 = .ok (.iconst 0, 1) := by decide +kernel
theorem dL_law_1827 : decode cL_law 1827 = .ok (.ireturn, 1) := by decide +kernel
theorem dL_law_1828 : decode cL_law 1828 = .ok (.aload_n 1, 1) := by decide +kernel
theorem dL_law_1829 : decode cL_law 1829 = .ok (.aload_n 0, 1) := by decide +kernel
theorem dL_law_1830 : decode cL_law 1830 = .ok (.iload_n 3, 1) := by decide +kernel
theorem dL_law_1831 : decode cL_law 1831 = .ok (.iconst 1, 1) := by decide +kernel
theorem dL_law_1832 : decode cL_law 1832 = .ok (.iadd, 1) := by decide +kernel
theorem dL_law_1833 : decode cL_law 1833 = .ok (.iaload, 1) := by decide +kernel
theorem dL_law_1834 : decode cL_law 1834 = .ok (.invokevirtual 162, 3) := by decide +kernel
theorem dL_law_1837 : decode cL_law 1837 = .ok (.aload_n 2, 1) := by decide +kernel
theorem dL_law_1838 : decode cL_law 1838 = .ok (.aload_n 0, 1) := by decide +kernel
theorem dL_law_1839 : decode cL_law 1839 = .ok (.iload_n 3, 1) := by decide +kernel
theorem dL_law_1840 : decode cL_law 1840 = .ok (.iconst 1, 1) := by decide +kernel
theorem dL_law_1841 : decode cL_law 1841 = .ok (.iadd, 1) := by decide +kernel
theorem dL_law_1842 : decode cL_law 1842 = .ok (.iaload, 1) := by decide +kernel
theorem dL_law_1843 : decode cL_law 1843 = .ok (.invokevirtual 165, 3) := by decide +kernel
theorem dL_law_1846 : decode cL_law 1846 = .ok (.if_icmp .eq 1424, 3) := by decide +kernel
theorem dL_law_1849 : decode cL_law 1849 = .ok (.iconst 0, 1) := by decide +kernel
theorem dL_law_1850 : decode cL_law 1850 = .ok (.ireturn, 1) := by decide +kernel
theorem dL_law_1851 : decode cL_law 1851 = .ok (.aload_n 1, 1) := by decide +kernel
theorem dL_law_1852 : decode cL_law 1852 = .ok (.aload_n 0, 1) := by decide +kernel
theorem dL_law_1853 : decode cL_law 1853 = .ok (.iload_n 3, 1) := by decide +kernel
theorem dL_law_1854 : decode cL_law 1854 = .ok (.iconst 1, 1) := by decide +kernel
theorem dL_law_1855 : decode cL_law 1855 = .ok (.iadd, 1) := by decide +kernel
theorem dL_law_1856 : decode cL_law 1856 = .ok (.iaload, 1) := by decide +kernel
theorem dL_law_1857 : decode cL_law 1857 = .ok (.invokevirtual 166, 3) := by decide +kernel
theorem dL_law_1860 : decode cL_law 1860 = .ok (.aload_n 2, 1) := by decide +kernel
theorem dL_law_1861 : decode cL_law 1861 = .ok (.aload_n 0, 1) := by decide +kernel
theorem dL_law_1862 : decode cL_law 1862 = .ok (.iload_n 3, 1) := by decide +kernel
theorem dL_law_1863 : decode cL_law 1863 = .ok (.iconst 1, 1) := by decide +kernel
theorem dL_law_1864 : decode cL_law 1864 = .ok (.iadd, 1) := by decide +kernel
theorem dL_law_1865 : decode cL_law 1865 = .ok (.iaload, 1) := by decide +kernel
theorem dL_law_1866 : decode cL_law 1866 = .ok (.invokevirtual 169, 3) := by decide +kernel
theorem dL_law_1869 : decode cL_law 1869 = .ok (.if_icmp .eq 1401, 3) := by decide +kernel
theorem dL_law_1872 : decode cL_law 1872 = .ok (.iconst 0, 1) := by decide +kernel
theorem dL_law_1873 : decode cL_law 1873 = .ok (.ireturn, 1) := by decide +kernel
theorem dL_law_1874 : decode cL_law 1874 = .ok (.aload_n 1, 1) := by decide +kernel
theorem dL_law_1875 : decode cL_law 1875 = .ok (.aload_n 0, 1) := by decide +kernel
theorem dL_law_1876 : decode cL_law 1876 = .ok (.iload_n 3, 1) := by decide +kernel
theorem dL_law_1877 : decode cL_law 1877 = .ok (.iconst 1, 1) := by decide +kernel
theorem dL_law_1878 : decode cL_law 1878 = .ok (.iadd, 1) := by decide +kernel
theorem dL_law_1879 : decode cL_law 1879 = .ok (.iaload, 1) := by decide +kernel
theorem dL_law_1880 : decode cL_law 1880 = .ok (.invokevirtual 170, 3) := by decide +kernel
theorem dL_law_1883 : decode cL_law 1883 = .ok (.aload_n 2, 1) := by decide +kernel
theorem dL_law_1884 : decode cL_law 1884 = .ok (.aload_n 0, 1) := by decide +kernel
theorem dL_law_1885 : decode cL_law 1885 = .ok (.iload_n 3, 1) := by decide +kernel
theorem dL_law_1886 : decode cL_law 1886 = .ok (.iconst 1, 1) := by decide +kernel
theorem dL_law_1887 : decode cL_law 1887 = .ok (.iadd, 1) := by decide +kernel
theorem dL_law_1888 : decode cL_law 1888 = .ok (.iaload, 1) := by decide +kernel
theorem dL_law_1889 : decode cL_law 1889 = .ok (.invokevirtual 174, 3) := by decide +kernel
theorem dL_law_1892 : decode cL_law 1892 = .ok (.lcmp, 1) := by decide +kernel
theorem dL_law_1893 : decode cL_law 1893 = .ok (.ifCond .eq 1377, 3) := by decide +kernel
theorem dL_law_1896 : decode cL_law 1896 = .ok (.iconst 0, 1) := by decide +kernel
theorem dL_law_1897 : decode cL_law 1897 = .ok (.ireturn, 1) := by decide +kernel
theorem dL_law_1898 : decode cL_law 1898 = .ok (.aload_n 1, 1) := by decide +kernel
theorem dL_law_1899 : decode cL_law 1899 = .ok (.aload_n 0, 1) := by decide +kernel
theorem dL_law_1900 : decode cL_law 1900 = .ok (.iload_n 3, 1) := by decide +kernel
theorem dL_law_1901 : decode cL_law 1901 = .ok (.iconst 1, 1) := by decide +kernel
theorem dL_law_1902 : decode cL_law 1902 = .ok (.iadd, 1) := by decide +kernel
theorem dL_law_1903 : decode cL_law 1903 = .ok (.iaload, 1) := by decide +kernel
theorem dL_law_1904 : decode cL_law 1904 = .ok (.aload_n 0, 1) := by decide +kernel
theorem dL_law_1905 : decode cL_law 1905 = .ok (.iload_n 3, 1) := by decide +kernel
theorem dL_law_1906 : decode cL_law 1906 = .ok (.iconst 2, 1) := by decide +kernel
theorem dL_law_1907 : decode cL_law 1907 = .ok (.iadd, 1) := by decide +kernel
theorem dL_law_1908 : decode cL_law 1908 = .ok (.iaload, 1) := by decide +kernel
theorem dL_law_1909 : decode cL_law 1909 = .ok (.i2l, 1) := by decide +kernel
theorem dL_law_1910 : decode cL_law 1910 = .ok (.bipush 32, 2) := by decide +kernel
theorem dL_law_1912 : decode cL_law 1912 = .ok (.lshl, 1) := by decide +kernel
theorem dL_law_1913 : decode cL_law 1913 = .ok (.aload_n 0, 1) := by decide +kernel
theorem dL_law_1914 : decode cL_law 1914 = .ok (.iload_n 3, 1) := by decide +kernel
theorem dL_law_1915 : decode cL_law 1915 = .ok (.iconst 3, 1) := by decide +kernel
theorem dL_law_1916 : decode cL_law 1916 = .ok (.iadd, 1) := by decide +kernel
theorem dL_law_1917 : decode cL_law 1917 = .ok (.iaload, 1) := by decide +kernel
theorem dL_law_1918 : decode cL_law 1918 = .ok (.i2l, 1) := by decide +kernel
theorem dL_law_1919 : decode cL_law 1919 = .ok (.ldc2_w 46, 3) := by decide +kernel
theorem dL_law_1922 : decode cL_law 1922 = .ok (.land, 1) := by decide +kernel
theorem dL_law_1923 : decode cL_law 1923 = .ok (.lor, 1) := by decide +kernel
theorem dL_law_1924 : decode cL_law 1924 = .ok (.invokevirtual 175, 3) := by decide +kernel
theorem dL_law_1927 : decode cL_law 1927 = .ok (.aload_n 2, 1) := by decide +kernel
theorem dL_law_1928 : decode cL_law 1928 = .ok (.aload_n 0, 1) := by decide +kernel
theorem dL_law_1929 : decode cL_law 1929 = .ok (.iload_n 3, 1) := by decide +kernel
theorem dL_law_1930 : decode cL_law 1930 = .ok (.iconst 1, 1) := by decide +kernel
theorem dL_law_1931 : decode cL_law 1931 = .ok (.iadd, 1) := by decide +kernel
theorem dL_law_1932 : decode cL_law 1932 = .ok (.iaload, 1) := by decide +kernel
theorem dL_law_1933 : decode cL_law 1933 = .ok (.aload_n 0, 1) := by decide +kernel
theorem dL_law_1934 : decode cL_law 1934 = .ok (.iload_n 3, 1) := by decide +kernel
theorem dL_law_1935 : decode cL_law 1935 = .ok (.iconst 2, 1) := by decide +kernel
theorem dL_law_1936 : decode cL_law 1936 = .ok (.iadd, 1) := by decide +kernel
theorem dL_law_1937 : decode cL_law 1937 = .ok (.iaload, 1) := by decide +kernel
theorem dL_law_1938 : decode cL_law 1938 = .ok (.i2l, 1) := by decide +kernel
theorem dL_law_1939 : decode cL_law 1939 = .ok (.bipush 32, 2) := by decide +kernel
theorem dL_law_1941 : decode cL_law 1941 = .ok (.lshl, 1) := by decide +kernel
theorem dL_law_1942 : decode cL_law 1942 = .ok (.aload_n 0, 1) := by decide +kernel
theorem dL_law_1943 : decode cL_law 1943 = .ok (.iload_n 3, 1) := by decide +kernel
theorem dL_law_1944 : decode cL_law 1944 = .ok (.iconst 3, 1) := by decide +kernel
theorem dL_law_1945 : decode cL_law 1945 = .ok (.iadd, 1) := by decide +kernel
theorem dL_law_1946 : decode cL_law 1946 = .ok (.iaload, 1) := by decide +kernel
theorem dL_law_1947 : decode cL_law 1947 = .ok (.i2l, 1) := by decide +kernel
theorem dL_law_1948 : decode cL_law 1948 = .ok (.ldc2_w 46, 3) := by decide +kernel
theorem dL_law_1951 : decode cL_law 1951 = .ok (.land, 1) := by decide +kernel
theorem dL_law_1952 : decode cL_law 1952 = .ok (.lor, 1) := by decide +kernel
theorem dL_law_1953 : decode cL_law 1953 = .ok (.invokevirtual 179, 3) := by decide +kernel
theorem dL_law_1956 : decode cL_law 1956 = .ok (.if_icmp .eq 1314, 3) := by decide +kernel
theorem dL_law_1959 : decode cL_law 1959 = .ok (.iconst 0, 1) := by decide +kernel
theorem dL_law_1960 : decode cL_law 1960 = .ok (.ireturn, 1) := by decide +kernel
theorem dL_law_1961 : decode cL_law 1961 = .ok (.aload_n 1, 1) := by decide +kernel
theorem dL_law_1962 : decode cL_law 1962 = .ok (.aload_n 0, 1) := by decide +kernel
theorem dL_law_1963 : decode cL_law 1963 = .ok (.iload_n 3, 1) := by decide +kernel
theorem dL_law_1964 : decode cL_law 1964 = .ok (.iconst 1, 1) := by decide +kernel
theorem dL_law_1965 : decode cL_law 1965 = .ok (.iadd, 1) := by decide +kernel
theorem dL_law_1966 : decode cL_law 1966 = .ok (.iaload, 1) := by decide +kernel
theorem dL_law_1967 : decode cL_law 1967 = .ok (.aload_n 0, 1) := by decide +kernel
theorem dL_law_1968 : decode cL_law 1968 = .ok (.iload_n 3, 1) := by decide +kernel
theorem dL_law_1969 : decode cL_law 1969 = .ok (.iconst 2, 1) := by decide +kernel
theorem dL_law_1970 : decode cL_law 1970 = .ok (.iadd, 1) := by decide +kernel
theorem dL_law_1971 : decode cL_law 1971 = .ok (.iaload, 1) := by decide +kernel
theorem dL_law_1972 : decode cL_law 1972 = .ok (.invokevirtual 180, 3) := by decide +kernel
theorem dL_law_1975 : decode cL_law 1975 = .ok (.aload_n 2, 1) := by decide +kernel
theorem dL_law_1976 : decode cL_law 1976 = .ok (.aload_n 0, 1) := by decide +kernel
theorem dL_law_1977 : decode cL_law 1977 = .ok (.iload_n 3, 1) := by decide +kernel
theorem dL_law_1978 : decode cL_law 1978 = .ok (.iconst 1, 1) := by decide +kernel
theorem dL_law_1979 : decode cL_law 1979 = .ok (.iadd, 1) := by decide +kernel
theorem dL_law_1980 : decode cL_law 1980 = .ok (.iaload, 1) := by decide +kernel
theorem dL_law_1981 : decode cL_law 1981 = .ok (.aload_n 0, 1) := by decide +kernel
theorem dL_law_1982 : decode cL_law 1982 = .ok (.iload_n 3, 1) := by decide +kernel
theorem dL_law_1983 : decode cL_law 1983 = .ok (.iconst 2, 1) := by decide +kernel
theorem dL_law_1984 : decode cL_law 1984 = .ok (.iadd, 1) := by decide +kernel
theorem dL_law_1985 : decode cL_law 1985 = .ok (.iaload, 1) := by decide +kernel
theorem dL_law_1986 : decode cL_law 1986 = .ok (.invokevirtual 183, 3) := by decide +kernel
theorem dL_law_1989 : decode cL_law 1989 = .ok (.if_icmp .eq 1281, 3) := by decide +kernel
theorem dL_law_1992 : decode cL_law 1992 = .ok (.iconst 0, 1) := by decide +kernel
theorem dL_law_1993 : decode cL_law 1993 = .ok (.ireturn, 1) := by decide +kernel
theorem dL_law_1994 : decode cL_law 1994 = .ok (.aload_n 1, 1) := by decide +kernel
theorem dL_law_1995 : decode cL_law 1995 = .ok (.aload_n 0, 1) := by decide +kernel
theorem dL_law_1996 : decode cL_law 1996 = .ok (.iload_n 3, 1) := by decide +kernel
theorem dL_law_1997 : decode cL_law 1997 = .ok (.iconst 1, 1) := by decide +kernel
theorem dL_law_1998 : decode cL_law 1998 = .ok (.iadd, 1) := by decide +kernel
theorem dL_law_1999 : decode cL_law 1999 = .ok (.iaload, 1) := by decide +kernel
theorem dL_law_2000 : decode cL_law 2000 = .ok (.aload_n 0, 1) := by decide +kernel
theorem dL_law_2001 : decode cL_law 2001 = .ok (.iload_n 3, 1) := by decide +kernel
theorem dL_law_2002 : decode cL_law 2002 = .ok (.iconst 2, 1) := by decide +kernel
theorem dL_law_2003 : decode cL_law 2003 = .ok (.iadd, 1) := by decide +kernel
theorem dL_law_2004 : decode cL_law 2004 = .ok (.iaload, 1) := by decide +kernel
theorem dL_law_2005 : decode cL_law 2005 = .ok (.aload_n 0, 1) := by decide +kernel
theorem dL_law_2006 : decode cL_law 2006 = .ok (.iload_n 3, 1) := by decide +kernel
theorem dL_law_2007 : decode cL_law 2007 = .ok (.iconst 3, 1) := by decide +kernel
theorem dL_law_2008 : decode cL_law 2008 = .ok (.iadd, 1) := by decide +kernel
theorem dL_law_2009 : decode cL_law 2009 = .ok (.iaload, 1) := by decide +kernel
theorem dL_law_2010 : decode cL_law 2010 = .ok (.invokevirtual 184, 3) := by decide +kernel
theorem dL_law_2013 : decode cL_law 2013 = .ok (.aload_n 2, 1) := by decide +kernel
theorem dL_law_2014 : decode cL_law 2014 = .ok (.aload_n 0, 1) := by decide +kernel
theorem dL_law_2015 : decode cL_law 2015 = .ok (.iload_n 3, 1) := by decide +kernel
theorem dL_law_2016 : decode cL_law 2016 = .ok (.iconst 1, 1) := by decide +kernel
theorem dL_law_2017 : decode cL_law 2017 = .ok (.iadd, 1) := by decide +kernel
theorem dL_law_2018 : decode cL_law 2018 = .ok (.iaload, 1) := by decide +kernel
theorem dL_law_2019 : decode cL_law 2019 = .ok (.aload_n 0, 1) := by decide +kernel
theorem dL_law_2020 : decode cL_law 2020 = .ok (.iload_n 3, 1) := by decide +kernel
theorem dL_law_2021 : decode cL_law 2021 = .ok (.iconst 2, 1) := by decide +kernel
theorem dL_law_2022 : decode cL_law 2022 = .ok (.iadd, 1) := by decide +kernel
theorem dL_law_2023 : decode cL_law 2023 = .ok (.iaload, 1) := by decide +kernel
theorem dL_law_2024 : decode cL_law 2024 = .ok (.aload_n 0, 1) := by decide +kernel
theorem dL_law_2025 : decode cL_law 2025 = .ok (.iload_n 3, 1) := by decide +kernel
theorem dL_law_2026 : decode cL_law 2026 = .ok (.iconst 3, 1) := by decide +kernel
theorem dL_law_2027 : decode cL_law 2027 = .ok (.iadd, 1) := by decide +kernel
theorem dL_law_2028 : decode cL_law 2028 = .ok (.iaload, 1) := by decide +kernel
theorem dL_law_2029 : decode cL_law 2029 = .ok (.invokevirtual 187, 3) := by decide +kernel
theorem dL_law_2032 : decode cL_law 2032 = .ok (.if_icmp .eq 1238, 3) := by decide +kernel
theorem dL_law_2035 : decode cL_law 2035 = .ok (.iconst 0, 1) := by decide +kernel
theorem dL_law_2036 : decode cL_law 2036 = .ok (.ireturn, 1) := by decide +kernel
theorem dL_law_2037 : decode cL_law 2037 = .ok (.aload_n 1, 1) := by decide +kernel
theorem dL_law_2038 : decode cL_law 2038 = .ok (.aload_n 0, 1) := by decide +kernel
theorem dL_law_2039 : decode cL_law 2039 = .ok (.iload_n 3, 1) := by decide +kernel
theorem dL_law_2040 : decode cL_law 2040 = .ok (.iconst 1, 1) := by decide +kernel
theorem dL_law_2041 : decode cL_law 2041 = .ok (.iadd, 1) := by decide +kernel
theorem dL_law_2042 : decode cL_law 2042 = .ok (.iaload, 1) := by decide +kernel
theorem dL_law_2043 : decode cL_law 2043 = .ok (.aload_n 0, 1) := by decide +kernel
theorem dL_law_2044 : decode cL_law 2044 = .ok (.iload_n 3, 1) := by decide +kernel
theorem dL_law_2045 : decode cL_law 2045 = .ok (.iconst 2, 1) := by decide +kernel
theorem dL_law_2046 : decode cL_law 2046 = .ok (.iadd, 1) := by decide +kernel
theorem dL_law_2047 : decode cL_law 2047 = .ok (.iaload, 1) := by decide +kernel
theorem dL_law_2048 : decode cL_law 2048 = .ok (.invokevirtual 188, 3) := by decide +kernel
theorem dL_law_2051 : decode cL_law 2051 = .ok (.aload_n 2, 1) := by decide +kernel
theorem dL_law_2052 : decode cL_law 2052 = .ok (.aload_n 0, 1) := by decide +kernel
theorem dL_law_2053 : decode cL_law 2053 = .ok (.iload_n 3, 1) := by decide +kernel
theorem dL_law_2054 : decode cL_law 2054 = .ok (.iconst 1, 1) := by decide +kernel
theorem dL_law_2055 : decode cL_law 2055 = .ok (.iadd, 1) := by decide +kernel
theorem dL_law_2056 : decode cL_law 2056 = .ok (.iaload, 1) := by decide +kernel
theorem dL_law_2057 : decode cL_law 2057 = .ok (.aload_n 0, 1) := by decide +kernel
theorem dL_law_2058 : decode cL_law 2058 = .ok (.iload_n 3, 1) := by decide +kernel
theorem dL_law_2059 : decode cL_law 2059 = .ok (.iconst 2, 1) := by decide +kernel
theorem dL_law_2060 : decode cL_law 2060 = .ok (.iadd, 1) := by decide +kernel
theorem dL_law_2061 : decode cL_law 2061 = .ok (.iaload, 1) := by decide +kernel
theorem dL_law_2062 : decode cL_law 2062 = .ok (.invokevirtual 191, 3) := by decide +kernel
theorem dL_law_2065 : decode cL_law 2065 = .ok (.if_icmp .eq 1205, 3) := by decide +kernel
theorem dL_law_2068 : decode cL_law 2068 = .ok (.iconst 0, 1) := by decide +kernel
theorem dL_law_2069 : decode cL_law 2069 = .ok (.ireturn, 1) := by decide +kernel
theorem dL_law_2070 : decode cL_law 2070 = .ok (.aload_n 1, 1) := by decide +kernel
theorem dL_law_2071 : decode cL_law 2071 = .ok (.aload_n 0, 1) := by decide +kernel
theorem dL_law_2072 : decode cL_law 2072 = .ok (.iload_n 3, 1) := by decide +kernel
theorem dL_law_2073 : decode cL_law 2073 = .ok (.iconst 1, 1) := by decide +kernel
theorem dL_law_2074 : decode cL_law 2074 = .ok (.iadd, 1) := by decide +kernel
theorem dL_law_2075 : decode cL_law 2075 = .ok (.iaload, 1) := by decide +kernel
theorem dL_law_2076 : decode cL_law 2076 = .ok (.aload_n 0, 1) := by decide +kernel
theorem dL_law_2077 : decode cL_law 2077 = .ok (.iload_n 3, 1) := by decide +kernel
theorem dL_law_2078 : decode cL_law 2078 = .ok (.iconst 2, 1) := by decide +kernel
theorem dL_law_2079 : decode cL_law 2079 = .ok (.iadd, 1) := by decide +kernel
theorem dL_law_2080 : decode cL_law 2080 = .ok (.iaload, 1) := by decide +kernel
theorem dL_law_2081 : decode cL_law 2081 = .ok (.invokevirtual 192, 3) := by decide +kernel
theorem dL_law_2084 : decode cL_law 2084 = .ok (.aload_n 2, 1) := by decide +kernel
theorem dL_law_2085 : decode cL_law 2085 = .ok (.aload_n 0, 1) := by decide +kernel
theorem dL_law_2086 : decode cL_law 2086 = .ok (.iload_n 3, 1) := by decide +kernel
theorem dL_law_2087 : decode cL_law 2087 = .ok (.iconst 1, 1) := by decide +kernel
theorem dL_law_2088 : decode cL_law 2088 = .ok (.iadd, 1) := by decide +kernel
theorem dL_law_2089 : decode cL_law 2089 = .ok (.iaload, 1) := by decide +kernel
theorem dL_law_2090 : decode cL_law 2090 = .ok (.aload_n 0, 1) := by decide +kernel
theorem dL_law_2091 : decode cL_law 2091 = .ok (.iload_n 3, 1) := by decide +kernel
theorem dL_law_2092 : decode cL_law 2092 = .ok (.iconst 2, 1) := by decide +kernel
theorem dL_law_2093 : decode cL_law 2093 = .ok (.iadd, 1) := by decide +kernel
theorem dL_law_2094 : decode cL_law 2094 = .ok (.iaload, 1) := by decide +kernel
theorem dL_law_2095 : decode cL_law 2095 = .ok (.invokevirtual 195, 3) := by decide +kernel
theorem dL_law_2098 : decode cL_law 2098 = .ok (.if_icmp .eq 1172, 3) := by decide +kernel
theorem dL_law_2101 : decode cL_law 2101 = .ok (.iconst 0, 1) := by decide +kernel
theorem dL_law_2102 : decode cL_law 2102 = .ok (.ireturn, 1) := by decide +kernel
theorem dL_law_2103 : decode cL_law 2103 = .ok (.aload_n 1, 1) := by decide +kernel
theorem dL_law_2104 : decode cL_law 2104 = .ok (.aload_n 0, 1) := by decide +kernel
theorem dL_law_2105 : decode cL_law 2105 = .ok (.iload_n 3, 1) := by decide +kernel
theorem dL_law_2106 : decode cL_law 2106 = .ok (.iconst 1, 1) := by decide +kernel
theorem dL_law_2107 : decode cL_law 2107 = .ok (.iadd, 1) := by decide +kernel
theorem dL_law_2108 : decode cL_law 2108 = .ok (.iaload, 1) := by decide +kernel
theorem dL_law_2109 : decode cL_law 2109 = .ok (.invokevirtual 196, 3) := by decide +kernel
theorem dL_law_2112 : decode cL_law 2112 = .ok (.aload_n 2, 1) := by decide +kernel
theorem dL_law_2113 : decode cL_law 2113 = .ok (.aload_n 0, 1) := by decide +kernel
theorem dL_law_2114 : decode cL_law 2114 = .ok (.iload_n 3, 1) := by decide +kernel
theorem dL_law_2115 : decode cL_law 2115 = .ok (.iconst 1, 1) := by decide +kernel
theorem dL_law_2116 : decode cL_law 2116 = .ok (.iadd, 1) := by decide +kernel
theorem dL_law_2117 : decode cL_law 2117 = .ok (.iaload, 1) := by decide +kernel
theorem dL_law_2118 : decode cL_law 2118 = .ok (.invokevirtual 199, 3) := by decide +kernel
theorem dL_law_2121 : decode cL_law 2121 = .ok (.if_icmp .eq 1149, 3) := by decide +kernel
theorem dL_law_2124 : decode cL_law 2124 = .ok (.iconst 0, 1) := by decide +kernel
theorem dL_law_2125 : decode cL_law 2125 = .ok (.ireturn, 1) := by decide +kernel
theorem dL_law_2126 : decode cL_law 2126 = .ok (.aload_n 1, 1) := by decide +kernel
theorem dL_law_2127 : decode cL_law 2127 = .ok (.aload_n 0, 1) := by decide +kernel
theorem dL_law_2128 : decode cL_law 2128 = .ok (.iload_n 3, 1) := by decide +kernel
theorem dL_law_2129 : decode cL_law 2129 = .ok (.iconst 1, 1) := by decide +kernel
theorem dL_law_2130 : decode cL_law 2130 = .ok (.iadd, 1) := by decide +kernel
theorem dL_law_2131 : decode cL_law 2131 = .ok (.iaload, 1) := by decide +kernel
theorem dL_law_2132 : decode cL_law 2132 = .ok (.aload_n 0, 1) := by decide +kernel
theorem dL_law_2133 : decode cL_law 2133 = .ok (.iload_n 3, 1) := by decide +kernel
theorem dL_law_2134 : decode cL_law 2134 = .ok (.iconst 2, 1) := by decide +kernel
theorem dL_law_2135 : decode cL_law 2135 = .ok (.iadd, 1) := by decide +kernel
theorem dL_law_2136 : decode cL_law 2136 = .ok (.iaload, 1) := by decide +kernel
theorem dL_law_2137 : decode cL_law 2137 = .ok (.i2l, 1) := by decide +kernel
theorem dL_law_2138 : decode cL_law 2138 = .ok (.bipush 32, 2) := by decide +kernel
theorem dL_law_2140 : decode cL_law 2140 = .ok (.lshl, 1) := by decide +kernel
theorem dL_law_2141 : decode cL_law 2141 = .ok (.aload_n 0, 1) := by decide +kernel
theorem dL_law_2142 : decode cL_law 2142 = .ok (.iload_n 3, 1) := by decide +kernel
theorem dL_law_2143 : decode cL_law 2143 = .ok (.iconst 3, 1) := by decide +kernel
theorem dL_law_2144 : decode cL_law 2144 = .ok (.iadd, 1) := by decide +kernel
theorem dL_law_2145 : decode cL_law 2145 = .ok (.iaload, 1) := by decide +kernel
theorem dL_law_2146 : decode cL_law 2146 = .ok (.i2l, 1) := by decide +kernel
theorem dL_law_2147 : decode cL_law 2147 = .ok (.ldc2_w 46, 3) := by decide +kernel
theorem dL_law_2150 : decode cL_law 2150 = .ok (.land, 1) := by decide +kernel
theorem dL_law_2151 : decode cL_law 2151 = .ok (.lor, 1) := by decide +kernel
theorem dL_law_2152 : decode cL_law 2152 = .ok (.invokevirtual 200, 3) := by decide +kernel
theorem dL_law_2155 : decode cL_law 2155 = .ok (.aload_n 2, 1) := by decide +kernel
theorem dL_law_2156 : decode cL_law 2156 = .ok (.aload_n 0, 1) := by decide +kernel
theorem dL_law_2157 : decode cL_law 2157 = .ok (.iload_n 3, 1) := by decide +kernel
theorem dL_law_2158 : decode cL_law 2158 = .ok (.iconst 1, 1) := by decide +kernel
theorem dL_law_2159 : decode cL_law 2159 = .ok (.iadd, 1) := by decide +kernel
theorem dL_law_2160 : decode cL_law 2160 = .ok (.iaload, 1) := by decide +kernel
theorem dL_law_2161 : decode cL_law 2161 = .ok (.aload_n 0, 1) := by decide +kernel
theorem dL_law_2162 : decode cL_law 2162 = .ok (.iload_n 3, 1) := by decide +kernel
theorem dL_law_2163 : decode cL_law 2163 = .ok (.iconst 2, 1) := by decide +kernel
theorem dL_law_2164 : decode cL_law 2164 = .ok (.iadd, 1) := by decide +kernel
theorem dL_law_2165 : decode cL_law 2165 = .ok (.iaload, 1) := by decide +kernel
theorem dL_law_2166 : decode cL_law 2166 = .ok (.i2l, 1) := by decide +kernel
theorem dL_law_2167 : decode cL_law 2167 = .ok (.bipush 32, 2) := by decide +kernel
theorem dL_law_2169 : decode cL_law 2169 = .ok (.lshl, 1) := by decide +kernel
theorem dL_law_2170 : decode cL_law 2170 = .ok (.aload_n 0, 1) := by decide +kernel
theorem dL_law_2171 : decode cL_law 2171 = .ok (.iload_n 3, 1) := by decide +kernel
theorem dL_law_2172 : decode cL_law 2172 = .ok (.iconst 3, 1) := by decide +kernel
theorem dL_law_2173 : decode cL_law 2173 = .ok (.iadd, 1) := by decide +kernel
theorem dL_law_2174 : decode cL_law 2174 = .ok (.iaload, 1) := by decide +kernel
theorem dL_law_2175 : decode cL_law 2175 = .ok (.i2l, 1) := by decide +kernel
theorem dL_law_2176 : decode cL_law 2176 = .ok (.ldc2_w 46, 3) := by decide +kernel
theorem dL_law_2179 : decode cL_law 2179 = .ok (.land, 1) := by decide +kernel
theorem dL_law_2180 : decode cL_law 2180 = .ok (.lor, 1) := by decide +kernel
theorem dL_law_2181 : decode cL_law 2181 = .ok (.invokevirtual 203, 3) := by decide +kernel
theorem dL_law_2184 : decode cL_law 2184 = .ok (.if_icmp .eq 1086, 3) := by decide +kernel
theorem dL_law_2187 : decode cL_law 2187 = .ok (.iconst 0, 1) := by decide +kernel
theorem dL_law_2188 : decode cL_law 2188 = .ok (.ireturn, 1) := by decide +kernel
theorem dL_law_2189 : decode cL_law 2189 = .ok (.aload_n 1, 1) := by decide +kernel
theorem dL_law_2190 : decode cL_law 2190 = .ok (.aload_n 0, 1) := by decide +kernel
theorem dL_law_2191 : decode cL_law 2191 = .ok (.iload_n 3, 1) := by decide +kernel
theorem dL_law_2192 : decode cL_law 2192 = .ok (.iconst 1, 1) := by decide +kernel
theorem dL_law_2193 : decode cL_law 2193 = .ok (.iadd, 1) := by decide +kernel
theorem dL_law_2194 : decode cL_law 2194 = .ok (.iaload, 1) := by decide +kernel
theorem dL_law_2195 : decode cL_law 2195 = .ok (.i2l, 1) := by decide +kernel
theorem dL_law_2196 : decode cL_law 2196 = .ok (.bipush 32, 2) := by decide +kernel
theorem dL_law_2198 : decode cL_law 2198 = .ok (.lshl, 1) := by decide +kernel
theorem dL_law_2199 : decode cL_law 2199 = .ok (.aload_n 0, 1) := by decide +kernel
theorem dL_law_2200 : decode cL_law 2200 = .ok (.iload_n 3, 1) := by decide +kernel
theorem dL_law_2201 : decode cL_law 2201 = .ok (.iconst 2, 1) := by decide +kernel
theorem dL_law_2202 : decode cL_law 2202 = .ok (.iadd, 1) := by decide +kernel
theorem dL_law_2203 : decode cL_law 2203 = .ok (.iaload, 1) := by decide +kernel
theorem dL_law_2204 : decode cL_law 2204 = .ok (.i2l, 1) := by decide +kernel
theorem dL_law_2205 : decode cL_law 2205 = .ok (.ldc2_w 46, 3) := by decide +kernel
theorem dL_law_2208 : decode cL_law 2208 = .ok (.land, 1) := by decide +kernel
theorem dL_law_2209 : decode cL_law 2209 = .ok (.lor, 1) := by decide +kernel
theorem dL_law_2210 : decode cL_law 2210 = .ok (.invokevirtual 204, 3) := by decide +kernel
theorem dL_law_2213 : decode cL_law 2213 = .ok (.aload_n 2, 1) := by decide +kernel
theorem dL_law_2214 : decode cL_law 2214 = .ok (.aload_n 0, 1) := by decide +kernel
theorem dL_law_2215 : decode cL_law 2215 = .ok (.iload_n 3, 1) := by decide +kernel
theorem dL_law_2216 : decode cL_law 2216 = .ok (.iconst 1, 1) := by decide +kernel
theorem dL_law_2217 : decode cL_law 2217 = .ok (.iadd, 1) := by decide +kernel
theorem dL_law_2218 : decode cL_law 2218 = .ok (.iaload, 1) := by decide +kernel
theorem dL_law_2219 : decode cL_law 2219 = .ok (.i2l, 1) := by decide +kernel
theorem dL_law_2220 : decode cL_law 2220 = .ok (.bipush 32, 2) := by decide +kernel
theorem dL_law_2222 : decode cL_law 2222 = .ok (.lshl, 1) := by decide +kernel
theorem dL_law_2223 : decode cL_law 2223 = .ok (.aload_n 0, 1) := by decide +kernel
theorem dL_law_2224 : decode cL_law 2224 = .ok (.iload_n 3, 1) := by decide +kernel
theorem dL_law_2225 : decode cL_law 2225 = .ok (.iconst 2, 1) := by decide +kernel
theorem dL_law_2226 : decode cL_law 2226 = .ok (.iadd, 1) := by decide +kernel
theorem dL_law_2227 : decode cL_law 2227 = .ok (.iaload, 1) := by decide +kernel
theorem dL_law_2228 : decode cL_law 2228 = .ok (.i2l, 1) := by decide +kernel
theorem dL_law_2229 : decode cL_law 2229 = .ok (.ldc2_w 46, 3) := by decide +kernel
theorem dL_law_2232 : decode cL_law 2232 = .ok (.land, 1) := by decide +kernel
theorem dL_law_2233 : decode cL_law 2233 = .ok (.lor, 1) := by decide +kernel
theorem dL_law_2234 : decode cL_law 2234 = .ok (.invokevirtual 208, 3) := by decide +kernel
theorem dL_law_2237 : decode cL_law 2237 = .ok (.if_icmp .eq 1033, 3) := by decide +kernel
theorem dL_law_2240 : decode cL_law 2240 = .ok (.iconst 0, 1) := by decide +kernel
theorem dL_law_2241 : decode cL_law 2241 = .ok (.ireturn, 1) := by decide +kernel
theorem dL_law_2242 : decode cL_law 2242 = .ok (.aload_n 1, 1) := by decide +kernel
theorem dL_law_2243 : decode cL_law 2243 = .ok (.aload_n 0, 1) := by decide +kernel
theorem dL_law_2244 : decode cL_law 2244 = .ok (.iload_n 3, 1) := by decide +kernel
theorem dL_law_2245 : decode cL_law 2245 = .ok (.iconst 1, 1) := by decide +kernel
theorem dL_law_2246 : decode cL_law 2246 = .ok (.iadd, 1) := by decide +kernel
theorem dL_law_2247 : decode cL_law 2247 = .ok (.iaload, 1) := by decide +kernel
theorem dL_law_2248 : decode cL_law 2248 = .ok (.aload_n 0, 1) := by decide +kernel
theorem dL_law_2249 : decode cL_law 2249 = .ok (.iload_n 3, 1) := by decide +kernel
theorem dL_law_2250 : decode cL_law 2250 = .ok (.iconst 2, 1) := by decide +kernel
theorem dL_law_2251 : decode cL_law 2251 = .ok (.iadd, 1) := by decide +kernel
theorem dL_law_2252 : decode cL_law 2252 = .ok (.iaload, 1) := by decide +kernel
theorem dL_law_2253 : decode cL_law 2253 = .ok (.invokevirtual 209, 3) := by decide +kernel
theorem dL_law_2256 : decode cL_law 2256 = .ok (.aload_n 2, 1) := by decide +kernel
theorem dL_law_2257 : decode cL_law 2257 = .ok (.aload_n 0, 1) := by decide +kernel
theorem dL_law_2258 : decode cL_law 2258 = .ok (.iload_n 3, 1) := by decide +kernel
theorem dL_law_2259 : decode cL_law 2259 = .ok (.iconst 1, 1) := by decide +kernel
theorem dL_law_2260 : decode cL_law 2260 = .ok (.iadd, 1) := by decide +kernel
theorem dL_law_2261 : decode cL_law 2261 = .ok (.iaload, 1) := by decide +kernel
theorem dL_law_2262 : decode cL_law 2262 = .ok (.aload_n 0, 1) := by decide +kernel
theorem dL_law_2263 : decode cL_law 2263 = .ok (.iload_n 3, 1) := by decide +kernel
theorem dL_law_2264 : decode cL_law 2264 = .ok (.iconst 2, 1) := by decide +kernel
theorem dL_law_2265 : decode cL_law 2265 = .ok (.iadd, 1) := by decide +kernel
theorem dL_law_2266 : decode cL_law 2266 = .ok (.iaload, 1) := by decide +kernel
theorem dL_law_2267 : decode cL_law 2267 = .ok (.invokevirtual 212, 3) := by decide +kernel
theorem dL_law_2270 : decode cL_law 2270 = .ok (.if_icmp .eq 1000, 3) := by decide +kernel
theorem dL_law_2273 : decode cL_law 2273 = .ok (.iconst 0, 1) := by decide +kernel
theorem dL_law_2274 : decode cL_law 2274 = .ok (.ireturn, 1) := by decide +kernel
theorem dL_law_2275 : decode cL_law 2275 = .ok (.aload_n 1, 1) := by decide +kernel
theorem dL_law_2276 : decode cL_law 2276 = .ok (.aload_n 0, 1) := by decide +kernel
theorem dL_law_2277 : decode cL_law 2277 = .ok (.iload_n 3, 1) := by decide +kernel
theorem dL_law_2278 : decode cL_law 2278 = .ok (.iconst 1, 1) := by decide +kernel
theorem dL_law_2279 : decode cL_law 2279 = .ok (.iadd, 1) := by decide +kernel
theorem dL_law_2280 : decode cL_law 2280 = .ok (.iaload, 1) := by decide +kernel
theorem dL_law_2281 : decode cL_law 2281 = .ok (.invokevirtual 213, 3) := by decide +kernel
theorem dL_law_2284 : decode cL_law 2284 = .ok (.aload_n 2, 1) := by decide +kernel
theorem dL_law_2285 : decode cL_law 2285 = .ok (.aload_n 0, 1) := by decide +kernel
theorem dL_law_2286 : decode cL_law 2286 = .ok (.iload_n 3, 1) := by decide +kernel
theorem dL_law_2287 : decode cL_law 2287 = .ok (.iconst 1, 1) := by decide +kernel
theorem dL_law_2288 : decode cL_law 2288 = .ok (.iadd, 1) := by decide +kernel
theorem dL_law_2289 : decode cL_law 2289 = .ok (.iaload, 1) := by decide +kernel
theorem dL_law_2290 : decode cL_law 2290 = .ok (.invokevirtual 216, 3) := by decide +kernel
theorem dL_law_2293 : decode cL_law 2293 = .ok (.lcmp, 1) := by decide +kernel
theorem dL_law_2294 : decode cL_law 2294 = .ok (.ifCond .eq 976, 3) := by decide +kernel
theorem dL_law_2297 : decode cL_law 2297 = .ok (.iconst 0, 1) := by decide +kernel
theorem dL_law_2298 : decode cL_law 2298 = .ok (.ireturn, 1) := by decide +kernel
theorem dL_law_2299 : decode cL_law 2299 = .ok (.aload_n 1, 1) := by decide +kernel
theorem dL_law_2300 : decode cL_law 2300 = .ok (.aload_n 0, 1) := by decide +kernel
theorem dL_law_2301 : decode cL_law 2301 = .ok (.iload_n 3, 1) := by decide +kernel
theorem dL_law_2302 : decode cL_law 2302 = .ok (.iconst 1, 1) := by decide +kernel
theorem dL_law_2303 : decode cL_law 2303 = .ok (.iadd, 1) := by decide +kernel
theorem dL_law_2304 : decode cL_law 2304 = .ok (.iaload, 1) := by decide +kernel
theorem dL_law_2305 : decode cL_law 2305 = .ok (.aload_n 0, 1) := by decide +kernel
theorem dL_law_2306 : decode cL_law 2306 = .ok (.iload_n 3, 1) := by decide +kernel
theorem dL_law_2307 : decode cL_law 2307 = .ok (.iconst 2, 1) := by decide +kernel
theorem dL_law_2308 : decode cL_law 2308 = .ok (.iadd, 1) := by decide +kernel
theorem dL_law_2309 : decode cL_law 2309 = .ok (.iaload, 1) := by decide +kernel
theorem dL_law_2310 : decode cL_law 2310 = .ok (.invokevirtual 217, 3) := by decide +kernel
theorem dL_law_2313 : decode cL_law 2313 = .ok (.aload_n 2, 1) := by decide +kernel
theorem dL_law_2314 : decode cL_law 2314 = .ok (.aload_n 0, 1) := by decide +kernel
theorem dL_law_2315 : decode cL_law 2315 = .ok (.iload_n 3, 1) := by decide +kernel
theorem dL_law_2316 : decode cL_law 2316 = .ok (.iconst 1, 1) := by decide +kernel
theorem dL_law_2317 : decode cL_law 2317 = .ok (.iadd, 1) := by decide +kernel
theorem dL_law_2318 : decode cL_law 2318 = .ok (.iaload, 1) := by decide +kernel
theorem dL_law_2319 : decode cL_law 2319 = .ok (.aload_n 0, 1) := by decide +kernel
theorem dL_law_2320 : decode cL_law 2320 = .ok (.iload_n 3, 1) := by decide +kernel
theorem dL_law_2321 : decode cL_law 2321 = .ok (.iconst 2, 1) := by decide +kernel
theorem dL_law_2322 : decode cL_law 2322 = .ok (.iadd, 1) := by decide +kernel
theorem dL_law_2323 : decode cL_law 2323 = .ok (.iaload, 1) := by decide +kernel
theorem dL_law_2324 : decode cL_law 2324 = .ok (.invokevirtual 220, 3) := by decide +kernel
theorem dL_law_2327 : decode cL_law 2327 = .ok (.if_icmp .eq 943, 3) := by decide +kernel
theorem dL_law_2330 : decode cL_law 2330 = .ok (.iconst 0, 1) := by decide +kernel
theorem dL_law_2331 : decode cL_law 2331 = .ok (.ireturn, 1) := by decide +kernel
theorem dL_law_2332 : decode cL_law 2332 = .ok (.aload_n 1, 1) := by decide +kernel
theorem dL_law_2333 : decode cL_law 2333 = .ok (.aload_n 0, 1) := by decide +kernel
theorem dL_law_2334 : decode cL_law 2334 = .ok (.iload_n 3, 1) := by decide +kernel
theorem dL_law_2335 : decode cL_law 2335 = .ok (.iconst 1, 1) := by decide +kernel
theorem dL_law_2336 : decode cL_law 2336 = .ok (.iadd, 1) := by decide +kernel
theorem dL_law_2337 : decode cL_law 2337 = .ok (.iaload, 1) := by decide +kernel
theorem dL_law_2338 : decode cL_law 2338 = .ok (.aload_n 0, 1) := by decide +kernel
theorem dL_law_2339 : decode cL_law 2339 = .ok (.iload_n 3, 1) := by decide +kernel
theorem dL_law_2340 : decode cL_law 2340 = .ok (.iconst 2, 1) := by decide +kernel
theorem dL_law_2341 : decode cL_law 2341 = .ok (.iadd, 1) := by decide +kernel
theorem dL_law_2342 : decode cL_law 2342 = .ok (.iaload, 1) := by decide +kernel
theorem dL_law_2343 : decode cL_law 2343 = .ok (.aload_n 0, 1) := by decide +kernel
theorem dL_law_2344 : decode cL_law 2344 = .ok (.iload_n 3, 1) := by decide +kernel
theorem dL_law_2345 : decode cL_law 2345 = .ok (.iconst 3, 1) := by decide +kernel
theorem dL_law_2346 : decode cL_law 2346 = .ok (.iadd, 1) := by decide +kernel
theorem dL_law_2347 : decode cL_law 2347 = .ok (.iaload, 1) := by decide +kernel
theorem dL_law_2348 : decode cL_law 2348 = .ok (.invokevirtual 221, 3) := by decide +kernel
theorem dL_law_2351 : decode cL_law 2351 = .ok (.aload_n 2, 1) := by decide +kernel
theorem dL_law_2352 : decode cL_law 2352 = .ok (.aload_n 0, 1) := by decide +kernel
theorem dL_law_2353 : decode cL_law 2353 = .ok (.iload_n 3, 1) := by decide +kernel
theorem dL_law_2354 : decode cL_law 2354 = .ok (.iconst 1, 1) := by decide +kernel
theorem dL_law_2355 : decode cL_law 2355 = .ok (.iadd, 1) := by decide +kernel
theorem dL_law_2356 : decode cL_law 2356 = .ok (.iaload, 1) := by decide +kernel
theorem dL_law_2357 : decode cL_law 2357 = .ok (.aload_n 0, 1) := by decide +kernel
theorem dL_law_2358 : decode cL_law 2358 = .ok (.iload_n 3, 1) := by decide +kernel
theorem dL_law_2359 : decode cL_law 2359 = .ok (.iconst 2, 1) := by decide +kernel
theorem dL_law_2360 : decode cL_law 2360 = .ok (.iadd, 1) := by decide +kernel
theorem dL_law_2361 : decode cL_law 2361 = .ok (.iaload, 1) := by decide +kernel
theorem dL_law_2362 : decode cL_law 2362 = .ok (.aload_n 0, 1) := by decide +kernel
theorem dL_law_2363 : decode cL_law 2363 = .ok (.iload_n 3, 1) := by decide +kernel
theorem dL_law_2364 : decode cL_law 2364 = .ok (.iconst 3, 1) := by decide +kernel
theorem dL_law_2365 : decode cL_law 2365 = .ok (.iadd, 1) := by decide +kernel
theorem dL_law_2366 : decode cL_law 2366 = .ok (.iaload, 1) := by decide +kernel
theorem dL_law_2367 : decode cL_law 2367 = .ok (.invokevirtual 224, 3) := by decide +kernel
theorem dL_law_2370 : decode cL_law 2370 = .ok (.if_icmp .eq 900, 3) := by decide +kernel
theorem dL_law_2373 : decode cL_law 2373 = .ok (.iconst 0, 1) := by decide +kernel
theorem dL_law_2374 : decode cL_law 2374 = .ok (.ireturn, 1) := by decide +kernel
theorem dL_law_2375 : decode cL_law 2375 = .ok (.aload_n 1, 1) := by decide +kernel
theorem dL_law_2376 : decode cL_law 2376 = .ok (.aload_n 0, 1) := by decide +kernel
theorem dL_law_2377 : decode cL_law 2377 = .ok (.iload_n 3, 1) := by decide +kernel
theorem dL_law_2378 : decode cL_law 2378 = .ok (.iconst 1, 1) := by decide +kernel
theorem dL_law_2379 : decode cL_law 2379 = .ok (.iadd, 1) := by decide +kernel
theorem dL_law_2380 : decode cL_law 2380 = .ok (.iaload, 1) := by decide +kernel
theorem dL_law_2381 : decode cL_law 2381 = .ok (.invokevirtual 225, 3) := by decide +kernel
theorem dL_law_2384 : decode cL_law 2384 = .ok (.aload_n 2, 1) := by decide +kernel
theorem dL_law_2385 : decode cL_law 2385 = .ok (.aload_n 0, 1) := by decide +kernel
theorem dL_law_2386 : decode cL_law 2386 = .ok (.iload_n 3, 1) := by decide +kernel
theorem dL_law_2387 : decode cL_law 2387 = .ok (.iconst 1, 1) := by decide +kernel
theorem dL_law_2388 : decode cL_law 2388 = .ok (.iadd, 1) := by decide +kernel
theorem dL_law_2389 : decode cL_law 2389 = .ok (.iaload, 1) := by decide +kernel
theorem dL_law_2390 : decode cL_law 2390 = .ok (.invokevirtual 228, 3) := by decide +kernel
theorem dL_law_2393 : decode cL_law 2393 = .ok (.if_icmp .eq 877, 3) := by decide +kernel
theorem dL_law_2396 : decode cL_law 2396 = .ok (.iconst 0, 1) := by decide +kernel
theorem dL_law_2397 : decode cL_law 2397 = .ok (.ireturn, 1) := by decide +kernel
theorem dL_law_2398 : decode cL_law 2398 = .ok (.aload_n 1, 1) := by decide +kernel
theorem dL_law_2399 : decode cL_law 2399 = .ok (.aload_n 0, 1) := by decide +kernel
theorem dL_law_2400 : decode cL_law 2400 = .ok (.iload_n 3, 1) := by decide +kernel
theorem dL_law_2401 : decode cL_law 2401 = .ok (.iconst 1, 1) := by decide +kernel
theorem dL_law_2402 : decode cL_law 2402 = .ok (.iadd, 1) := by decide +kernel
theorem dL_law_2403 : decode cL_law 2403 = .ok (.iaload, 1) := by decide +kernel
theorem dL_law_2404 : decode cL_law 2404 = .ok (.aload_n 0, 1) := by decide +kernel
theorem dL_law_2405 : decode cL_law 2405 = .ok (.iload_n 3, 1) := by decide +kernel
theorem dL_law_2406 : decode cL_law 2406 = .ok (.iconst 2, 1) := by decide +kernel
theorem dL_law_2407 : decode cL_law 2407 = .ok (.iadd, 1) := by decide +kernel
theorem dL_law_2408 : decode cL_law 2408 = .ok (.iaload, 1) := by decide +kernel
theorem dL_law_2409 : decode cL_law 2409 = .ok (.invokevirtual 229, 3) := by decide +kernel
theorem dL_law_2412 : decode cL_law 2412 = .ok (.aload_n 2, 1) := by decide +kernel
theorem dL_law_2413 : decode cL_law 2413 = .ok (.aload_n 0, 1) := by decide +kernel
theorem dL_law_2414 : decode cL_law 2414 = .ok (.iload_n 3, 1) := by decide +kernel
theorem dL_law_2415 : decode cL_law 2415 = .ok (.iconst 1, 1) := by decide +kernel
theorem dL_law_2416 : decode cL_law 2416 = .ok (.iadd, 1) := by decide +kernel
theorem dL_law_2417 : decode cL_law 2417 = .ok (.iaload, 1) := by decide +kernel
theorem dL_law_2418 : decode cL_law 2418 = .ok (.aload_n 0, 1) := by decide +kernel
theorem dL_law_2419 : decode cL_law 2419 = .ok (.iload_n 3, 1) := by decide +kernel
theorem dL_law_2420 : decode cL_law 2420 = .ok (.iconst 2, 1) := by decide +kernel
theorem dL_law_2421 : decode cL_law 2421 = .ok (.iadd, 1) := by decide +kernel
theorem dL_law_2422 : decode cL_law 2422 = .ok (.iaload, 1) := by decide +kernel
theorem dL_law_2423 : decode cL_law 2423 = .ok (.invokevirtual 232, 3) := by decide +kernel
theorem dL_law_2426 : decode cL_law 2426 = .ok (.if_icmp .eq 844, 3) := by decide +kernel
theorem dL_law_2429 : decode cL_law 2429 = .ok (.iconst 0, 1) := by decide +kernel
theorem dL_law_2430 : decode cL_law 2430 = .ok (.ireturn, 1) := by decide +kernel
theorem dL_law_2431 : decode cL_law 2431 = .ok (.aload_n 1, 1) := by decide +kernel
theorem dL_law_2432 : decode cL_law 2432 = .ok (.aload_n 0, 1) := by decide +kernel
theorem dL_law_2433 : decode cL_law 2433 = .ok (.iload_n 3, 1) := by decide +kernel
theorem dL_law_2434 : decode cL_law 2434 = .ok (.iconst 1, 1) := by decide +kernel
theorem dL_law_2435 : decode cL_law 2435 = .ok (.iadd, 1) := by decide +kernel
theorem dL_law_2436 : decode cL_law 2436 = .ok (.iaload, 1) := by decide +kernel
theorem dL_law_2437 : decode cL_law 2437 = .ok (.invokevirtual 233, 3) := by decide +kernel
theorem dL_law_2440 : decode cL_law 2440 = .ok (.aload_n 2, 1) := by decide +kernel
theorem dL_law_2441 : decode cL_law 2441 = .ok (.aload_n 0, 1) := by decide +kernel
theorem dL_law_2442 : decode cL_law 2442 = .ok (.iload_n 3, 1) := by decide +kernel
theorem dL_law_2443 : decode cL_law 2443 = .ok (.iconst 1, 1) := by decide +kernel
theorem dL_law_2444 : decode cL_law 2444 = .ok (.iadd, 1) := by decide +kernel
theorem dL_law_2445 : decode cL_law 2445 = .ok (.iaload, 1) := by decide +kernel
theorem dL_law_2446 : decode cL_law 2446 = .ok (.invokevirtual 236, 3) := by decide +kernel
theorem dL_law_2449 : decode cL_law 2449 = .ok (.if_icmp .eq 821, 3) := by decide +kernel
theorem dL_law_2452 : decode cL_law 2452 = .ok (.iconst 0, 1) := by decide +kernel
theorem dL_law_2453 : decode cL_law 2453 = .ok (.ireturn, 1) := by decide +kernel
theorem dL_law_2454 : decode cL_law 2454 = .ok (.aload_n 1, 1) := by decide +kernel
theorem dL_law_2455 : decode cL_law 2455 = .ok (.aload_n 0, 1) := by decide +kernel
theorem dL_law_2456 : decode cL_law 2456 = .ok (.iload_n 3, 1) := by decide +kernel
theorem dL_law_2457 : decode cL_law 2457 = .ok (.iconst 1, 1) := by decide +kernel
theorem dL_law_2458 : decode cL_law 2458 = .ok (.iadd, 1) := by decide +kernel
theorem dL_law_2459 : decode cL_law 2459 = .ok (.iaload, 1) := by decide +kernel
theorem dL_law_2460 : decode cL_law 2460 = .ok (.aload_n 0, 1) := by decide +kernel
theorem dL_law_2461 : decode cL_law 2461 = .ok (.iload_n 3, 1) := by decide +kernel
theorem dL_law_2462 : decode cL_law 2462 = .ok (.iconst 2, 1) := by decide +kernel
theorem dL_law_2463 : decode cL_law 2463 = .ok (.iadd, 1) := by decide +kernel
theorem dL_law_2464 : decode cL_law 2464 = .ok (.iaload, 1) := by decide +kernel
theorem dL_law_2465 : decode cL_law 2465 = .ok (.invokevirtual 237, 3) := by decide +kernel
theorem dL_law_2468 : decode cL_law 2468 = .ok (.aload_n 2, 1) := by decide +kernel
theorem dL_law_2469 : decode cL_law 2469 = .ok (.aload_n 0, 1) := by decide +kernel
theorem dL_law_2470 : decode cL_law 2470 = .ok (.iload_n 3, 1) := by decide +kernel
theorem dL_law_2471 : decode cL_law 2471 = .ok (.iconst 1, 1) := by decide +kernel
theorem dL_law_2472 : decode cL_law 2472 = .ok (.iadd, 1) := by decide +kernel
theorem dL_law_2473 : decode cL_law 2473 = .ok (.iaload, 1) := by decide +kernel
theorem dL_law_2474 : decode cL_law 2474 = .ok (.aload_n 0, 1) := by decide +kernel
theorem dL_law_2475 : decode cL_law 2475 = .ok (.iload_n 3, 1) := by decide +kernel
theorem dL_law_2476 : decode cL_law 2476 = .ok (.iconst 2, 1) := by decide +kernel
theorem dL_law_2477 : decode cL_law 2477 = .ok (.iadd, 1) := by decide +kernel
theorem dL_law_2478 : decode cL_law 2478 = .ok (.iaload, 1) := by decide +kernel
theorem dL_law_2479 : decode cL_law 2479 = .ok (.invokevirtual 240, 3) := by decide +kernel
theorem dL_law_2482 : decode cL_law 2482 = .ok (.lcmp, 1) := by decide +kernel
theorem dL_law_2483 : decode cL_law 2483 = .ok (.ifCond .eq 787, 3) := by decide +kernel
theorem dL_law_2486 : decode cL_law 2486 = .ok (.iconst 0, 1) := by decide +kernel
theorem dL_law_2487 : decode cL_law 2487 = .ok (.ireturn, 1) := by decide +kernel
theorem dL_law_2488 : decode cL_law 2488 = .ok (.aload_n 1, 1) := by decide +kernel
theorem dL_law_2489 : decode cL_law 2489 = .ok (.aload_n 0, 1) := by decide +kernel
theorem dL_law_2490 : decode cL_law 2490 = .ok (.iload_n 3, 1) := by decide +kernel
theorem dL_law_2491 : decode cL_law 2491 = .ok (.iconst 1, 1) := by decide +kernel
theorem dL_law_2492 : decode cL_law 2492 = .ok (.iadd, 1) := by decide +kernel
theorem dL_law_2493 : decode cL_law 2493 = .ok (.iaload, 1) := by decide +kernel
theorem dL_law_2494 : decode cL_law 2494 = .ok (.aload_n 0, 1) := by decide +kernel
theorem dL_law_2495 : decode cL_law 2495 = .ok (.iload_n 3, 1) := by decide +kernel
theorem dL_law_2496 : decode cL_law 2496 = .ok (.iconst 2, 1) := by decide +kernel
theorem dL_law_2497 : decode cL_law 2497 = .ok (.iadd, 1) := by decide +kernel
theorem dL_law_2498 : decode cL_law 2498 = .ok (.iaload, 1) := by decide +kernel
theorem dL_law_2499 : decode cL_law 2499 = .ok (.aload_n 0, 1) := by decide +kernel
theorem dL_law_2500 : decode cL_law 2500 = .ok (.iload_n 3, 1) := by decide +kernel
theorem dL_law_2501 : decode cL_law 2501 = .ok (.iconst 3, 1) := by decide +kernel
theorem dL_law_2502 : decode cL_law 2502 = .ok (.iadd, 1) := by decide +kernel
theorem dL_law_2503 : decode cL_law 2503 = .ok (.iaload, 1) := by decide +kernel
theorem dL_law_2504 : decode cL_law 2504 = .ok (.invokevirtual 241, 3) := by decide +kernel
theorem dL_law_2507 : decode cL_law 2507 = .ok (.aload_n 2, 1) := by decide +kernel
theorem dL_law_2508 : decode cL_law 2508 = .ok (.aload_n 0, 1) := by decide +kernel
theorem dL_law_2509 : decode cL_law 2509 = .ok (.iload_n 3, 1) := by decide +kernel
theorem dL_law_2510 : decode cL_law 2510 = .ok (.iconst 1, 1) := by decide +kernel
theorem dL_law_2511 : decode cL_law 2511 = .ok (.iadd, 1) := by decide +kernel
theorem dL_law_2512 : decode cL_law 2512 = .ok (.iaload, 1) := by decide +kernel
theorem dL_law_2513 : decode cL_law 2513 = .ok (.aload_n 0, 1) := by decide +kernel
theorem dL_law_2514 : decode cL_law 2514 = .ok (.iload_n 3, 1) := by decide +kernel
theorem dL_law_2515 : decode cL_law 2515 = .ok (.iconst 2, 1) := by decide +kernel
theorem dL_law_2516 : decode cL_law 2516 = .ok (.iadd, 1) := by decide +kernel
theorem dL_law_2517 : decode cL_law 2517 = .ok (.iaload, 1) := by decide +kernel
theorem dL_law_2518 : decode cL_law 2518 = .ok (.aload_n 0, 1) := by decide +kernel
theorem dL_law_2519 : decode cL_law 2519 = .ok (.iload_n 3, 1) := by decide +kernel
theorem dL_law_2520 : decode cL_law 2520 = .ok (.iconst 3, 1) := by decide +kernel
theorem dL_law_2521 : decode cL_law 2521 = .ok (.iadd, 1) := by decide +kernel
theorem dL_law_2522 : decode cL_law 2522 = .ok (.iaload, 1) := by decide +kernel
theorem dL_law_2523 : decode cL_law 2523 = .ok (.invokevirtual 244, 3) := by decide +kernel
theorem dL_law_2526 : decode cL_law 2526 = .ok (.if_icmp .eq 744, 3) := by decide +kernel
theorem dL_law_2529 : decode cL_law 2529 = .ok (.iconst 0, 1) := by decide +kernel
theorem dL_law_2530 : decode cL_law 2530 = .ok (.ireturn, 1) := by decide +kernel
theorem dL_law_2531 : decode cL_law 2531 = .ok (.aload_n 1, 1) := by decide +kernel
theorem dL_law_2532 : decode cL_law 2532 = .ok (.aload_n 0, 1) := by decide +kernel
theorem dL_law_2533 : decode cL_law 2533 = .ok (.iload_n 3, 1) := by decide +kernel
theorem dL_law_2534 : decode cL_law 2534 = .ok (.iconst 1, 1) := by decide +kernel
theorem dL_law_2535 : decode cL_law 2535 = .ok (.iadd, 1) := by decide +kernel
theorem dL_law_2536 : decode cL_law 2536 = .ok (.iaload, 1) := by decide +kernel
theorem dL_law_2537 : decode cL_law 2537 = .ok (.aload_n 0, 1) := by decide +kernel
theorem dL_law_2538 : decode cL_law 2538 = .ok (.iload_n 3, 1) := by decide +kernel
theorem dL_law_2539 : decode cL_law 2539 = .ok (.iconst 2, 1) := by decide +kernel
theorem dL_law_2540 : decode cL_law 2540 = .ok (.iadd, 1) := by decide +kernel
theorem dL_law_2541 : decode cL_law 2541 = .ok (.iaload, 1) := by decide +kernel
theorem dL_law_2542 : decode cL_law 2542 = .ok (.i2l, 1) := by decide +kernel
theorem dL_law_2543 : decode cL_law 2543 = .ok (.bipush 32, 2) := by decide +kernel
theorem dL_law_2545 : decode cL_law 2545 = .ok (.lshl, 1) := by decide +kernel
theorem dL_law_2546 : decode cL_law 2546 = .ok (.aload_n 0, 1) := by decide +kernel
theorem dL_law_2547 : decode cL_law 2547 = .ok (.iload_n 3, 1) := by decide +kernel
theorem dL_law_2548 : decode cL_law 2548 = .ok (.iconst 3, 1) := by decide +kernel
theorem dL_law_2549 : decode cL_law 2549 = .ok (.iadd, 1) := by decide +kernel
theorem dL_law_2550 : decode cL_law 2550 = .ok (.iaload, 1) := by decide +kernel
theorem dL_law_2551 : decode cL_law 2551 = .ok (.i2l, 1) := by decide +kernel
theorem dL_law_2552 : decode cL_law 2552 = .ok (.ldc2_w 46, 3) := by decide +kernel
theorem dL_law_2555 : decode cL_law 2555 = .ok (.land, 1) := by decide +kernel
theorem dL_law_2556 : decode cL_law 2556 = .ok (.lor, 1) := by decide +kernel
theorem dL_law_2557 : decode cL_law 2557 = .ok (.aload_n 0, 1) := by decide +kernel
theorem dL_law_2558 : decode cL_law 2558 = .ok (.iload_n 3, 1) := by decide +kernel
theorem dL_law_2559 : decode cL_law 2559 = .ok (.iconst 4, 1) := by decide +kernel
theorem dL_law_2560 : decode cL_law 2560 = .ok (.iadd, 1) := by decide +kernel
theorem dL_law_2561 : decode cL_law 2561 = .ok (.iaload, 1) := by decide +kernel
theorem dL_law_2562 : decode cL_law 2562 = .ok (.i2l, 1) := by decide +kernel
theorem dL_law_2563 : decode cL_law 2563 = .ok (.bipush 32, 2) := by decide +kernel
theorem dL_law_2565 : decode cL_law 2565 = .ok (.lshl, 1) := by decide +kernel
theorem dL_law_2566 : decode cL_law 2566 = .ok (.aload_n 0, 1) := by decide +kernel
theorem dL_law_2567 : decode cL_law 2567 = .ok (.iload_n 3, 1) := by decide +kernel
