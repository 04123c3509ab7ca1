/-! decode rows -/
theorem dL_law_1801 : decode cL_law 1801 = .ok (.iadd, 1) := dn_96 (oo_34 19 rfl rfl)
theorem dL_law_1802 : decode cL_law 1802 = .ok (.iaload, 1) := dn_46 (oo_34 20 rfl rfl)
theorem dL_law_1803 : decode cL_law 1803 = .ok (.aload_n 3, 1) := dn_45 (oo_34 21 rfl rfl)
theorem dL_law_1804 : decode cL_law 1804 = .ok (.invokestatic 290, 3) := dn_184 (oo_34 22 rfl rfl) rfl
theorem dL_law_1807 : decode cL_law 1807 = .ok (.istore 5, 2) := dn_54 (oo_34 25 rfl rfl) rfl
theorem dL_law_1809 : decode cL_law 1809 = .ok (.aload_n 2, 1) := dn_44 (oo_34 27 rfl rfl)
theorem dL_law_1810 : decode cL_law 1810 = .ok (.aload_n 0, 1) := dn_42 (oo_34 28 rfl rfl)
theorem dL_law_1811 : decode cL_law 1811 = .ok (.iload 4, 2) := dn_21 (oo_34 29 rfl rfl) rfl
theorem dL_law_1813 : decode cL_law 1813 = .ok (.iconst 1, 1) := dn_4 (oo_34 31 rfl rfl)
theorem dL_law_1814 : decode cL_law 1814 = .ok (.iadd, 1) := dn_96 (oo_34 32 rfl rfl)
theorem dL_law_1815 : decode cL_law 1815 = .ok (.iaload, 1) := dn_46 (oo_34 33 rfl rfl)
theorem dL_law_1816 : decode cL_law 1816 = .ok (.invokevirtual 292, 3) := dn_182 (oo_34 34 rfl rfl) rfl
theorem dL_law_1819 : decode cL_law 1819 = .ok (.istore 6, 2) := dn_54 (oo_34 37 rfl rfl) rfl
theorem dL_law_1821 : decode cL_law 1821 = .ok (.goto 394, 3) := dn_167 (oo_34 39 rfl rfl) (by decide +kernel)
theorem dL_law_1824 : decode cL_law 1824 = .ok (.aload_n 1, 1) := dn_43 (oo_34 42 rfl rfl)
theorem dL_law_1825 : decode cL_law 1825 = .ok (.aload_n 0, 1) := dn_42 (oo_34 43 rfl rfl)
theorem dL_law_1826 : decode cL_law 1826 = .ok (.iload 4, 2) := dn_21 (oo_34 44 rfl rfl) rfl
theorem dL_law_1828 : decode cL_law 1828 = .ok (.iconst 1, 1) := dn_4 (oo_34 46 rfl rfl)
theorem dL_law_1829 : decode cL_law 1829 = .ok (.iadd, 1) := dn_96 (oo_34 47 rfl rfl)
theorem dL_law_1830 : decode cL_law 1830 = .ok (.iaload, 1) := dn_46 (oo_34 48 rfl rfl)
theorem dL_law_1831 : decode cL_law 1831 = .ok (.aload_n 0, 1) := dn_42 (oo_35 0 rfl rfl)
theorem dL_law_1832 : decode cL_law 1832 = .ok (.iload 4, 2) := dn_21 (oo_35 1 rfl rfl) rfl
theorem dL_law_1834 : decode cL_law 1834 = .ok (.iconst 2, 1) := dn_5 (oo_35 3 rfl rfl)
theorem dL_law_1835 : decode cL_law 1835 = .ok (.iadd, 1) := dn_96 (oo_35 4 rfl rfl)
theorem dL_law_1836 : decode cL_law 1836 = .ok (.iaload, 1) := dn_46 (oo_35 5 rfl rfl)
theorem dL_law_1837 : decode cL_law 1837 = .ok (.aload_n 0, 1) := dn_42 (oo_35 6 rfl rfl)
theorem dL_law_1838 : decode cL_law 1838 = .ok (.iload 4, 2) := dn_21 (oo_35 7 rfl rfl) rfl
theorem dL_law_1840 : decode cL_law 1840 = .ok (.iconst 3, 1) := dn_6 (oo_35 9 rfl rfl)
theorem dL_law_1841 : decode cL_law 1841 = .ok (.iadd, 1) := dn_96 (oo_35 10 rfl rfl)
theorem dL_law_1842 : decode cL_law 1842 = .ok (.iaload, 1) := dn_46 (oo_35 11 rfl rfl)
theorem dL_law_1843 : decode cL_law 1843 = .ok (.aload_n 3, 1) := dn_45 (oo_35 12 rfl rfl)
theorem dL_law_1844 : decode cL_law 1844 = .ok (.invokestatic 293, 3) := dn_184 (oo_35 13 rfl rfl) rfl
theorem dL_law_1847 : decode cL_law 1847 = .ok (.istore 5, 2) := dn_54 (oo_35 16 rfl rfl) rfl
theorem dL_law_1849 : decode cL_law 1849 = .ok (.aload_n 2, 1) := dn_44 (oo_35 18 rfl rfl)
theorem dL_law_1850 : decode cL_law 1850 = .ok (.aload_n 0, 1) := dn_42 (oo_35 19 rfl rfl)
theorem dL_law_1851 : decode cL_law 1851 = .ok (.iload 4, 2) := dn_21 (oo_35 20 rfl rfl) rfl
theorem dL_law_1853 : decode cL_law 1853 = .ok (.iconst 1, 1) := dn_4 (oo_35 22 rfl rfl)
theorem dL_law_1854 : decode cL_law 1854 = .ok (.iadd, 1) := dn_96 (oo_35 23 rfl rfl)
theorem dL_law_1855 : decode cL_law 1855 = .ok (.iaload, 1) := dn_46 (oo_35 24 rfl rfl)
theorem dL_law_1856 : decode cL_law 1856 = .ok (.aload_n 0, 1) := dn_42 (oo_35 25 rfl rfl)
theorem dL_law_1857 : decode cL_law 1857 = .ok (.iload 4, 2) := dn_21 (oo_35 26 rfl rfl) rfl
theorem dL_law_1859 : decode cL_law 1859 = .ok (.iconst 2, 1) := dn_5 (oo_35 28 rfl rfl)
theorem dL_law_1860 : decode cL_law 1860 = .ok (.iadd, 1) := dn_96 (oo_35 29 rfl rfl)
theorem dL_law_1861 : decode cL_law 1861 = .ok (.iaload, 1) := dn_46 (oo_35 30 rfl rfl)
theorem dL_law_1862 : decode cL_law 1862 = .ok (.aload_n 0, 1) := dn_42 (oo_35 31 rfl rfl)
theorem dL_law_1863 : decode cL_law 1863 = .ok (.iload 4, 2) := dn_21 (oo_35 32 rfl rfl) rfl
theorem dL_law_1865 : decode cL_law 1865 = .ok (.iconst 3, 1) := dn_6 (oo_35 34 rfl rfl)
theorem dL_law_1866 : decode cL_law 1866 = .ok (.iadd, 1) := dn_96 (oo_35 35 rfl rfl)
theorem dL_law_1867 : decode cL_law 1867 = .ok (.iaload, 1) := dn_46 (oo_35 36 rfl rfl)
theorem dL_law_1868 : decode cL_law 1868 = .ok (.invokevirtual 295, 3) := dn_182 (oo_35 37 rfl rfl) rfl
theorem dL_law_1871 : decode cL_law 1871 = .ok (.istore 6, 2) := dn_54 (oo_35 40 rfl rfl) rfl
theorem dL_law_1873 : decode cL_law 1873 = .ok (.goto 342, 3) := dn_167 (oo_35 42 rfl rfl) (by decide +kernel)
theorem dL_law_1876 : decode cL_law 1876 = .ok (.aload_n 1, 1) := dn_43 (oo_36 0 rfl rfl)
theorem dL_law_1877 : decode cL_law 1877 = .ok (.aload_n 0, 1) := dn_42 (oo_36 1 rfl rfl)
theorem dL_law_1878 : decode cL_law 1878 = .ok (.iload 4, 2) := dn_21 (oo_36 2 rfl rfl) rfl
theorem dL_law_1880 : decode cL_law 1880 = .ok (.iconst 1, 1) := dn_4 (oo_36 4 rfl rfl)
theorem dL_law_1881 : decode cL_law 1881 = .ok (.iadd, 1) := dn_96 (oo_36 5 rfl rfl)
theorem dL_law_1882 : decode cL_law 1882 = .ok (.iaload, 1) := dn_46 (oo_36 6 rfl rfl)
theorem dL_law_1883 : decode cL_law 1883 = .ok (.aload_n 0, 1) := dn_42 (oo_36 7 rfl rfl)
theorem dL_law_1884 : decode cL_law 1884 = .ok (.iload 4, 2) := dn_21 (oo_36 8 rfl rfl) rfl
theorem dL_law_1886 : decode cL_law 1886 = .ok (.iconst 2, 1) := dn_5 (oo_36 10 rfl rfl)
theorem dL_law_1887 : decode cL_law 1887 = .ok (.iadd, 1) := dn_96 (oo_36 11 rfl rfl)
theorem dL_law_1888 : decode cL_law 1888 = .ok (.iaload, 1) := dn_46 (oo_36 12 rfl rfl)
theorem dL_law_1889 : decode cL_law 1889 = .ok (.aload_n 3, 1) := dn_45 (oo_36 13 rfl rfl)
theorem dL_law_1890 : decode cL_law 1890 = .ok (.invokestatic 296, 3) := dn_184 (oo_36 14 rfl rfl) rfl
theorem dL_law_1893 : decode cL_law 1893 = .ok (.istore 5, 2) := dn_54 (oo_36 17 rfl rfl) rfl
theorem dL_law_1895 : decode cL_law 1895 = .ok (.aload_n 2, 1) := dn_44 (oo_36 19 rfl rfl)
theorem dL_law_1896 : decode cL_law 1896 = .ok (.aload_n 0, 1) := dn_42 (oo_36 20 rfl rfl)
theorem dL_law_1897 : decode cL_law 1897 = .ok (.iload 4, 2) := dn_21 (oo_36 21 rfl rfl) rfl
theorem dL_law_1899 : decode cL_law 1899 = .ok (.iconst 1, 1) := dn_4 (oo_36 23 rfl rfl)
theorem dL_law_1900 : decode cL_law 1900 = .ok (.iadd, 1) := dn_96 (oo_36 24 rfl rfl)
theorem dL_law_1901 : decode cL_law 1901 = .ok (.iaload, 1) := dn_46 (oo_36 25 rfl rfl)
theorem dL_law_1902 : decode cL_law 1902 = .ok (.aload_n 0, 1) := dn_42 (oo_36 26 rfl rfl)
theorem dL_law_1903 : decode cL_law 1903 = .ok (.iload 4, 2) := dn_21 (oo_36 27 rfl rfl) rfl
theorem dL_law_1905 : decode cL_law 1905 = .ok (.iconst 2, 1) := dn_5 (oo_36 29 rfl rfl)
theorem dL_law_1906 : decode cL_law 1906 = .ok (.iadd, 1) := dn_96 (oo_36 30 rfl rfl)
theorem dL_law_1907 : decode cL_law 1907 = .ok (.iaload, 1) := dn_46 (oo_36 31 rfl rfl)
theorem dL_law_1908 : decode cL_law 1908 = .ok (.invokevirtual 298, 3) := dn_182 (oo_36 32 rfl rfl) rfl
theorem dL_law_1911 : decode cL_law 1911 = .ok (.istore 6, 2) := dn_54 (oo_36 35 rfl rfl) rfl
theorem dL_law_1913 : decode cL_law 1913 = .ok (.goto 302, 3) := dn_167 (oo_36 37 rfl rfl) (by decide +kernel)
theorem dL_law_1916 : decode cL_law 1916 = .ok (.aload_n 1, 1) := dn_43 (oo_36 40 rfl rfl)
theorem dL_law_1917 : decode cL_law 1917 = .ok (.aload_n 0, 1) := dn_42 (oo_36 41 rfl rfl)
theorem dL_law_1918 : decode cL_law 1918 = .ok (.iload 4, 2) := dn_21 (oo_36 42 rfl rfl) rfl
theorem dL_law_1920 : decode cL_law 1920 = .ok (.iconst 1, 1) := dn_4 (oo_36 44 rfl rfl)
theorem dL_law_1921 : decode cL_law 1921 = .ok (.iadd, 1) := dn_96 (oo_37 0 rfl rfl)
theorem dL_law_1922 : decode cL_law 1922 = .ok (.iaload, 1) := dn_46 (oo_37 1 rfl rfl)
theorem dL_law_1923 : decode cL_law 1923 = .ok (.aload_n 3, 1) := dn_45 (oo_37 2 rfl rfl)
theorem dL_law_1924 : decode cL_law 1924 = .ok (.invokestatic 299, 3) := dn_184 (oo_37 3 rfl rfl) rfl
theorem dL_law_1927 : decode cL_law 1927 = .ok (.istore 5, 2) := dn_54 (oo_37 6 rfl rfl) rfl
theorem dL_law_1929 : decode cL_law 1929 = .ok (.aload_n 2, 1) := dn_44 (oo_37 8 rfl rfl)
theorem dL_law_1930 : decode cL_law 1930 = .ok (.aload_n 0, 1) := dn_42 (oo_37 9 rfl rfl)
theorem dL_law_1931 : decode cL_law 1931 = .ok (.iload 4, 2) := dn_21 (oo_37 10 rfl rfl) rfl
theorem dL_law_1933 : decode cL_law 1933 = .ok (.iconst 1, 1) := dn_4 (oo_37 12 rfl rfl)
theorem dL_law_1934 : decode cL_law 1934 = .ok (.iadd, 1) := dn_96 (oo_37 13 rfl rfl)
theorem dL_law_1935 : decode cL_law 1935 = .ok (.iaload, 1) := dn_46 (oo_37 14 rfl rfl)
theorem dL_law_1936 : decode cL_law 1936 = .ok (.invokevirtual 301, 3) := dn_182 (oo_37 15 rfl rfl) rfl
theorem dL_law_1939 : decode cL_law 1939 = .ok (.istore 6, 2) := dn_54 (oo_37 18 rfl rfl) rfl
theorem dL_law_1941 : decode cL_law 1941 = .ok (.goto 274, 3) := dn_167 (oo_37 20 rfl rfl) (by decide +kernel)
theorem dL_law_1944 : decode cL_law 1944 = .ok (.aload_n 1, 1) := dn_43 (oo_37 23 rfl rfl)
theorem dL_law_1945 : decode cL_law 1945 = .ok (.aload_n 0, 1) := dn_42 (oo_37 24 rfl rfl)
theorem dL_law_1946 : decode cL_law 1946 = .ok (.iload 4, 2) := dn_21 (oo_37 25 rfl rfl) rfl
theorem dL_law_1948 : decode cL_law 1948 = .ok (.iconst 1, 1) := dn_4 (oo_37 27 rfl rfl)
theorem dL_law_1949 : decode cL_law 1949 = .ok (.iadd, 1) := dn_96 (oo_37 28 rfl rfl)
theorem dL_law_1950 : decode cL_law 1950 = .ok (.iaload, 1) := dn_46 (oo_37 29 rfl rfl)
theorem dL_law_1951 : decode cL_law 1951 = .ok (.aload_n 0, 1) := dn_42 (oo_37 30 rfl rfl)
theorem dL_law_1952 : decode cL_law 1952 = .ok (.iload 4, 2) := dn_21 (oo_37 31 rfl rfl) rfl
theorem dL_law_1954 : decode cL_law 1954 = .ok (.iconst 2, 1) := dn_5 (oo_37 33 rfl rfl)
theorem dL_law_1955 : decode cL_law 1955 = .ok (.iadd, 1) := dn_96 (oo_37 34 rfl rfl)
theorem dL_law_1956 : decode cL_law 1956 = .ok (.iaload, 1) := dn_46 (oo_37 35 rfl rfl)
theorem dL_law_1957 : decode cL_law 1957 = .ok (.aload_n 0, 1) := dn_42 (oo_37 36 rfl rfl)
theorem dL_law_1958 : decode cL_law 1958 = .ok (.iload 4, 2) := dn_21 (oo_37 37 rfl rfl) rfl
theorem dL_law_1960 : decode cL_law 1960 = .ok (.iconst 3, 1) := dn_6 (oo_37 39 rfl rfl)
theorem dL_law_1961 : decode cL_law 1961 = .ok (.iadd, 1) := dn_96 (oo_37 40 rfl rfl)
theorem dL_law_1962 : decode cL_law 1962 = .ok (.iaload, 1) := dn_46 (oo_37 41 rfl rfl)
theorem dL_law_1963 : decode cL_law 1963 = .ok (.aload_n 3, 1) := dn_45 (oo_37 42 rfl rfl)
theorem dL_law_1964 : decode cL_law 1964 = .ok (.invokestatic 302, 3) := dn_184 (oo_37 43 rfl rfl) rfl
theorem dL_law_1967 : decode cL_law 1967 = .ok (.istore 5, 2) := dn_54 (oo_38 0 rfl rfl) rfl
theorem dL_law_1969 : decode cL_law 1969 = .ok (.aload_n 2, 1) := dn_44 (oo_38 2 rfl rfl)
theorem dL_law_1970 : decode cL_law 1970 = .ok (.aload_n 0, 1) := dn_42 (oo_38 3 rfl rfl)
theorem dL_law_1971 : decode cL_law 1971 = .ok (.iload 4, 2) := dn_21 (oo_38 4 rfl rfl) rfl
theorem dL_law_1973 : decode cL_law 1973 = .ok (.iconst 1, 1) := dn_4 (oo_38 6 rfl rfl)
theorem dL_law_1974 : decode cL_law 1974 = .ok (.iadd, 1) := dn_96 (oo_38 7 rfl rfl)
theorem dL_law_1975 : decode cL_law 1975 = .ok (.iaload, 1) := dn_46 (oo_38 8 rfl rfl)
theorem dL_law_1976 : decode cL_law 1976 = .ok (.aload_n 0, 1) := dn_42 (oo_38 9 rfl rfl)
theorem dL_law_1977 : decode cL_law 1977 = .ok (.iload 4, 2) := dn_21 (oo_38 10 rfl rfl) rfl
theorem dL_law_1979 : decode cL_law 1979 = .ok (.iconst 2, 1) := dn_5 (oo_38 12 rfl rfl)
theorem dL_law_1980 : decode cL_law 1980 = .ok (.iadd, 1) := dn_96 (oo_38 13 rfl rfl)
theorem dL_law_1981 : decode cL_law 1981 = .ok (.iaload, 1) := dn_46 (oo_38 14 rfl rfl)
theorem dL_law_1982 : decode cL_law 1982 = .ok (.aload_n 0, 1) := dn_42 (oo_38 15 rfl rfl)
theorem dL_law_1983 : decode cL_law 1983 = .ok (.iload 4, 2) := dn_21 (oo_38 16 rfl rfl) rfl
theorem dL_law_1985 : decode cL_law 1985 = .ok (.iconst 3, 1) := dn_6 (oo_38 18 rfl rfl)
theorem dL_law_1986 : decode cL_law 1986 = .ok (.iadd, 1) := dn_96 (oo_38 19 rfl rfl)
theorem dL_law_1987 : decode cL_law 1987 = .ok (.iaload, 1) := dn_46 (oo_38 20 rfl rfl)
theorem dL_law_1988 : decode cL_law 1988 = .ok (.invokevirtual 304, 3) := dn_182 (oo_38 21 rfl rfl) rfl
theorem dL_law_1991 : decode cL_law 1991 = .ok (.istore 6, 2) := dn_54 (oo_38 24 rfl rfl) rfl
theorem dL_law_1993 : decode cL_law 1993 = .ok (.goto 222, 3) := dn_167 (oo_38 26 rfl rfl) (by decide +kernel)
theorem dL_law_1996 : decode cL_law 1996 = .ok (.aload_n 1, 1) := dn_43 (oo_38 29 rfl rfl)
theorem dL_law_1997 : decode cL_law 1997 = .ok (.aload_n 0, 1) := dn_42 (oo_38 30 rfl rfl)
theorem dL_law_1998 : decode cL_law 1998 = .ok (.iload 4, 2) := dn_21 (oo_38 31 rfl rfl) rfl
theorem dL_law_2000 : decode cL_law 2000 = .ok (.iconst 1, 1) := dn_4 (oo_38 33 rfl rfl)
theorem dL_law_2001 : decode cL_law 2001 = .ok (.iadd, 1) := dn_96 (oo_38 34 rfl rfl)
theorem dL_law_2002 : decode cL_law 2002 = .ok (.iaload, 1) := dn_46 (oo_38 35 rfl rfl)
theorem dL_law_2003 : decode cL_law 2003 = .ok (.aload_n 3, 1) := dn_45 (oo_38 36 rfl rfl)
theorem dL_law_2004 : decode cL_law 2004 = .ok (.invokestatic 305, 3) := dn_184 (oo_38 37 rfl rfl) rfl
theorem dL_law_2007 : decode cL_law 2007 = .ok (.istore 5, 2) := dn_54 (oo_38 40 rfl rfl) rfl
theorem dL_law_2009 : decode cL_law 2009 = .ok (.aload_n 2, 1) := dn_44 (oo_38 42 rfl rfl)
theorem dL_law_2010 : decode cL_law 2010 = .ok (.aload_n 0, 1) := dn_42 (oo_38 43 rfl rfl)
theorem dL_law_2011 : decode cL_law 2011 = .ok (.iload 4, 2) := dn_21 (oo_38 44 rfl rfl) rfl
theorem dL_law_2013 : decode cL_law 2013 = .ok (.iconst 1, 1) := dn_4 (oo_39 0 rfl rfl)
theorem dL_law_2014 : decode cL_law 2014 = .ok (.iadd, 1) := dn_96 (oo_39 1 rfl rfl)
theorem dL_law_2015 : decode cL_law 2015 = .ok (.iaload, 1) := dn_46 (oo_39 2 rfl rfl)
theorem dL_law_2016 : decode cL_law 2016 = .ok (.invokevirtual 307, 3) := dn_182 (oo_39 3 rfl rfl) rfl
theorem dL_law_2019 : decode cL_law 2019 = .ok (.astore 6, 2) := dn_58 (oo_39 6 rfl rfl) rfl
theorem dL_law_2021 : decode cL_law 2021 = .ok (.goto 194, 3) := dn_167 (oo_39 8 rfl rfl) (by decide +kernel)
theorem dL_law_2024 : decode cL_law 2024 = .ok (.aload_n 1, 1) := dn_43 (oo_39 11 rfl rfl)
theorem dL_law_2025 : decode cL_law 2025 = .ok (.aload_n 0, 1) := dn_42 (oo_39 12 rfl rfl)
theorem dL_law_2026 : decode cL_law 2026 = .ok (.iload 4, 2) := dn_21 (oo_39 13 rfl rfl) rfl
theorem dL_law_2028 : decode cL_law 2028 = .ok (.iconst 1, 1) := dn_4 (oo_39 15 rfl rfl)
theorem dL_law_2029 : decode cL_law 2029 = .ok (.iadd, 1) := dn_96 (oo_39 16 rfl rfl)
theorem dL_law_2030 : decode cL_law 2030 = .ok (.iaload, 1) := dn_46 (oo_39 17 rfl rfl)
theorem dL_law_2031 : decode cL_law 2031 = .ok (.aload_n 3, 1) := dn_45 (oo_39 18 rfl rfl)
theorem dL_law_2032 : decode cL_law 2032 = .ok (.invokestatic 308, 3) := dn_184 (oo_39 19 rfl rfl) rfl
theorem dL_law_2035 : decode cL_law 2035 = .ok (.istore 5, 2) := dn_54 (oo_39 22 rfl rfl) rfl
theorem dL_law_2037 : decode cL_law 2037 = .ok (.aload_n 2, 1) := dn_44 (oo_39 24 rfl rfl)
theorem dL_law_2038 : decode cL_law 2038 = .ok (.aload_n 0, 1) := dn_42 (oo_39 25 rfl rfl)
theorem dL_law_2039 : decode cL_law 2039 = .ok (.iload 4, 2) := dn_21 (oo_39 26 rfl rfl) rfl
theorem dL_law_2041 : decode cL_law 2041 = .ok (.iconst 1, 1) := dn_4 (oo_39 28 rfl rfl)
theorem dL_law_2042 : decode cL_law 2042 = .ok (.iadd, 1) := dn_96 (oo_39 29 rfl rfl)
theorem dL_law_2043 : decode cL_law 2043 = .ok (.iaload, 1) := dn_46 (oo_39 30 rfl rfl)
theorem dL_law_2044 : decode cL_law 2044 = .ok (.invokevirtual 310, 3) := dn_182 (oo_39 31 rfl rfl) rfl
theorem dL_law_2047 : decode cL_law 2047 = .ok (.istore 6, 2) := dn_54 (oo_39 34 rfl rfl) rfl
theorem dL_law_2049 : decode cL_law 2049 = .ok (.goto 166, 3) := dn_167 (oo_39 36 rfl rfl) (by decide +kernel)
theorem dL_law_2052 : decode cL_law 2052 = .ok (.aload_n 1, 1) := dn_43 (oo_39 39 rfl rfl)
theorem dL_law_2053 : decode cL_law 2053 = .ok (.aload_n 0, 1) := dn_42 (oo_39 40 rfl rfl)
theorem dL_law_2054 : decode cL_law 2054 = .ok (.iload 4, 2) := dn_21 (oo_39 41 rfl rfl) rfl
theorem dL_law_2056 : decode cL_law 2056 = .ok (.iconst 1, 1) := dn_4 (oo_39 43 rfl rfl)
theorem dL_law_2057 : decode cL_law 2057 = .ok (.iadd, 1) := dn_96 (oo_39 44 rfl rfl)
theorem dL_law_2058 : decode cL_law 2058 = .ok (.iaload, 1) := dn_46 (oo_39 45 rfl rfl)
theorem dL_law_2059 : decode cL_law 2059 = .ok (.aload_n 3, 1) := dn_45 (oo_39 46 rfl rfl)
theorem dL_law_2060 : decode cL_law 2060 = .ok (.invokestatic 311, 3) := dn_184 (oo_39 47 rfl rfl) rfl
theorem dL_law_2063 : decode cL_law 2063 = .ok (.istore 5, 2) := dn_54 (oo_40 0 rfl rfl) rfl
theorem dL_law_2065 : decode cL_law 2065 = .ok (.aload_n 2, 1) := dn_44 (oo_40 2 rfl rfl)
theorem dL_law_2066 : decode cL_law 2066 = .ok (.aload_n 0, 1) := dn_42 (oo_40 3 rfl rfl)
theorem dL_law_2067 : decode cL_law 2067 = .ok (.iload 4, 2) := dn_21 (oo_40 4 rfl rfl) rfl
theorem dL_law_2069 : decode cL_law 2069 = .ok (.iconst 1, 1) := dn_4 (oo_40 6 rfl rfl)
theorem dL_law_2070 : decode cL_law 2070 = .ok (.iadd, 1) := dn_96 (oo_40 7 rfl rfl)
theorem dL_law_2071 : decode cL_law 2071 = .ok (.iaload, 1) := dn_46 (oo_40 8 rfl rfl)
theorem dL_law_2072 : decode cL_law 2072 = .ok (.invokevirtual 313, 3) := dn_182 (oo_40 9 rfl rfl) rfl
theorem dL_law_2075 : decode cL_law 2075 = .ok (.istore 6, 2) := dn_54 (oo_40 12 rfl rfl) rfl
theorem dL_law_2077 : decode cL_law 2077 = .ok (.goto 138, 3) := dn_167 (oo_40 14 rfl rfl) (by decide +kernel)
theorem dL_law_2080 : decode cL_law 2080 = .ok (.aload_n 1, 1) := dn_43 (oo_40 17 rfl rfl)
theorem dL_law_2081 : decode cL_law 2081 = .ok (.aload_n 0, 1) := dn_42 (oo_40 18 rfl rfl)
theorem dL_law_2082 : decode cL_law 2082 = .ok (.iload 4, 2) := dn_21 (oo_40 19 rfl rfl) rfl
theorem dL_law_2084 : decode cL_law 2084 = .ok (.iconst 1, 1) := dn_4 (oo_40 21 rfl rfl)
theorem dL_law_2085 : decode cL_law 2085 = .ok (.iadd, 1) := dn_96 (oo_40 22 rfl rfl)
theorem dL_law_2086 : decode cL_law 2086 = .ok (.iaload, 1) := dn_46 (oo_40 23 rfl rfl)
theorem dL_law_2087 : decode cL_law 2087 = .ok (.aload_n 3, 1) := dn_45 (oo_40 24 rfl rfl)
theorem dL_law_2088 : decode cL_law 2088 = .ok (.invokestatic 314, 3) := dn_184 (oo_40 25 rfl rfl) rfl
theorem dL_law_2091 : decode cL_law 2091 = .ok (.istore 5, 2) := dn_54 (oo_40 28 rfl rfl) rfl
theorem dL_law_2093 : decode cL_law 2093 = .ok (.aload_n 2, 1) := dn_44 (oo_40 30 rfl rfl)
theorem dL_law_2094 : decode cL_law 2094 = .ok (.aload_n 0, 1) := dn_42 (oo_40 31 rfl rfl)
theorem dL_law_2095 : decode cL_law 2095 = .ok (.iload 4, 2) := dn_21 (oo_40 32 rfl rfl) rfl
theorem dL_law_2097 : decode cL_law 2097 = .ok (.iconst 1, 1) := dn_4 (oo_40 34 rfl rfl)
theorem dL_law_2098 : decode cL_law 2098 = .ok (.iadd, 1) := dn_96 (oo_40 35 rfl rfl)
theorem dL_law_2099 : decode cL_law 2099 = .ok (.iaload, 1) := dn_46 (oo_40 36 rfl rfl)
theorem dL_law_2100 : decode cL_law 2100 = .ok (.invokevirtual 316, 3) := dn_182 (oo_40 37 rfl rfl) rfl
theorem dL_law_2103 : decode cL_law 2103 = .ok (.istore 6, 2) := dn_54 (oo_40 40 rfl rfl) rfl
theorem dL_law_2105 : decode cL_law 2105 = .ok (.goto 110, 3) := dn_167 (oo_40 42 rfl rfl) (by decide +kernel)
theorem dL_law_2108 : decode cL_law 2108 = .ok (.aload_n 1, 1) := dn_43 (oo_40 45 rfl rfl)
theorem dL_law_2109 : decode cL_law 2109 = .ok (.aload_n 0, 1) := dn_42 (oo_40 46 rfl rfl)
theorem dL_law_2110 : decode cL_law 2110 = .ok (.iload 4, 2) := dn_21 (oo_40 47 rfl rfl) rfl
theorem dL_law_2112 : decode cL_law 2112 = .ok (.iconst 1, 1) := dn_4 (oo_40 49 rfl rfl)
theorem dL_law_2113 : decode cL_law 2113 = .ok (.iadd, 1) := dn_96 (oo_41 0 rfl rfl)
theorem dL_law_2114 : decode cL_law 2114 = .ok (.iaload, 1) := dn_46 (oo_41 1 rfl rfl)
theorem dL_law_2115 : decode cL_law 2115 = .ok (.aload_n 0, 1) := dn_42 (oo_41 2 rfl rfl)
theorem dL_law_2116 : decode cL_law 2116 = .ok (.iload 4, 2) := dn_21 (oo_41 3 rfl rfl) rfl
theorem dL_law_2118 : decode cL_law 2118 = .ok (.iconst 2, 1) := dn_5 (oo_41 5 rfl rfl)
theorem dL_law_2119 : decode cL_law 2119 = .ok (.iadd, 1) := dn_96 (oo_41 6 rfl rfl)
theorem dL_law_2120 : decode cL_law 2120 = .ok (.iaload, 1) := dn_46 (oo_41 7 rfl rfl)
theorem dL_law_2121 : decode cL_law 2121 = .ok (.aload_n 3, 1) := dn_45 (oo_41 8 rfl rfl)
theorem dL_law_2122 : decode cL_law 2122 = .ok (.invokestatic 317, 3) := dn_184 (oo_41 9 rfl rfl) rfl
theorem dL_law_2125 : decode cL_law 2125 = .ok (.istore 5, 2) := dn_54 (oo_41 12 rfl rfl) rfl
theorem dL_law_2127 : decode cL_law 2127 = .ok (.aload_n 2, 1) := dn_44 (oo_41 14 rfl rfl)
theorem dL_law_2128 : decode cL_law 2128 = .ok (.aload_n 0, 1) := dn_42 (oo_41 15 rfl rfl)
theorem dL_law_2129 : decode cL_law 2129 = .ok (.iload 4, 2) := dn_21 (oo_41 16 rfl rfl) rfl
theorem dL_law_2131 : decode cL_law 2131 = .ok (.iconst 1, 1) := dn_4 (oo_41 18 rfl rfl)
theorem dL_law_2132 : decode cL_law 2132 = .ok (.iadd, 1) := dn_96 (oo_41 19 rfl rfl)
theorem dL_law_2133 : decode cL_law 2133 = .ok (.iaload, 1) := dn_46 (oo_41 20 rfl rfl)
theorem dL_law_2134 : decode cL_law 2134 = .ok (.aload_n 0, 1) := dn_42 (oo_41 21 rfl rfl)
theorem dL_law_2135 : decode cL_law 2135 = .ok (.iload 4, 2) := dn_21 (oo_41 22 rfl rfl) rfl
theorem dL_law_2137 : decode cL_law 2137 = .ok (.iconst 2, 1) := dn_5 (oo_41 24 rfl rfl)
theorem dL_law_2138 : decode cL_law 2138 = .ok (.iadd, 1) := dn_96 (oo_41 25 rfl rfl)
theorem dL_law_2139 : decode cL_law 2139 = .ok (.iaload, 1) := dn_46 (oo_41 26 rfl rfl)
theorem dL_law_2140 : decode cL_law 2140 = .ok (.invokevirtual 319, 3) := dn_182 (oo_41 27 rfl rfl) rfl
theorem dL_law_2143 : decode cL_law 2143 = .ok (.istore 6, 2) := dn_54 (oo_41 30 rfl rfl) rfl
theorem dL_law_2145 : decode cL_law 2145 = .ok (.goto 70, 3) := dn_167 (oo_41 32 rfl rfl) (by decide +kernel)
theorem dL_law_2148 : decode cL_law 2148 = .ok (.aload_n 1, 1) := dn_43 (oo_41 35 rfl rfl)
theorem dL_law_2149 : decode cL_law 2149 = .ok (.aload_n 0, 1) := dn_42 (oo_41 36 rfl rfl)
theorem dL_law_2150 : decode cL_law 2150 = .ok (.iload 4, 2) := dn_21 (oo_41 37 rfl rfl) rfl
theorem dL_law_2152 : decode cL_law 2152 = .ok (.iconst 1, 1) := dn_4 (oo_41 39 rfl rfl)
theorem dL_law_2153 : decode cL_law 2153 = .ok (.iadd, 1) := dn_96 (oo_41 40 rfl rfl)
theorem dL_law_2154 : decode cL_law 2154 = .ok (.iaload, 1) := dn_46 (oo_41 41 rfl rfl)
theorem dL_law_2155 : decode cL_law 2155 = .ok (.aload_n 3, 1) := dn_45 (oo_41 42 rfl rfl)
theorem dL_law_2156 : decode cL_law 2156 = .ok (.invokestatic 320, 3) := dn_184 (oo_41 43 rfl rfl) rfl
theorem dL_law_2159 : decode cL_law 2159 = .ok (.istore 5, 2) := dn_54 (oo_42 0 rfl rfl) rfl
theorem dL_law_2161 : decode cL_law 2161 = .ok (.aload_n 2, 1) := dn_44 (oo_42 2 rfl rfl)
theorem dL_law_2162 : decode cL_law 2162 = .ok (.aload_n 0, 1) := dn_42 (oo_42 3 rfl rfl)
theorem dL_law_2163 : decode cL_law 2163 = .ok (.iload 4, 2) := dn_21 (oo_42 4 rfl rfl) rfl
theorem dL_law_2165 : decode cL_law 2165 = .ok (.iconst 1, 1) := dn_4 (oo_42 6 rfl rfl)
theorem dL_law_2166 : decode cL_law 2166 = .ok (.iadd, 1) := dn_96 (oo_42 7 rfl rfl)
theorem dL_law_2167 : decode cL_law 2167 = .ok (.iaload, 1) := dn_46 (oo_42 8 rfl rfl)
theorem dL_law_2168 : decode cL_law 2168 = .ok (.invokevirtual 322, 3) := dn_182 (oo_42 9 rfl rfl) rfl
theorem dL_law_2171 : decode cL_law 2171 = .ok (.istore 6, 2) := dn_54 (oo_42 12 rfl rfl) rfl
theorem dL_law_2173 : decode cL_law 2173 = .ok (.goto 42, 3) := dn_167 (oo_42 14 rfl rfl) (by decide +kernel)
theorem dL_law_2176 : decode cL_law 2176 = .ok (.aload_n 1, 1) := dn_43 (oo_42 17 rfl rfl)
theorem dL_law_2177 : decode cL_law 2177 = .ok (.invokevirtual 323, 3) := dn_182 (oo_42 18 rfl rfl) rfl
theorem dL_law_2180 : decode cL_law 2180 = .ok (.pop, 1) := dn_87 (oo_42 21 rfl rfl)
theorem dL_law_2181 : decode cL_law 2181 = .ok (.aload_n 2, 1) := dn_44 (oo_42 22 rfl rfl)
theorem dL_law_2182 : decode cL_law 2182 = .ok (.invokevirtual 327, 3) := dn_182 (oo_42 23 rfl rfl) rfl
theorem dL_law_2185 : decode cL_law 2185 = .ok (.pop, 1) := dn_87 (oo_42 26 rfl rfl)
theorem dL_law_2186 : decode cL_law 2186 = .ok (.goto 29, 3) := dn_167 (oo_42 27 rfl rfl) (by decide +kernel)
theorem dL_law_2189 : decode cL_law 2189 = .ok (.aload_n 1, 1) := dn_43 (oo_42 30 rfl rfl)
theorem dL_law_2190 : decode cL_law 2190 = .ok (.invokevirtual 328, 3) := dn_182 (oo_42 31 rfl rfl) rfl
theorem dL_law_2193 : decode cL_law 2193 = .ok (.aload_n 2, 1) := dn_44 (oo_42 34 rfl rfl)
theorem dL_law_2194 : decode cL_law 2194 = .ok (.invokevirtual 332, 3) := dn_182 (oo_42 35 rfl rfl) rfl
theorem dL_law_2197 : decode cL_law 2197 = .ok (.if_icmp .eq 18, 3) := dn_159 (oo_42 38 rfl rfl) (by decide +kernel)
theorem dL_law_2200 : decode cL_law 2200 = .ok (.iconst 0, 1) := dn_3 (oo_42 41 rfl rfl)
theorem dL_law_2201 : decode cL_law 2201 = .ok (.ireturn, 1) := dn_172 (oo_42 42 rfl rfl)
theorem dL_law_2202 : decode cL_law 2202 = .ok (.aload_n 1, 1) := dn_43 (oo_42 43 rfl rfl)
theorem dL_law_2203 : decode cL_law 2203 = .ok (.invokevirtual 333, 3) := dn_182 (oo_42 44 rfl rfl) rfl
theorem dL_law_2206 : decode cL_law 2206 = .ok (.pop2, 1) := dn_88 (oo_42 47 rfl rfl)
theorem dL_law_2207 : decode cL_law 2207 = .ok (.aload_n 2, 1) := dn_44 (oo_42 48 rfl rfl)
theorem dL_law_2208 : decode cL_law 2208 = .ok (.invokevirtual 337, 3) := dn_182 (oo_42 49 rfl rfl) rfl
theorem dL_law_2211 : decode cL_law 2211 = .ok (.pop2, 1) := dn_88 (oo_42 52 rfl rfl)
theorem dL_law_2212 : decode cL_law 2212 = .ok (.goto 3, 3) := dn_167 (oo_42 53 rfl rfl) (by decide +kernel)
theorem dL_law_2215 : decode cL_law 2215 = .ok (.iinc 4 4, 3) := dn_132 (oo_42 56 rfl rfl) rfl (by decide +kernel)
theorem dL_law_2218 : decode cL_law 2218 = .ok (.goto (-2191), 3) := dn_167 (oo_43 0 rfl rfl) (by decide +kernel)
theorem dL_law_2221 : decode cL_law 2221 = .ok (.iconst 1, 1) := dn_4 (oo_43 3 rfl rfl)
theorem dL_law_2222 : decode cL_law 2222 = .ok (.ireturn, 1) := dn_172 (oo_43 4 rfl rfl)
