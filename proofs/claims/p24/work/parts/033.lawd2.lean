/-! decode rows -/
theorem dL_law_1804 : decode cL_law 1804 = .ok (.aload_n 3, 1) := dn_45 (oo_34 18 rfl rfl)
theorem dL_law_1805 : decode cL_law 1805 = .ok (.invokestatic 291, 3) := dn_184 (oo_34 19 rfl rfl) rfl
theorem dL_law_1808 : decode cL_law 1808 = .ok (.istore 5, 2) := dn_54 (oo_34 22 rfl rfl) rfl
theorem dL_law_1810 : decode cL_law 1810 = .ok (.aload_n 2, 1) := dn_44 (oo_34 24 rfl rfl)
theorem dL_law_1811 : decode cL_law 1811 = .ok (.aload_n 0, 1) := dn_42 (oo_34 25 rfl rfl)
theorem dL_law_1812 : decode cL_law 1812 = .ok (.iload 4, 2) := dn_21 (oo_34 26 rfl rfl) rfl
theorem dL_law_1814 : decode cL_law 1814 = .ok (.iconst 1, 1) := dn_4 (oo_34 28 rfl rfl)
theorem dL_law_1815 : decode cL_law 1815 = .ok (.iadd, 1) := dn_96 (oo_34 29 rfl rfl)
theorem dL_law_1816 : decode cL_law 1816 = .ok (.iaload, 1) := dn_46 (oo_34 30 rfl rfl)
theorem dL_law_1817 : decode cL_law 1817 = .ok (.invokevirtual 293, 3) := dn_182 (oo_34 31 rfl rfl) rfl
theorem dL_law_1820 : decode cL_law 1820 = .ok (.istore 6, 2) := dn_54 (oo_34 34 rfl rfl) rfl
theorem dL_law_1822 : decode cL_law 1822 = .ok (.goto 422, 3) := dn_167 (oo_34 36 rfl rfl) (by decide +kernel)
theorem dL_law_1825 : decode cL_law 1825 = .ok (.aload_n 1, 1) := dn_43 (oo_34 39 rfl rfl)
theorem dL_law_1826 : decode cL_law 1826 = .ok (.aload_n 0, 1) := dn_42 (oo_34 40 rfl rfl)
theorem dL_law_1827 : decode cL_law 1827 = .ok (.iload 4, 2) := dn_21 (oo_34 41 rfl rfl) rfl
theorem dL_law_1829 : decode cL_law 1829 = .ok (.iconst 1, 1) := dn_4 (oo_34 43 rfl rfl)
theorem dL_law_1830 : decode cL_law 1830 = .ok (.iadd, 1) := dn_96 (oo_34 44 rfl rfl)
theorem dL_law_1831 : decode cL_law 1831 = .ok (.iaload, 1) := dn_46 (oo_34 45 rfl rfl)
theorem dL_law_1832 : decode cL_law 1832 = .ok (.aload_n 3, 1) := dn_45 (oo_34 46 rfl rfl)
theorem dL_law_1833 : decode cL_law 1833 = .ok (.invokestatic 294, 3) := dn_184 (oo_34 47 rfl rfl) rfl
theorem dL_law_1836 : decode cL_law 1836 = .ok (.istore 5, 2) := dn_54 (oo_35 0 rfl rfl) rfl
theorem dL_law_1838 : decode cL_law 1838 = .ok (.aload_n 2, 1) := dn_44 (oo_35 2 rfl rfl)
theorem dL_law_1839 : decode cL_law 1839 = .ok (.aload_n 0, 1) := dn_42 (oo_35 3 rfl rfl)
theorem dL_law_1840 : decode cL_law 1840 = .ok (.iload 4, 2) := dn_21 (oo_35 4 rfl rfl) rfl
theorem dL_law_1842 : decode cL_law 1842 = .ok (.iconst 1, 1) := dn_4 (oo_35 6 rfl rfl)
theorem dL_law_1843 : decode cL_law 1843 = .ok (.iadd, 1) := dn_96 (oo_35 7 rfl rfl)
theorem dL_law_1844 : decode cL_law 1844 = .ok (.iaload, 1) := dn_46 (oo_35 8 rfl rfl)
theorem dL_law_1845 : decode cL_law 1845 = .ok (.invokevirtual 296, 3) := dn_182 (oo_35 9 rfl rfl) rfl
theorem dL_law_1848 : decode cL_law 1848 = .ok (.istore 6, 2) := dn_54 (oo_35 12 rfl rfl) rfl
theorem dL_law_1850 : decode cL_law 1850 = .ok (.goto 394, 3) := dn_167 (oo_35 14 rfl rfl) (by decide +kernel)
theorem dL_law_1853 : decode cL_law 1853 = .ok (.aload_n 1, 1) := dn_43 (oo_35 17 rfl rfl)
theorem dL_law_1854 : decode cL_law 1854 = .ok (.aload_n 0, 1) := dn_42 (oo_35 18 rfl rfl)
theorem dL_law_1855 : decode cL_law 1855 = .ok (.iload 4, 2) := dn_21 (oo_35 19 rfl rfl) rfl
theorem dL_law_1857 : decode cL_law 1857 = .ok (.iconst 1, 1) := dn_4 (oo_35 21 rfl rfl)
theorem dL_law_1858 : decode cL_law 1858 = .ok (.iadd, 1) := dn_96 (oo_35 22 rfl rfl)
theorem dL_law_1859 : decode cL_law 1859 = .ok (.iaload, 1) := dn_46 (oo_35 23 rfl rfl)
theorem dL_law_1860 : decode cL_law 1860 = .ok (.aload_n 0, 1) := dn_42 (oo_35 24 rfl rfl)
theorem dL_law_1861 : decode cL_law 1861 = .ok (.iload 4, 2) := dn_21 (oo_35 25 rfl rfl) rfl
theorem dL_law_1863 : decode cL_law 1863 = .ok (.iconst 2, 1) := dn_5 (oo_35 27 rfl rfl)
theorem dL_law_1864 : decode cL_law 1864 = .ok (.iadd, 1) := dn_96 (oo_35 28 rfl rfl)
theorem dL_law_1865 : decode cL_law 1865 = .ok (.iaload, 1) := dn_46 (oo_35 29 rfl rfl)
theorem dL_law_1866 : decode cL_law 1866 = .ok (.aload_n 0, 1) := dn_42 (oo_35 30 rfl rfl)
theorem dL_law_1867 : decode cL_law 1867 = .ok (.iload 4, 2) := dn_21 (oo_35 31 rfl rfl) rfl
theorem dL_law_1869 : decode cL_law 1869 = .ok (.iconst 3, 1) := dn_6 (oo_35 33 rfl rfl)
theorem dL_law_1870 : decode cL_law 1870 = .ok (.iadd, 1) := dn_96 (oo_35 34 rfl rfl)
theorem dL_law_1871 : decode cL_law 1871 = .ok (.iaload, 1) := dn_46 (oo_35 35 rfl rfl)
theorem dL_law_1872 : decode cL_law 1872 = .ok (.aload_n 3, 1) := dn_45 (oo_35 36 rfl rfl)
theorem dL_law_1873 : decode cL_law 1873 = .ok (.invokestatic 297, 3) := dn_184 (oo_35 37 rfl rfl) rfl
theorem dL_law_1876 : decode cL_law 1876 = .ok (.istore 5, 2) := dn_54 (oo_35 40 rfl rfl) rfl
theorem dL_law_1878 : decode cL_law 1878 = .ok (.aload_n 2, 1) := dn_44 (oo_35 42 rfl rfl)
theorem dL_law_1879 : decode cL_law 1879 = .ok (.aload_n 0, 1) := dn_42 (oo_35 43 rfl rfl)
theorem dL_law_1880 : decode cL_law 1880 = .ok (.iload 4, 2) := dn_21 (oo_35 44 rfl rfl) rfl
theorem dL_law_1882 : decode cL_law 1882 = .ok (.iconst 1, 1) := dn_4 (oo_36 0 rfl rfl)
theorem dL_law_1883 : decode cL_law 1883 = .ok (.iadd, 1) := dn_96 (oo_36 1 rfl rfl)
theorem dL_law_1884 : decode cL_law 1884 = .ok (.iaload, 1) := dn_46 (oo_36 2 rfl rfl)
theorem dL_law_1885 : decode cL_law 1885 = .ok (.aload_n 0, 1) := dn_42 (oo_36 3 rfl rfl)
theorem dL_law_1886 : decode cL_law 1886 = .ok (.iload 4, 2) := dn_21 (oo_36 4 rfl rfl) rfl
theorem dL_law_1888 : decode cL_law 1888 = .ok (.iconst 2, 1) := dn_5 (oo_36 6 rfl rfl)
theorem dL_law_1889 : decode cL_law 1889 = .ok (.iadd, 1) := dn_96 (oo_36 7 rfl rfl)
theorem dL_law_1890 : decode cL_law 1890 = .ok (.iaload, 1) := dn_46 (oo_36 8 rfl rfl)
theorem dL_law_1891 : decode cL_law 1891 = .ok (.aload_n 0, 1) := dn_42 (oo_36 9 rfl rfl)
theorem dL_law_1892 : decode cL_law 1892 = .ok (.iload 4, 2) := dn_21 (oo_36 10 rfl rfl) rfl
theorem dL_law_1894 : decode cL_law 1894 = .ok (.iconst 3, 1) := dn_6 (oo_36 12 rfl rfl)
theorem dL_law_1895 : decode cL_law 1895 = .ok (.iadd, 1) := dn_96 (oo_36 13 rfl rfl)
theorem dL_law_1896 : decode cL_law 1896 = .ok (.iaload, 1) := dn_46 (oo_36 14 rfl rfl)
theorem dL_law_1897 : decode cL_law 1897 = .ok (.invokevirtual 299, 3) := dn_182 (oo_36 15 rfl rfl) rfl
theorem dL_law_1900 : decode cL_law 1900 = .ok (.istore 6, 2) := dn_54 (oo_36 18 rfl rfl) rfl
theorem dL_law_1902 : decode cL_law 1902 = .ok (.goto 342, 3) := dn_167 (oo_36 20 rfl rfl) (by decide +kernel)
theorem dL_law_1905 : decode cL_law 1905 = .ok (.aload_n 1, 1) := dn_43 (oo_36 23 rfl rfl)
theorem dL_law_1906 : decode cL_law 1906 = .ok (.aload_n 0, 1) := dn_42 (oo_36 24 rfl rfl)
theorem dL_law_1907 : decode cL_law 1907 = .ok (.iload 4, 2) := dn_21 (oo_36 25 rfl rfl) rfl
theorem dL_law_1909 : decode cL_law 1909 = .ok (.iconst 1, 1) := dn_4 (oo_36 27 rfl rfl)
theorem dL_law_1910 : decode cL_law 1910 = .ok (.iadd, 1) := dn_96 (oo_36 28 rfl rfl)
theorem dL_law_1911 : decode cL_law 1911 = .ok (.iaload, 1) := dn_46 (oo_36 29 rfl rfl)
theorem dL_law_1912 : decode cL_law 1912 = .ok (.aload_n 0, 1) := dn_42 (oo_36 30 rfl rfl)
theorem dL_law_1913 : decode cL_law 1913 = .ok (.iload 4, 2) := dn_21 (oo_36 31 rfl rfl) rfl
theorem dL_law_1915 : decode cL_law 1915 = .ok (.iconst 2, 1) := dn_5 (oo_36 33 rfl rfl)
theorem dL_law_1916 : decode cL_law 1916 = .ok (.iadd, 1) := dn_96 (oo_36 34 rfl rfl)
theorem dL_law_1917 : decode cL_law 1917 = .ok (.iaload, 1) := dn_46 (oo_36 35 rfl rfl)
theorem dL_law_1918 : decode cL_law 1918 = .ok (.aload_n 3, 1) := dn_45 (oo_36 36 rfl rfl)
theorem dL_law_1919 : decode cL_law 1919 = .ok (.invokestatic 300, 3) := dn_184 (oo_36 37 rfl rfl) rfl
theorem dL_law_1922 : decode cL_law 1922 = .ok (.istore 5, 2) := dn_54 (oo_36 40 rfl rfl) rfl
theorem dL_law_1924 : decode cL_law 1924 = .ok (.aload_n 2, 1) := dn_44 (oo_36 42 rfl rfl)
theorem dL_law_1925 : decode cL_law 1925 = .ok (.aload_n 0, 1) := dn_42 (oo_36 43 rfl rfl)
theorem dL_law_1926 : decode cL_law 1926 = .ok (.iload 4, 2) := dn_21 (oo_37 0 rfl rfl) rfl
theorem dL_law_1928 : decode cL_law 1928 = .ok (.iconst 1, 1) := dn_4 (oo_37 2 rfl rfl)
theorem dL_law_1929 : decode cL_law 1929 = .ok (.iadd, 1) := dn_96 (oo_37 3 rfl rfl)
theorem dL_law_1930 : decode cL_law 1930 = .ok (.iaload, 1) := dn_46 (oo_37 4 rfl rfl)
theorem dL_law_1931 : decode cL_law 1931 = .ok (.aload_n 0, 1) := dn_42 (oo_37 5 rfl rfl)
theorem dL_law_1932 : decode cL_law 1932 = .ok (.iload 4, 2) := dn_21 (oo_37 6 rfl rfl) rfl
theorem dL_law_1934 : decode cL_law 1934 = .ok (.iconst 2, 1) := dn_5 (oo_37 8 rfl rfl)
theorem dL_law_1935 : decode cL_law 1935 = .ok (.iadd, 1) := dn_96 (oo_37 9 rfl rfl)
theorem dL_law_1936 : decode cL_law 1936 = .ok (.iaload, 1) := dn_46 (oo_37 10 rfl rfl)
theorem dL_law_1937 : decode cL_law 1937 = .ok (.invokevirtual 302, 3) := dn_182 (oo_37 11 rfl rfl) rfl
theorem dL_law_1940 : decode cL_law 1940 = .ok (.istore 6, 2) := dn_54 (oo_37 14 rfl rfl) rfl
theorem dL_law_1942 : decode cL_law 1942 = .ok (.goto 302, 3) := dn_167 (oo_37 16 rfl rfl) (by decide +kernel)
theorem dL_law_1945 : decode cL_law 1945 = .ok (.aload_n 1, 1) := dn_43 (oo_37 19 rfl rfl)
theorem dL_law_1946 : decode cL_law 1946 = .ok (.aload_n 0, 1) := dn_42 (oo_37 20 rfl rfl)
theorem dL_law_1947 : decode cL_law 1947 = .ok (.iload 4, 2) := dn_21 (oo_37 21 rfl rfl) rfl
theorem dL_law_1949 : decode cL_law 1949 = .ok (.iconst 1, 1) := dn_4 (oo_37 23 rfl rfl)
theorem dL_law_1950 : decode cL_law 1950 = .ok (.iadd, 1) := dn_96 (oo_37 24 rfl rfl)
theorem dL_law_1951 : decode cL_law 1951 = .ok (.iaload, 1) := dn_46 (oo_37 25 rfl rfl)
theorem dL_law_1952 : decode cL_law 1952 = .ok (.aload_n 3, 1) := dn_45 (oo_37 26 rfl rfl)
theorem dL_law_1953 : decode cL_law 1953 = .ok (.invokestatic 303, 3) := dn_184 (oo_37 27 rfl rfl) rfl
theorem dL_law_1956 : decode cL_law 1956 = .ok (.istore 5, 2) := dn_54 (oo_37 30 rfl rfl) rfl
theorem dL_law_1958 : decode cL_law 1958 = .ok (.aload_n 2, 1) := dn_44 (oo_37 32 rfl rfl)
theorem dL_law_1959 : decode cL_law 1959 = .ok (.aload_n 0, 1) := dn_42 (oo_37 33 rfl rfl)
theorem dL_law_1960 : decode cL_law 1960 = .ok (.iload 4, 2) := dn_21 (oo_37 34 rfl rfl) rfl
theorem dL_law_1962 : decode cL_law 1962 = .ok (.iconst 1, 1) := dn_4 (oo_37 36 rfl rfl)
theorem dL_law_1963 : decode cL_law 1963 = .ok (.iadd, 1) := dn_96 (oo_37 37 rfl rfl)
theorem dL_law_1964 : decode cL_law 1964 = .ok (.iaload, 1) := dn_46 (oo_37 38 rfl rfl)
theorem dL_law_1965 : decode cL_law 1965 = .ok (.invokevirtual 305, 3) := dn_182 (oo_37 39 rfl rfl) rfl
theorem dL_law_1968 : decode cL_law 1968 = .ok (.istore 6, 2) := dn_54 (oo_37 42 rfl rfl) rfl
theorem dL_law_1970 : decode cL_law 1970 = .ok (.goto 274, 3) := dn_167 (oo_37 44 rfl rfl) (by decide +kernel)
theorem dL_law_1973 : decode cL_law 1973 = .ok (.aload_n 1, 1) := dn_43 (oo_37 47 rfl rfl)
theorem dL_law_1974 : decode cL_law 1974 = .ok (.aload_n 0, 1) := dn_42 (oo_37 48 rfl rfl)
theorem dL_law_1975 : decode cL_law 1975 = .ok (.iload 4, 2) := dn_21 (oo_38 0 rfl rfl) rfl
theorem dL_law_1977 : decode cL_law 1977 = .ok (.iconst 1, 1) := dn_4 (oo_38 2 rfl rfl)
theorem dL_law_1978 : decode cL_law 1978 = .ok (.iadd, 1) := dn_96 (oo_38 3 rfl rfl)
theorem dL_law_1979 : decode cL_law 1979 = .ok (.iaload, 1) := dn_46 (oo_38 4 rfl rfl)
theorem dL_law_1980 : decode cL_law 1980 = .ok (.aload_n 0, 1) := dn_42 (oo_38 5 rfl rfl)
theorem dL_law_1981 : decode cL_law 1981 = .ok (.iload 4, 2) := dn_21 (oo_38 6 rfl rfl) rfl
theorem dL_law_1983 : decode cL_law 1983 = .ok (.iconst 2, 1) := dn_5 (oo_38 8 rfl rfl)
theorem dL_law_1984 : decode cL_law 1984 = .ok (.iadd, 1) := dn_96 (oo_38 9 rfl rfl)
theorem dL_law_1985 : decode cL_law 1985 = .ok (.iaload, 1) := dn_46 (oo_38 10 rfl rfl)
theorem dL_law_1986 : decode cL_law 1986 = .ok (.aload_n 0, 1) := dn_42 (oo_38 11 rfl rfl)
theorem dL_law_1987 : decode cL_law 1987 = .ok (.iload 4, 2) := dn_21 (oo_38 12 rfl rfl) rfl
theorem dL_law_1989 : decode cL_law 1989 = .ok (.iconst 3, 1) := dn_6 (oo_38 14 rfl rfl)
theorem dL_law_1990 : decode cL_law 1990 = .ok (.iadd, 1) := dn_96 (oo_38 15 rfl rfl)
theorem dL_law_1991 : decode cL_law 1991 = .ok (.iaload, 1) := dn_46 (oo_38 16 rfl rfl)
theorem dL_law_1992 : decode cL_law 1992 = .ok (.aload_n 3, 1) := dn_45 (oo_38 17 rfl rfl)
theorem dL_law_1993 : decode cL_law 1993 = .ok (.invokestatic 306, 3) := dn_184 (oo_38 18 rfl rfl) rfl
theorem dL_law_1996 : decode cL_law 1996 = .ok (.istore 5, 2) := dn_54 (oo_38 21 rfl rfl) rfl
theorem dL_law_1998 : decode cL_law 1998 = .ok (.aload_n 2, 1) := dn_44 (oo_38 23 rfl rfl)
theorem dL_law_1999 : decode cL_law 1999 = .ok (.aload_n 0, 1) := dn_42 (oo_38 24 rfl rfl)
theorem dL_law_2000 : decode cL_law 2000 = .ok (.iload 4, 2) := dn_21 (oo_38 25 rfl rfl) rfl
theorem dL_law_2002 : decode cL_law 2002 = .ok (.iconst 1, 1) := dn_4 (oo_38 27 rfl rfl)
theorem dL_law_2003 : decode cL_law 2003 = .ok (.iadd, 1) := dn_96 (oo_38 28 rfl rfl)
theorem dL_law_2004 : decode cL_law 2004 = .ok (.iaload, 1) := dn_46 (oo_38 29 rfl rfl)
theorem dL_law_2005 : decode cL_law 2005 = .ok (.aload_n 0, 1) := dn_42 (oo_38 30 rfl rfl)
theorem dL_law_2006 : decode cL_law 2006 = .ok (.iload 4, 2) := dn_21 (oo_38 31 rfl rfl) rfl
theorem dL_law_2008 : decode cL_law 2008 = .ok (.iconst 2, 1) := dn_5 (oo_38 33 rfl rfl)
theorem dL_law_2009 : decode cL_law 2009 = .ok (.iadd, 1) := dn_96 (oo_38 34 rfl rfl)
theorem dL_law_2010 : decode cL_law 2010 = .ok (.iaload, 1) := dn_46 (oo_38 35 rfl rfl)
theorem dL_law_2011 : decode cL_law 2011 = .ok (.aload_n 0, 1) := dn_42 (oo_38 36 rfl rfl)
theorem dL_law_2012 : decode cL_law 2012 = .ok (.iload 4, 2) := dn_21 (oo_38 37 rfl rfl) rfl
theorem dL_law_2014 : decode cL_law 2014 = .ok (.iconst 3, 1) := dn_6 (oo_38 39 rfl rfl)
theorem dL_law_2015 : decode cL_law 2015 = .ok (.iadd, 1) := dn_96 (oo_38 40 rfl rfl)
theorem dL_law_2016 : decode cL_law 2016 = .ok (.iaload, 1) := dn_46 (oo_39 0 rfl rfl)
theorem dL_law_2017 : decode cL_law 2017 = .ok (.invokevirtual 308, 3) := dn_182 (oo_39 1 rfl rfl) rfl
theorem dL_law_2020 : decode cL_law 2020 = .ok (.istore 6, 2) := dn_54 (oo_39 4 rfl rfl) rfl
theorem dL_law_2022 : decode cL_law 2022 = .ok (.goto 222, 3) := dn_167 (oo_39 6 rfl rfl) (by decide +kernel)
theorem dL_law_2025 : decode cL_law 2025 = .ok (.aload_n 1, 1) := dn_43 (oo_39 9 rfl rfl)
theorem dL_law_2026 : decode cL_law 2026 = .ok (.aload_n 0, 1) := dn_42 (oo_39 10 rfl rfl)
theorem dL_law_2027 : decode cL_law 2027 = .ok (.iload 4, 2) := dn_21 (oo_39 11 rfl rfl) rfl
theorem dL_law_2029 : decode cL_law 2029 = .ok (.iconst 1, 1) := dn_4 (oo_39 13 rfl rfl)
theorem dL_law_2030 : decode cL_law 2030 = .ok (.iadd, 1) := dn_96 (oo_39 14 rfl rfl)
theorem dL_law_2031 : decode cL_law 2031 = .ok (.iaload, 1) := dn_46 (oo_39 15 rfl rfl)
theorem dL_law_2032 : decode cL_law 2032 = .ok (.aload_n 3, 1) := dn_45 (oo_39 16 rfl rfl)
theorem dL_law_2033 : decode cL_law 2033 = .ok (.invokestatic 309, 3) := dn_184 (oo_39 17 rfl rfl) rfl
theorem dL_law_2036 : decode cL_law 2036 = .ok (.istore 5, 2) := dn_54 (oo_39 20 rfl rfl) rfl
theorem dL_law_2038 : decode cL_law 2038 = .ok (.aload_n 2, 1) := dn_44 (oo_39 22 rfl rfl)
theorem dL_law_2039 : decode cL_law 2039 = .ok (.aload_n 0, 1) := dn_42 (oo_39 23 rfl rfl)
theorem dL_law_2040 : decode cL_law 2040 = .ok (.iload 4, 2) := dn_21 (oo_39 24 rfl rfl) rfl
theorem dL_law_2042 : decode cL_law 2042 = .ok (.iconst 1, 1) := dn_4 (oo_39 26 rfl rfl)
theorem dL_law_2043 : decode cL_law 2043 = .ok (.iadd, 1) := dn_96 (oo_39 27 rfl rfl)
theorem dL_law_2044 : decode cL_law 2044 = .ok (.iaload, 1) := dn_46 (oo_39 28 rfl rfl)
theorem dL_law_2045 : decode cL_law 2045 = .ok (.invokevirtual 311, 3) := dn_182 (oo_39 29 rfl rfl) rfl
theorem dL_law_2048 : decode cL_law 2048 = .ok (.astore 6, 2) := dn_58 (oo_39 32 rfl rfl) rfl
theorem dL_law_2050 : decode cL_law 2050 = .ok (.goto 194, 3) := dn_167 (oo_39 34 rfl rfl) (by decide +kernel)
theorem dL_law_2053 : decode cL_law 2053 = .ok (.aload_n 1, 1) := dn_43 (oo_39 37 rfl rfl)
theorem dL_law_2054 : decode cL_law 2054 = .ok (.aload_n 0, 1) := dn_42 (oo_39 38 rfl rfl)
theorem dL_law_2055 : decode cL_law 2055 = .ok (.iload 4, 2) := dn_21 (oo_39 39 rfl rfl) rfl
theorem dL_law_2057 : decode cL_law 2057 = .ok (.iconst 1, 1) := dn_4 (oo_39 41 rfl rfl)
theorem dL_law_2058 : decode cL_law 2058 = .ok (.iadd, 1) := dn_96 (oo_39 42 rfl rfl)
theorem dL_law_2059 : decode cL_law 2059 = .ok (.iaload, 1) := dn_46 (oo_39 43 rfl rfl)
theorem dL_law_2060 : decode cL_law 2060 = .ok (.aload_n 3, 1) := dn_45 (oo_39 44 rfl rfl)
theorem dL_law_2061 : decode cL_law 2061 = .ok (.invokestatic 312, 3) := dn_184 (oo_39 45 rfl rfl) rfl
theorem dL_law_2064 : decode cL_law 2064 = .ok (.istore 5, 2) := dn_54 (oo_39 48 rfl rfl) rfl
theorem dL_law_2066 : decode cL_law 2066 = .ok (.aload_n 2, 1) := dn_44 (oo_39 50 rfl rfl)
theorem dL_law_2067 : decode cL_law 2067 = .ok (.aload_n 0, 1) := dn_42 (oo_40 0 rfl rfl)
theorem dL_law_2068 : decode cL_law 2068 = .ok (.iload 4, 2) := dn_21 (oo_40 1 rfl rfl) rfl
theorem dL_law_2070 : decode cL_law 2070 = .ok (.iconst 1, 1) := dn_4 (oo_40 3 rfl rfl)
theorem dL_law_2071 : decode cL_law 2071 = .ok (.iadd, 1) := dn_96 (oo_40 4 rfl rfl)
theorem dL_law_2072 : decode cL_law 2072 = .ok (.iaload, 1) := dn_46 (oo_40 5 rfl rfl)
theorem dL_law_2073 : decode cL_law 2073 = .ok (.invokevirtual 314, 3) := dn_182 (oo_40 6 rfl rfl) rfl
theorem dL_law_2076 : decode cL_law 2076 = .ok (.istore 6, 2) := dn_54 (oo_40 9 rfl rfl) rfl
theorem dL_law_2078 : decode cL_law 2078 = .ok (.goto 166, 3) := dn_167 (oo_40 11 rfl rfl) (by decide +kernel)
theorem dL_law_2081 : decode cL_law 2081 = .ok (.aload_n 1, 1) := dn_43 (oo_40 14 rfl rfl)
theorem dL_law_2082 : decode cL_law 2082 = .ok (.aload_n 0, 1) := dn_42 (oo_40 15 rfl rfl)
theorem dL_law_2083 : decode cL_law 2083 = .ok (.iload 4, 2) := dn_21 (oo_40 16 rfl rfl) rfl
theorem dL_law_2085 : decode cL_law 2085 = .ok (.iconst 1, 1) := dn_4 (oo_40 18 rfl rfl)
theorem dL_law_2086 : decode cL_law 2086 = .ok (.iadd, 1) := dn_96 (oo_40 19 rfl rfl)
theorem dL_law_2087 : decode cL_law 2087 = .ok (.iaload, 1) := dn_46 (oo_40 20 rfl rfl)
theorem dL_law_2088 : decode cL_law 2088 = .ok (.aload_n 3, 1) := dn_45 (oo_40 21 rfl rfl)
theorem dL_law_2089 : decode cL_law 2089 = .ok (.invokestatic 315, 3) := dn_184 (oo_40 22 rfl rfl) rfl
theorem dL_law_2092 : decode cL_law 2092 = .ok (.istore 5, 2) := dn_54 (oo_40 25 rfl rfl) rfl
theorem dL_law_2094 : decode cL_law 2094 = .ok (.aload_n 2, 1) := dn_44 (oo_40 27 rfl rfl)
theorem dL_law_2095 : decode cL_law 2095 = .ok (.aload_n 0, 1) := dn_42 (oo_40 28 rfl rfl)
theorem dL_law_2096 : decode cL_law 2096 = .ok (.iload 4, 2) := dn_21 (oo_40 29 rfl rfl) rfl
theorem dL_law_2098 : decode cL_law 2098 = .ok (.iconst 1, 1) := dn_4 (oo_40 31 rfl rfl)
theorem dL_law_2099 : decode cL_law 2099 = .ok (.iadd, 1) := dn_96 (oo_40 32 rfl rfl)
theorem dL_law_2100 : decode cL_law 2100 = .ok (.iaload, 1) := dn_46 (oo_40 33 rfl rfl)
theorem dL_law_2101 : decode cL_law 2101 = .ok (.invokevirtual 317, 3) := dn_182 (oo_40 34 rfl rfl) rfl
theorem dL_law_2104 : decode cL_law 2104 = .ok (.istore 6, 2) := dn_54 (oo_40 37 rfl rfl) rfl
theorem dL_law_2106 : decode cL_law 2106 = .ok (.goto 138, 3) := dn_167 (oo_40 39 rfl rfl) (by decide +kernel)
theorem dL_law_2109 : decode cL_law 2109 = .ok (.aload_n 1, 1) := dn_43 (oo_40 42 rfl rfl)
theorem dL_law_2110 : decode cL_law 2110 = .ok (.aload_n 0, 1) := dn_42 (oo_40 43 rfl rfl)
theorem dL_law_2111 : decode cL_law 2111 = .ok (.iload 4, 2) := dn_21 (oo_40 44 rfl rfl) rfl
theorem dL_law_2113 : decode cL_law 2113 = .ok (.iconst 1, 1) := dn_4 (oo_40 46 rfl rfl)
theorem dL_law_2114 : decode cL_law 2114 = .ok (.iadd, 1) := dn_96 (oo_40 47 rfl rfl)
theorem dL_law_2115 : decode cL_law 2115 = .ok (.iaload, 1) := dn_46 (oo_40 48 rfl rfl)
theorem dL_law_2116 : decode cL_law 2116 = .ok (.aload_n 3, 1) := dn_45 (oo_41 0 rfl rfl)
theorem dL_law_2117 : decode cL_law 2117 = .ok (.invokestatic 318, 3) := dn_184 (oo_41 1 rfl rfl) rfl
theorem dL_law_2120 : decode cL_law 2120 = .ok (.istore 5, 2) := dn_54 (oo_41 4 rfl rfl) rfl
theorem dL_law_2122 : decode cL_law 2122 = .ok (.aload_n 2, 1) := dn_44 (oo_41 6 rfl rfl)
theorem dL_law_2123 : decode cL_law 2123 = .ok (.aload_n 0, 1) := dn_42 (oo_41 7 rfl rfl)
theorem dL_law_2124 : decode cL_law 2124 = .ok (.iload 4, 2) := dn_21 (oo_41 8 rfl rfl) rfl
theorem dL_law_2126 : decode cL_law 2126 = .ok (.iconst 1, 1) := dn_4 (oo_41 10 rfl rfl)
theorem dL_law_2127 : decode cL_law 2127 = .ok (.iadd, 1) := dn_96 (oo_41 11 rfl rfl)
theorem dL_law_2128 : decode cL_law 2128 = .ok (.iaload, 1) := dn_46 (oo_41 12 rfl rfl)
theorem dL_law_2129 : decode cL_law 2129 = .ok (.invokevirtual 320, 3) := dn_182 (oo_41 13 rfl rfl) rfl
theorem dL_law_2132 : decode cL_law 2132 = .ok (.istore 6, 2) := dn_54 (oo_41 16 rfl rfl) rfl
theorem dL_law_2134 : decode cL_law 2134 = .ok (.goto 110, 3) := dn_167 (oo_41 18 rfl rfl) (by decide +kernel)
theorem dL_law_2137 : decode cL_law 2137 = .ok (.aload_n 1, 1) := dn_43 (oo_41 21 rfl rfl)
theorem dL_law_2138 : decode cL_law 2138 = .ok (.aload_n 0, 1) := dn_42 (oo_41 22 rfl rfl)
theorem dL_law_2139 : decode cL_law 2139 = .ok (.iload 4, 2) := dn_21 (oo_41 23 rfl rfl) rfl
theorem dL_law_2141 : decode cL_law 2141 = .ok (.iconst 1, 1) := dn_4 (oo_41 25 rfl rfl)
theorem dL_law_2142 : decode cL_law 2142 = .ok (.iadd, 1) := dn_96 (oo_41 26 rfl rfl)
theorem dL_law_2143 : decode cL_law 2143 = .ok (.iaload, 1) := dn_46 (oo_41 27 rfl rfl)
theorem dL_law_2144 : decode cL_law 2144 = .ok (.aload_n 0, 1) := dn_42 (oo_41 28 rfl rfl)
theorem dL_law_2145 : decode cL_law 2145 = .ok (.iload 4, 2) := dn_21 (oo_41 29 rfl rfl) rfl
theorem dL_law_2147 : decode cL_law 2147 = .ok (.iconst 2, 1) := dn_5 (oo_41 31 rfl rfl)
theorem dL_law_2148 : decode cL_law 2148 = .ok (.iadd, 1) := dn_96 (oo_41 32 rfl rfl)
theorem dL_law_2149 : decode cL_law 2149 = .ok (.iaload, 1) := dn_46 (oo_41 33 rfl rfl)
theorem dL_law_2150 : decode cL_law 2150 = .ok (.aload_n 3, 1) := dn_45 (oo_41 34 rfl rfl)
theorem dL_law_2151 : decode cL_law 2151 = .ok (.invokestatic 321, 3) := dn_184 (oo_41 35 rfl rfl) rfl
theorem dL_law_2154 : decode cL_law 2154 = .ok (.istore 5, 2) := dn_54 (oo_41 38 rfl rfl) rfl
theorem dL_law_2156 : decode cL_law 2156 = .ok (.aload_n 2, 1) := dn_44 (oo_41 40 rfl rfl)
theorem dL_law_2157 : decode cL_law 2157 = .ok (.aload_n 0, 1) := dn_42 (oo_41 41 rfl rfl)
theorem dL_law_2158 : decode cL_law 2158 = .ok (.iload 4, 2) := dn_21 (oo_41 42 rfl rfl) rfl
theorem dL_law_2160 : decode cL_law 2160 = .ok (.iconst 1, 1) := dn_4 (oo_41 44 rfl rfl)
theorem dL_law_2161 : decode cL_law 2161 = .ok (.iadd, 1) := dn_96 (oo_41 45 rfl rfl)
theorem dL_law_2162 : decode cL_law 2162 = .ok (.iaload, 1) := dn_46 (oo_41 46 rfl rfl)
theorem dL_law_2163 : decode cL_law 2163 = .ok (.aload_n 0, 1) := dn_42 (oo_42 0 rfl rfl)
theorem dL_law_2164 : decode cL_law 2164 = .ok (.iload 4, 2) := dn_21 (oo_42 1 rfl rfl) rfl
theorem dL_law_2166 : decode cL_law 2166 = .ok (.iconst 2, 1) := dn_5 (oo_42 3 rfl rfl)
theorem dL_law_2167 : decode cL_law 2167 = .ok (.iadd, 1) := dn_96 (oo_42 4 rfl rfl)
theorem dL_law_2168 : decode cL_law 2168 = .ok (.iaload, 1) := dn_46 (oo_42 5 rfl rfl)
theorem dL_law_2169 : decode cL_law 2169 = .ok (.invokevirtual 323, 3) := dn_182 (oo_42 6 rfl rfl) rfl
theorem dL_law_2172 : decode cL_law 2172 = .ok (.istore 6, 2) := dn_54 (oo_42 9 rfl rfl) rfl
theorem dL_law_2174 : decode cL_law 2174 = .ok (.goto 70, 3) := dn_167 (oo_42 11 rfl rfl) (by decide +kernel)
theorem dL_law_2177 : decode cL_law 2177 = .ok (.aload_n 1, 1) := dn_43 (oo_42 14 rfl rfl)
theorem dL_law_2178 : decode cL_law 2178 = .ok (.aload_n 0, 1) := dn_42 (oo_42 15 rfl rfl)
theorem dL_law_2179 : decode cL_law 2179 = .ok (.iload 4, 2) := dn_21 (oo_42 16 rfl rfl) rfl
theorem dL_law_2181 : decode cL_law 2181 = .ok (.iconst 1, 1) := dn_4 (oo_42 18 rfl rfl)
theorem dL_law_2182 : decode cL_law 2182 = .ok (.iadd, 1) := dn_96 (oo_42 19 rfl rfl)
theorem dL_law_2183 : decode cL_law 2183 = .ok (.iaload, 1) := dn_46 (oo_42 20 rfl rfl)
theorem dL_law_2184 : decode cL_law 2184 = .ok (.aload_n 3, 1) := dn_45 (oo_42 21 rfl rfl)
theorem dL_law_2185 : decode cL_law 2185 = .ok (.invokestatic 324, 3) := dn_184 (oo_42 22 rfl rfl) rfl
theorem dL_law_2188 : decode cL_law 2188 = .ok (.istore 5, 2) := dn_54 (oo_42 25 rfl rfl) rfl
theorem dL_law_2190 : decode cL_law 2190 = .ok (.aload_n 2, 1) := dn_44 (oo_42 27 rfl rfl)
theorem dL_law_2191 : decode cL_law 2191 = .ok (.aload_n 0, 1) := dn_42 (oo_42 28 rfl rfl)
theorem dL_law_2192 : decode cL_law 2192 = .ok (.iload 4, 2) := dn_21 (oo_42 29 rfl rfl) rfl
theorem dL_law_2194 : decode cL_law 2194 = .ok (.iconst 1, 1) := dn_4 (oo_42 31 rfl rfl)
theorem dL_law_2195 : decode cL_law 2195 = .ok (.iadd, 1) := dn_96 (oo_42 32 rfl rfl)
theorem dL_law_2196 : decode cL_law 2196 = .ok (.iaload, 1) := dn_46 (oo_42 33 rfl rfl)
theorem dL_law_2197 : decode cL_law 2197 = .ok (.invokevirtual 326, 3) := dn_182 (oo_42 34 rfl rfl) rfl
theorem dL_law_2200 : decode cL_law 2200 = .ok (.istore 6, 2) := dn_54 (oo_42 37 rfl rfl) rfl
theorem dL_law_2202 : decode cL_law 2202 = .ok (.goto 42, 3) := dn_167 (oo_42 39 rfl rfl) (by decide +kernel)
theorem dL_law_2205 : decode cL_law 2205 = .ok (.aload_n 1, 1) := dn_43 (oo_42 42 rfl rfl)
theorem dL_law_2206 : decode cL_law 2206 = .ok (.invokevirtual 327, 3) := dn_182 (oo_42 43 rfl rfl) rfl
theorem dL_law_2209 : decode cL_law 2209 = .ok (.pop, 1) := dn_87 (oo_42 46 rfl rfl)
theorem dL_law_2210 : decode cL_law 2210 = .ok (.aload_n 2, 1) := dn_44 (oo_42 47 rfl rfl)
theorem dL_law_2211 : decode cL_law 2211 = .ok (.invokevirtual 330, 3) := dn_182 (oo_42 48 rfl rfl) rfl
theorem dL_law_2214 : decode cL_law 2214 = .ok (.pop, 1) := dn_87 (oo_42 51 rfl rfl)
theorem dL_law_2215 : decode cL_law 2215 = .ok (.goto 29, 3) := dn_167 (oo_43 0 rfl rfl) (by decide +kernel)
theorem dL_law_2218 : decode cL_law 2218 = .ok (.aload_n 1, 1) := dn_43 (oo_43 3 rfl rfl)
theorem dL_law_2219 : decode cL_law 2219 = .ok (.invokevirtual 331, 3) := dn_182 (oo_43 4 rfl rfl) rfl
theorem dL_law_2222 : decode cL_law 2222 = .ok (.pop, 1) := dn_87 (oo_43 7 rfl rfl)
theorem dL_law_2223 : decode cL_law 2223 = .ok (.aload_n 2, 1) := dn_44 (oo_43 8 rfl rfl)
theorem dL_law_2224 : decode cL_law 2224 = .ok (.invokevirtual 335, 3) := dn_182 (oo_43 9 rfl rfl) rfl
theorem dL_law_2227 : decode cL_law 2227 = .ok (.pop, 1) := dn_87 (oo_43 12 rfl rfl)
theorem dL_law_2228 : decode cL_law 2228 = .ok (.goto 16, 3) := dn_167 (oo_43 13 rfl rfl) (by decide +kernel)
theorem dL_law_2231 : decode cL_law 2231 = .ok (.aload_n 1, 1) := dn_43 (oo_43 16 rfl rfl)
theorem dL_law_2232 : decode cL_law 2232 = .ok (.invokevirtual 336, 3) := dn_182 (oo_43 17 rfl rfl) rfl
theorem dL_law_2235 : decode cL_law 2235 = .ok (.pop2, 1) := dn_88 (oo_43 20 rfl rfl)
theorem dL_law_2236 : decode cL_law 2236 = .ok (.aload_n 2, 1) := dn_44 (oo_43 21 rfl rfl)
theorem dL_law_2237 : decode cL_law 2237 = .ok (.invokevirtual 340, 3) := dn_182 (oo_43 22 rfl rfl) rfl
theorem dL_law_2240 : decode cL_law 2240 = .ok (.pop2, 1) := dn_88 (oo_43 25 rfl rfl)
theorem dL_law_2241 : decode cL_law 2241 = .ok (.goto 3, 3) := dn_167 (oo_43 26 rfl rfl) (by decide +kernel)
theorem dL_law_2244 : decode cL_law 2244 = .ok (.iinc 4 4, 3) := dn_132 (oo_43 29 rfl rfl) rfl (by decide +kernel)
theorem dL_law_2247 : decode cL_law 2247 = .ok (.goto (-2220), 3) := dn_167 (oo_43 32 rfl rfl) (by decide +kernel)
theorem dL_law_2250 : decode cL_law 2250 = .ok (.iconst 1, 1) := dn_4 (oo_43 35 rfl rfl)
theorem dL_law_2251 : decode cL_law 2251 = .ok (.ireturn, 1) := dn_172 (oo_43 36 rfl rfl)
