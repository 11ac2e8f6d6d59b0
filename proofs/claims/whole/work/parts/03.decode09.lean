theorem dL_law_1787 : decode cL_law 1787 = .ok (.aload_n 0, 1) := by decide +kernel
theorem dL_law_1788 : decode cL_law 1788 = .ok (.iload_n 3, 1) := by decide +kernel
theorem dL_law_1789 : decode cL_law 1789 = .ok (.iconst 2, 1) := by decide +kernel
theorem dL_law_1790 : decode cL_law 1790 = .ok (.iadd, 1) := by decide +kernel
theorem dL_law_1791 : decode cL_law 1791 = .ok (.iaload, 1) := by decide +kernel
theorem dL_law_1792 : decode cL_law 1792 = .ok (.aload_n 0, 1) := by decide +kernel
theorem dL_law_1793 : decode cL_law 1793 = .ok (.iload_n 3, 1) := by decide +kernel
theorem dL_law_1794 : decode cL_law 1794 = .ok (.iconst 3, 1) := by decide +kernel
theorem dL_law_1795 : decode cL_law 1795 = .ok (.iadd, 1) := by decide +kernel
theorem dL_law_1796 : decode cL_law 1796 = .ok (.iaload, 1) := by decide +kernel
theorem dL_law_1797 : decode cL_law 1797 = .ok (.invokevirtual 189, 3) := by decide +kernel
theorem dL_law_1800 : decode cL_law 1800 = .ok (.if_icmp .eq 215, 3) := by decide +kernel
theorem dL_law_1803 : decode cL_law 1803 = .ok (.iconst 0, 1) := by decide +kernel
theorem dL_law_1804 : decode cL_law 1804 = .ok (.ireturn, 1) := by decide +kernel
theorem dL_law_1805 : decode cL_law 1805 = .ok (.aload_n 1, 1) := by decide +kernel
theorem dL_law_1806 : decode cL_law 1806 = .ok (.aload_n 0, 1) := by decide +kernel
theorem dL_law_1807 : decode cL_law 1807 = .ok (.iload_n 3, 1) := by decide +kernel
theorem dL_law_1808 : decode cL_law 1808 = .ok (.iconst 1, 1) := by decide +kernel
theorem dL_law_1809 : decode cL_law 1809 = .ok (.iadd, 1) := by decide +kernel
theorem dL_law_1810 : decode cL_law 1810 = .ok (.iaload, 1) := by decide +kernel
theorem dL_law_1811 : decode cL_law 1811 = .ok (.aload_n 0, 1) := by decide +kernel
theorem dL_law_1812 : decode cL_law 1812 = .ok (.iload_n 3, 1) := by decide +kernel
theorem dL_law_1813 : decode cL_law 1813 = .ok (.iconst 2, 1) := by decide +kernel
theorem dL_law_1814 : decode cL_law 1814 = .ok (.iadd, 1) := by decide +kernel
theorem dL_law_1815 : decode cL_law 1815 = .ok (.iaload, 1) := by decide +kernel
theorem dL_law_1816 : decode cL_law 1816 = .ok (.aload_n 0, 1) := by decide +kernel
theorem dL_law_1817 : decode cL_law 1817 = .ok (.iload_n 3, 1) := by decide +kernel
theorem dL_law_1818 : decode cL_law 1818 = .ok (.iconst 3, 1) := by decide +kernel
theorem dL_law_1819 : decode cL_law 1819 = .ok (.iadd, 1) := by decide +kernel
theorem dL_law_1820 : decode cL_law 1820 = .ok (.iaload, 1) := by decide +kernel
theorem dL_law_1821 : decode cL_law 1821 = .ok (.invokevirtual 190, 3) := by decide +kernel
theorem dL_law_1824 : decode cL_law 1824 = .ok (.aload_n 2, 1) := by decide +kernel
theorem dL_law_1825 : decode cL_law 1825 = .ok (.aload_n 0, 1) := by decide +kernel
theorem dL_law_1826 : decode cL_law 1826 = .ok (.iload_n 3, 1) := by decide +kernel
theorem dL_law_1827 : decode cL_law 1827 = .ok (.iconst 1, 1) := by decide +kernel
theorem dL_law_1828 : decode cL_law 1828 = .ok (.iadd, 1) := by decide +kernel
theorem dL_law_1829 : decode cL_law 1829 = .ok (.iaload, 1) := by decide +kernel
theorem dL_law_1830 : decode cL_law 1830 = .ok (.aload_n 0, 1) := by decide +kernel
theorem dL_law_1831 : decode cL_law 1831 = .ok (.iload_n 3, 1) := by decide +kernel
theorem dL_law_1832 : decode cL_law 1832 = .ok (.iconst 2, 1) := by decide +kernel
theorem dL_law_1833 : decode cL_law 1833 = .ok (.iadd, 1) := by decide +kernel
theorem dL_law_1834 : decode cL_law 1834 = .ok (.iaload, 1) := by decide +kernel
theorem dL_law_1835 : decode cL_law 1835 = .ok (.aload_n 0, 1) := by decide +kernel
theorem dL_law_1836 : decode cL_law 1836 = .ok (.iload_n 3, 1) := by decide +kernel
theorem dL_law_1837 : decode cL_law 1837 = .ok (.iconst 3, 1) := by decide +kernel
theorem dL_law_1838 : decode cL_law 1838 = .ok (.iadd, 1) := by decide +kernel
theorem dL_law_1839 : decode cL_law 1839 = .ok (.iaload, 1) := by decide +kernel
theorem dL_law_1840 : decode cL_law 1840 = .ok (.invokevirtual 193, 3) := by decide +kernel
theorem dL_law_1843 : decode cL_law 1843 = .ok (.if_icmp .eq 172, 3) := by decide +kernel
theorem dL_law_1846 : decode cL_law 1846 = .ok (.iconst 0, 1) := by decide +kernel
theorem dL_law_1847 : decode cL_law 1847 = .ok (.ireturn, 1) := by decide +kernel
theorem dL_law_1848 : decode cL_law 1848 = .ok (.aload_n 1, 1) := by decide +kernel
theorem dL_law_1849 : decode cL_law 1849 = .ok (.aload_n 0, 1) := by decide +kernel
theorem dL_law_1850 : decode cL_law 1850 = .ok (.iload_n 3, 1) := by decide +kernel
theorem dL_law_1851 : decode cL_law 1851 = .ok (.iconst 1, 1) := by decide +kernel
theorem dL_law_1852 : decode cL_law 1852 = .ok (.iadd, 1) := by decide +kernel
theorem dL_law_1853 : decode cL_law 1853 = .ok (.iaload, 1) := by decide +kernel
theorem dL_law_1854 : decode cL_law 1854 = .ok (.aload_n 0, 1) := by decide +kernel
theorem dL_law_1855 : decode cL_law 1855 = .ok (.iload_n 3, 1) := by decide +kernel
theorem dL_law_1856 : decode cL_law 1856 = .ok (.iconst 2, 1) := by decide +kernel
theorem dL_law_1857 : decode cL_law 1857 = .ok (.iadd, 1) := by decide +kernel
theorem dL_law_1858 : decode cL_law 1858 = .ok (.iaload, 1) := by decide +kernel
theorem dL_law_1859 : decode cL_law 1859 = .ok (.aload_n 0, 1) := by decide +kernel
theorem dL_law_1860 : decode cL_law 1860 = .ok (.iload_n 3, 1) := by decide +kernel
theorem dL_law_1861 : decode cL_law 1861 = .ok (.iconst 3, 1) := by decide +kernel
theorem dL_law_1862 : decode cL_law 1862 = .ok (.iadd, 1) := by decide +kernel
theorem dL_law_1863 : decode cL_law 1863 = .ok (.iaload, 1) := by decide +kernel
theorem dL_law_1864 : decode cL_law 1864 = .ok (.aload_n 0, 1) := by decide +kernel
theorem dL_law_1865 : decode cL_law 1865 = .ok (.iload_n 3, 1) := by decide +kernel
theorem dL_law_1866 : decode cL_law 1866 = .ok (.iconst 4, 1) := by decide +kernel
theorem dL_law_1867 : decode cL_law 1867 = .ok (.iadd, 1) := by decide +kernel
theorem dL_law_1868 : decode cL_law 1868 = .ok (.iaload, 1) := by decide +kernel
theorem dL_law_1869 : decode cL_law 1869 = .ok (.invokevirtual 194, 3) := by decide +kernel
theorem dL_law_1872 : decode cL_law 1872 = .ok (.aload_n 2, 1) := by decide +kernel
theorem dL_law_1873 : decode cL_law 1873 = .ok (.aload_n 0, 1) := by decide +kernel
theorem dL_law_1874 : decode cL_law 1874 = .ok (.iload_n 3, 1) := by decide +kernel
theorem dL_law_1875 : decode cL_law 1875 = .ok (.iconst 1, 1) := by decide +kernel
theorem dL_law_1876 : decode cL_law 1876 = .ok (.iadd, 1) := by decide +kernel
theorem dL_law_1877 : decode cL_law 1877 = .ok (.iaload, 1) := by decide +kernel
theorem dL_law_1878 : decode cL_law 1878 = .ok (.aload_n 0, 1) := by decide +kernel
theorem dL_law_1879 : decode cL_law 1879 = .ok (.iload_n 3, 1) := by decide +kernel
theorem dL_law_1880 : decode cL_law 1880 = .ok (.iconst 2, 1) := by decide +kernel
theorem dL_law_1881 : decode cL_law 1881 = .ok (.iadd, 1) := by decide +kernel
theorem dL_law_1882 : decode cL_law 1882 = .ok (.iaload, 1) := by decide +kernel
theorem dL_law_1883 : decode cL_law 1883 = .ok (.aload_n 0, 1) := by decide +kernel
theorem dL_law_1884 : decode cL_law 1884 = .ok (.iload_n 3, 1) := by decide +kernel
theorem dL_law_1885 : decode cL_law 1885 = .ok (.iconst 3, 1) := by decide +kernel
theorem dL_law_1886 : decode cL_law 1886 = .ok (.iadd, 1) := by decide +kernel
theorem dL_law_1887 : decode cL_law 1887 = .ok (.iaload, 1) := by decide +kernel
theorem dL_law_1888 : decode cL_law 1888 = .ok (.aload_n 0, 1) := by decide +kernel
theorem dL_law_1889 : decode cL_law 1889 = .ok (.iload_n 3, 1) := by decide +kernel
theorem dL_law_1890 : decode cL_law 1890 = .ok (.iconst 4, 1) := by decide +kernel
theorem dL_law_1891 : decode cL_law 1891 = .ok (.iadd, 1) := by decide +kernel
theorem dL_law_1892 : decode cL_law 1892 = .ok (.iaload, 1) := by decide +kernel
theorem dL_law_1893 : decode cL_law 1893 = .ok (.invokevirtual 197, 3) := by decide +kernel
theorem dL_law_1896 : decode cL_law 1896 = .ok (.if_icmp .eq 119, 3) := by decide +kernel
theorem dL_law_1899 : decode cL_law 1899 = .ok (.iconst 0, 1) := by decide +kernel
theorem dL_law_1900 : decode cL_law 1900 = .ok (.ireturn, 1) := by decide +kernel
theorem dL_law_1901 : decode cL_law 1901 = .ok (.aload_n 1, 1) := by decide +kernel
theorem dL_law_1902 : decode cL_law 1902 = .ok (.invokevirtual 198, 3) := by decide +kernel
theorem dL_law_1905 : decode cL_law 1905 = .ok (.aload_n 2, 1) := by decide +kernel
theorem dL_law_1906 : decode cL_law 1906 = .ok (.invokevirtual 202, 3) := by decide +kernel
theorem dL_law_1909 : decode cL_law 1909 = .ok (.if_icmp .eq 106, 3) := by decide +kernel
theorem dL_law_1912 : decode cL_law 1912 = .ok (.iconst 0, 1) := by decide +kernel
theorem dL_law_1913 : decode cL_law 1913 = .ok (.ireturn, 1) := by decide +kernel
theorem dL_law_1914 : decode cL_law 1914 = .ok (.aload_n 1, 1) := by decide +kernel
theorem dL_law_1915 : decode cL_law 1915 = .ok (.invokevirtual 203, 3) := by decide +kernel
theorem dL_law_1918 : decode cL_law 1918 = .ok (.aload_n 2, 1) := by decide +kernel
theorem dL_law_1919 : decode cL_law 1919 = .ok (.invokevirtual 207, 3) := by decide +kernel
theorem dL_law_1922 : decode cL_law 1922 = .ok (.lcmp, 1) := by decide +kernel
theorem dL_law_1923 : decode cL_law 1923 = .ok (.ifCond .eq 92, 3) := by decide +kernel
theorem dL_law_1926 : decode cL_law 1926 = .ok (.iconst 0, 1) := by decide +kernel
theorem dL_law_1927 : decode cL_law 1927 = .ok (.ireturn, 1) := by decide +kernel
theorem dL_law_1928 : decode cL_law 1928 = .ok (.aload_n 1, 1) := by decide +kernel
theorem dL_law_1929 : decode cL_law 1929 = .ok (.invokevirtual 208, 3) := by decide +kernel
theorem dL_law_1932 : decode cL_law 1932 = .ok (.aload_n 2, 1) := by decide +kernel
theorem dL_law_1933 : decode cL_law 1933 = .ok (.invokevirtual 211, 3) := by decide +kernel
theorem dL_law_1936 : decode cL_law 1936 = .ok (.lcmp, 1) := by decide +kernel
theorem dL_law_1937 : decode cL_law 1937 = .ok (.ifCond .eq 78, 3) := by decide +kernel
theorem dL_law_1940 : decode cL_law 1940 = .ok (.iconst 0, 1) := by decide +kernel
theorem dL_law_1941 : decode cL_law 1941 = .ok (.ireturn, 1) := by decide +kernel
theorem dL_law_1942 : decode cL_law 1942 = .ok (.aload_n 1, 1) := by decide +kernel
theorem dL_law_1943 : decode cL_law 1943 = .ok (.aload_n 0, 1) := by decide +kernel
theorem dL_law_1944 : decode cL_law 1944 = .ok (.iload_n 3, 1) := by decide +kernel
theorem dL_law_1945 : decode cL_law 1945 = .ok (.iconst 1, 1) := by decide +kernel
theorem dL_law_1946 : decode cL_law 1946 = .ok (.iadd, 1) := by decide +kernel
theorem dL_law_1947 : decode cL_law 1947 = .ok (.iaload, 1) := by decide +kernel
theorem dL_law_1948 : decode cL_law 1948 = .ok (.invokevirtual 212, 3) := by decide +kernel
theorem dL_law_1951 : decode cL_law 1951 = .ok (.aload_n 2, 1) := by decide +kernel
theorem dL_law_1952 : decode cL_law 1952 = .ok (.aload_n 0, 1) := by decide +kernel
theorem dL_law_1953 : decode cL_law 1953 = .ok (.iload_n 3, 1) := by decide +kernel
theorem dL_law_1954 : decode cL_law 1954 = .ok (.iconst 1, 1) := by decide +kernel
theorem dL_law_1955 : decode cL_law 1955 = .ok (.iadd, 1) := by decide +kernel
theorem dL_law_1956 : decode cL_law 1956 = .ok (.iaload, 1) := by decide +kernel
theorem dL_law_1957 : decode cL_law 1957 = .ok (.invokevirtual 215, 3) := by decide +kernel
theorem dL_law_1960 : decode cL_law 1960 = .ok (.if_icmp .eq 55, 3) := by decide +kernel
theorem dL_law_1963 : decode cL_law 1963 = .ok (.iconst 0, 1) := by decide +kernel
theorem dL_law_1964 : decode cL_law 1964 = .ok (.ireturn, 1) := by decide +kernel
theorem dL_law_1965 : decode cL_law 1965 = .ok (.aload_n 1, 1) := by decide +kernel
theorem dL_law_1966 : decode cL_law 1966 = .ok (.invokevirtual 216, 3) := by decide +kernel
theorem dL_law_1969 : decode cL_law 1969 = .ok (.aload_n 2, 1) := by decide +kernel
theorem dL_law_1970 : decode cL_law 1970 = .ok (.invokevirtual 219, 3) := by decide +kernel
theorem dL_law_1973 : decode cL_law 1973 = .ok (.if_icmp .eq 42, 3) := by decide +kernel
theorem dL_law_1976 : decode cL_law 1976 = .ok (.iconst 0, 1) := by decide +kernel
theorem dL_law_1977 : decode cL_law 1977 = .ok (.ireturn, 1) := by decide +kernel
theorem dL_law_1978 : decode cL_law 1978 = .ok (.aload_n 1, 1) := by decide +kernel
theorem dL_law_1979 : decode cL_law 1979 = .ok (.aload_n 0, 1) := by decide +kernel
theorem dL_law_1980 : decode cL_law 1980 = .ok (.iload_n 3, 1) := by decide +kernel
theorem dL_law_1981 : decode cL_law 1981 = .ok (.iconst 1, 1) := by decide +kernel
theorem dL_law_1982 : decode cL_law 1982 = .ok (.iadd, 1) := by decide +kernel
theorem dL_law_1983 : decode cL_law 1983 = .ok (.iaload, 1) := by decide +kernel
theorem dL_law_1984 : decode cL_law 1984 = .ok (.invokevirtual 220, 3) := by decide +kernel
theorem dL_law_1987 : decode cL_law 1987 = .ok (.aload_n 2, 1) := by decide +kernel
theorem dL_law_1988 : decode cL_law 1988 = .ok (.aload_n 0, 1) := by decide +kernel
theorem dL_law_1989 : decode cL_law 1989 = .ok (.iload_n 3, 1) := by decide +kernel
theorem dL_law_1990 : decode cL_law 1990 = .ok (.iconst 1, 1) := by decide +kernel
theorem dL_law_1991 : decode cL_law 1991 = .ok (.iadd, 1) := by decide +kernel
theorem dL_law_1992 : decode cL_law 1992 = .ok (.iaload, 1) := by decide +kernel
theorem dL_law_1993 : decode cL_law 1993 = .ok (.invokevirtual 223, 3) := by decide +kernel
theorem dL_law_1996 : decode cL_law 1996 = .ok (.if_icmp .eq 19, 3) := by decide +kernel
theorem dL_law_1999 : decode cL_law 1999 = .ok (.iconst 0, 1) := by decide +kernel
theorem dL_law_2000 : decode cL_law 2000 = .ok (.ireturn, 1) := by decide +kernel
theorem dL_law_2001 : decode cL_law 2001 = .ok (.aload_n 1, 1) := by decide +kernel
theorem dL_law_2002 : decode cL_law 2002 = .ok (.invokevirtual 224, 3) := by decide +kernel
theorem dL_law_2005 : decode cL_law 2005 = .ok (.aload_n 2, 1) := by decide +kernel
theorem dL_law_2006 : decode cL_law 2006 = .ok (.invokevirtual 227, 3) := by decide +kernel
theorem dL_law_2009 : decode cL_law 2009 = .ok (.lcmp, 1) := by decide +kernel
theorem dL_law_2010 : decode cL_law 2010 = .ok (.ifCond .eq 5, 3) := by decide +kernel
theorem dL_law_2013 : decode cL_law 2013 = .ok (.iconst 0, 1) := by decide +kernel
theorem dL_law_2014 : decode cL_law 2014 = .ok (.ireturn, 1) := by decide +kernel
theorem dL_law_2015 : decode cL_law 2015 = .ok (.iinc 3 6, 3) := by decide +kernel
theorem dL_law_2018 : decode cL_law 2018 = .ok (.goto (-2000), 3) := by decide +kernel
theorem dL_law_2021 : decode cL_law 2021 = .ok (.iconst 1, 1) := by decide +kernel
theorem dL_law_2022 : decode cL_law 2022 = .ok (.ireturn, 1) := by decide +kernel
