theorem d_w_1788 : decode code 1788 = .ok (.iload 5, 2) := by decide +kernel
theorem d_w_1790 : decode code 1790 = .ok (.iconst 1, 1) := by decide +kernel
theorem d_w_1791 : decode code 1791 = .ok (.iadd, 1) := by decide +kernel
theorem d_w_1792 : decode code 1792 = .ok (.iaload, 1) := by decide +kernel
theorem d_w_1793 : decode code 1793 = .ok (.invokevirtual 241, 3) := by decide +kernel
theorem d_w_1796 : decode code 1796 = .ok (.istore 7, 2) := by decide +kernel
theorem d_w_1798 : decode code 1798 = .ok (.aload_n 2, 1) := by decide +kernel
theorem d_w_1799 : decode code 1799 = .ok (.invokevirtual 114, 3) := by decide +kernel
theorem d_w_1802 : decode code 1802 = .ok (.iload 6, 2) := by decide +kernel
theorem d_w_1804 : decode code 1804 = .ok (.if_icmp .eq 5, 3) := by decide +kernel
theorem d_w_1807 : decode code 1807 = .ok (.iconst 0, 1) := by decide +kernel
theorem d_w_1808 : decode code 1808 = .ok (.ireturn, 1) := by decide +kernel
theorem d_w_1809 : decode code 1809 = .ok (.iload 6, 2) := by decide +kernel
theorem d_w_1811 : decode code 1811 = .ok (.ifCond .ne 15, 3) := by decide +kernel
theorem d_w_1814 : decode code 1814 = .ok (.aload_n 3, 1) := by decide +kernel
theorem d_w_1815 : decode code 1815 = .ok (.iconst 0, 1) := by decide +kernel
theorem d_w_1816 : decode code 1816 = .ok (.laload, 1) := by decide +kernel
theorem d_w_1817 : decode code 1817 = .ok (.iload 7, 2) := by decide +kernel
theorem d_w_1819 : decode code 1819 = .ok (.i2l, 1) := by decide +kernel
theorem d_w_1820 : decode code 1820 = .ok (.lcmp, 1) := by decide +kernel
theorem d_w_1821 : decode code 1821 = .ok (.ifCond .eq 5, 3) := by decide +kernel
theorem d_w_1824 : decode code 1824 = .ok (.iconst 0, 1) := by decide +kernel
theorem d_w_1825 : decode code 1825 = .ok (.ireturn, 1) := by decide +kernel
theorem d_w_1826 : decode code 1826 = .ok (.goto 413, 3) := by decide +kernel
theorem d_w_1829 : decode code 1829 = .ok (.aload_n 1, 1) := by decide +kernel
theorem d_w_1830 : decode code 1830 = .ok (.aload_n 0, 1) := by decide +kernel
theorem d_w_1831 : decode code 1831 = .ok (.iload 5, 2) := by decide +kernel
theorem d_w_1833 : decode code 1833 = .ok (.iconst 1, 1) := by decide +kernel
theorem d_w_1834 : decode code 1834 = .ok (.iadd, 1) := by decide +kernel
theorem d_w_1835 : decode code 1835 = .ok (.iaload, 1) := by decide +kernel
theorem d_w_1836 : decode code 1836 = .ok (.aload_n 0, 1) := by decide +kernel
theorem d_w_1837 : decode code 1837 = .ok (.iload 5, 2) := by decide +kernel
theorem d_w_1839 : decode code 1839 = .ok (.iconst 2, 1) := by decide +kernel
theorem d_w_1840 : decode code 1840 = .ok (.iadd, 1) := by decide +kernel
theorem d_w_1841 : decode code 1841 = .ok (.iaload, 1) := by decide +kernel
theorem d_w_1842 : decode code 1842 = .ok (.aload_n 3, 1) := by decide +kernel
theorem d_w_1843 : decode code 1843 = .ok (.invokestatic 242, 3) := by decide +kernel
theorem d_w_1846 : decode code 1846 = .ok (.istore 6, 2) := by decide +kernel
theorem d_w_1848 : decode code 1848 = .ok (.aload_n 2, 1) := by decide +kernel
theorem d_w_1849 : decode code 1849 = .ok (.aload_n 0, 1) := by decide +kernel
theorem d_w_1850 : decode code 1850 = .ok (.iload 5, 2) := by decide +kernel
theorem d_w_1852 : decode code 1852 = .ok (.iconst 1, 1) := by decide +kernel
theorem d_w_1853 : decode code 1853 = .ok (.iadd, 1) := by decide +kernel
theorem d_w_1854 : decode code 1854 = .ok (.iaload, 1) := by decide +kernel
theorem d_w_1855 : decode code 1855 = .ok (.aload_n 0, 1) := by decide +kernel
theorem d_w_1856 : decode code 1856 = .ok (.iload 5, 2) := by decide +kernel
theorem d_w_1858 : decode code 1858 = .ok (.iconst 2, 1) := by decide +kernel
theorem d_w_1859 : decode code 1859 = .ok (.iadd, 1) := by decide +kernel
theorem d_w_1860 : decode code 1860 = .ok (.iaload, 1) := by decide +kernel
theorem d_w_1861 : decode code 1861 = .ok (.invokevirtual 244, 3) := by decide +kernel
theorem d_w_1864 : decode code 1864 = .ok (.istore 7, 2) := by decide +kernel
theorem d_w_1866 : decode code 1866 = .ok (.aload_n 2, 1) := by decide +kernel
theorem d_w_1867 : decode code 1867 = .ok (.invokevirtual 114, 3) := by decide +kernel
theorem d_w_1870 : decode code 1870 = .ok (.iload 6, 2) := by decide +kernel
theorem d_w_1872 : decode code 1872 = .ok (.if_icmp .eq 5, 3) := by decide +kernel
theorem d_w_1875 : decode code 1875 = .ok (.iconst 0, 1) := by decide +kernel
theorem d_w_1876 : decode code 1876 = .ok (.ireturn, 1) := by decide +kernel
theorem d_w_1877 : decode code 1877 = .ok (.iload 6, 2) := by decide +kernel
theorem d_w_1879 : decode code 1879 = .ok (.ifCond .ne 15, 3) := by decide +kernel
theorem d_w_1882 : decode code 1882 = .ok (.aload_n 3, 1) := by decide +kernel
theorem d_w_1883 : decode code 1883 = .ok (.iconst 0, 1) := by decide +kernel
theorem d_w_1884 : decode code 1884 = .ok (.laload, 1) := by decide +kernel
theorem d_w_1885 : decode code 1885 = .ok (.iload 7, 2) := by decide +kernel
theorem d_w_1887 : decode code 1887 = .ok (.i2l, 1) := by decide +kernel
theorem d_w_1888 : decode code 1888 = .ok (.lcmp, 1) := by decide +kernel
theorem d_w_1889 : decode code 1889 = .ok (.ifCond .eq 5, 3) := by decide +kernel
theorem d_w_1892 : decode code 1892 = .ok (.iconst 0, 1) := by decide +kernel
theorem d_w_1893 : decode code 1893 = .ok (.ireturn, 1) := by decide +kernel
theorem d_w_1894 : decode code 1894 = .ok (.goto 345, 3) := by decide +kernel
theorem d_w_1897 : decode code 1897 = .ok (.aload_n 1, 1) := by decide +kernel
theorem d_w_1898 : decode code 1898 = .ok (.invokevirtual 245, 3) := by decide +kernel
theorem d_w_1901 : decode code 1901 = .ok (.aload_n 2, 1) := by decide +kernel
theorem d_w_1902 : decode code 1902 = .ok (.invokevirtual 248, 3) := by decide +kernel
theorem d_w_1905 : decode code 1905 = .ok (.if_icmp .eq 334, 3) := by decide +kernel
theorem d_w_1908 : decode code 1908 = .ok (.iconst 0, 1) := by decide +kernel
theorem d_w_1909 : decode code 1909 = .ok (.ireturn, 1) := by decide +kernel
theorem d_w_1910 : decode code 1910 = .ok (.aload_n 1, 1) := by decide +kernel
theorem d_w_1911 : decode code 1911 = .ok (.aload_n 0, 1) := by decide +kernel
theorem d_w_1912 : decode code 1912 = .ok (.iload 5, 2) := by decide +kernel
theorem d_w_1914 : decode code 1914 = .ok (.iconst 1, 1) := by decide +kernel
theorem d_w_1915 : decode code 1915 = .ok (.iadd, 1) := by decide +kernel
theorem d_w_1916 : decode code 1916 = .ok (.iaload, 1) := by decide +kernel
theorem d_w_1917 : decode code 1917 = .ok (.aload_n 3, 1) := by decide +kernel
theorem d_w_1918 : decode code 1918 = .ok (.invokestatic 249, 3) := by decide +kernel
theorem d_w_1921 : decode code 1921 = .ok (.istore 6, 2) := by decide +kernel
theorem d_w_1923 : decode code 1923 = .ok (.aload_n 2, 1) := by decide +kernel
theorem d_w_1924 : decode code 1924 = .ok (.aload_n 0, 1) := by decide +kernel
theorem d_w_1925 : decode code 1925 = .ok (.iload 5, 2) := by decide +kernel
theorem d_w_1927 : decode code 1927 = .ok (.iconst 1, 1) := by decide +kernel
theorem d_w_1928 : decode code 1928 = .ok (.iadd, 1) := by decide +kernel
theorem d_w_1929 : decode code 1929 = .ok (.iaload, 1) := by decide +kernel
theorem d_w_1930 : decode code 1930 = .ok (.invokevirtual 251, 3) := by decide +kernel
theorem d_w_1933 : decode code 1933 = .ok (.istore 7, 2) := by decide +kernel
theorem d_w_1935 : decode code 1935 = .ok (.aload_n 2, 1) := by decide +kernel
theorem d_w_1936 : decode code 1936 = .ok (.invokevirtual 114, 3) := by decide +kernel
theorem d_w_1939 : decode code 1939 = .ok (.iload 6, 2) := by decide +kernel
theorem d_w_1941 : decode code 1941 = .ok (.if_icmp .eq 5, 3) := by decide +kernel
theorem d_w_1944 : decode code 1944 = .ok (.iconst 0, 1) := by decide +kernel
theorem d_w_1945 : decode code 1945 = .ok (.ireturn, 1) := by decide +kernel
theorem d_w_1946 : decode code 1946 = .ok (.iload 6, 2) := by decide +kernel
theorem d_w_1948 : decode code 1948 = .ok (.ifCond .ne 15, 3) := by decide +kernel
theorem d_w_1951 : decode code 1951 = .ok (.aload_n 3, 1) := by decide +kernel
theorem d_w_1952 : decode code 1952 = .ok (.iconst 0, 1) := by decide +kernel
theorem d_w_1953 : decode code 1953 = .ok (.laload, 1) := by decide +kernel
theorem d_w_1954 : decode code 1954 = .ok (.iload 7, 2) := by decide +kernel
theorem d_w_1956 : decode code 1956 = .ok (.i2l, 1) := by decide +kernel
theorem d_w_1957 : decode code 1957 = .ok (.lcmp, 1) := by decide +kernel
theorem d_w_1958 : decode code 1958 = .ok (.ifCond .eq 5, 3) := by decide +kernel
theorem d_w_1961 : decode code 1961 = .ok (.iconst 0, 1) := by decide +kernel
theorem d_w_1962 : decode code 1962 = .ok (.ireturn, 1) := by decide +kernel
