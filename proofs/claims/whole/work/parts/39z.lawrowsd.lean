theorem dL_law_1681 : decode cL_law 1681 = .ok (.iload 6, 2) := by decide +kernel
theorem dL_law_1683 : decode cL_law 1683 = .ok (.if_icmp .eq 5, 3) := by decide +kernel
theorem dL_law_1686 : decode cL_law 1686 = .ok (.iconst 0, 1) := by decide +kernel
theorem dL_law_1687 : decode cL_law 1687 = .ok (.ireturn, 1) := by decide +kernel
theorem dL_law_1688 : decode cL_law 1688 = .ok (.iload 6, 2) := by decide +kernel
theorem dL_law_1690 : decode cL_law 1690 = .ok (.ifCond .ne 15, 3) := by decide +kernel
theorem dL_law_1693 : decode cL_law 1693 = .ok (.aload_n 3, 1) := by decide +kernel
theorem dL_law_1694 : decode cL_law 1694 = .ok (.iconst 0, 1) := by decide +kernel
theorem dL_law_1695 : decode cL_law 1695 = .ok (.laload, 1) := by decide +kernel
theorem dL_law_1696 : decode cL_law 1696 = .ok (.iload 7, 2) := by decide +kernel
theorem dL_law_1698 : decode cL_law 1698 = .ok (.i2l, 1) := by decide +kernel
theorem dL_law_1699 : decode cL_law 1699 = .ok (.lcmp, 1) := by decide +kernel
theorem dL_law_1700 : decode cL_law 1700 = .ok (.ifCond .eq 5, 3) := by decide +kernel
theorem dL_law_1703 : decode cL_law 1703 = .ok (.iconst 0, 1) := by decide +kernel
theorem dL_law_1704 : decode cL_law 1704 = .ok (.ireturn, 1) := by decide +kernel
theorem dL_law_1705 : decode cL_law 1705 = .ok (.goto 905, 3) := by decide +kernel
theorem dL_law_1708 : decode cL_law 1708 = .ok (.aload_n 1, 1) := by decide +kernel
theorem dL_law_1709 : decode cL_law 1709 = .ok (.aload_n 0, 1) := by decide +kernel
theorem dL_law_1710 : decode cL_law 1710 = .ok (.iload 5, 2) := by decide +kernel
theorem dL_law_1712 : decode cL_law 1712 = .ok (.iconst 1, 1) := by decide +kernel
theorem dL_law_1713 : decode cL_law 1713 = .ok (.iadd, 1) := by decide +kernel
theorem dL_law_1714 : decode cL_law 1714 = .ok (.iaload, 1) := by decide +kernel
theorem dL_law_1715 : decode cL_law 1715 = .ok (.aload_n 3, 1) := by decide +kernel
theorem dL_law_1716 : decode cL_law 1716 = .ok (.invokestatic 221, 3) := by decide +kernel
theorem dL_law_1719 : decode cL_law 1719 = .ok (.istore 6, 2) := by decide +kernel
theorem dL_law_1721 : decode cL_law 1721 = .ok (.aload_n 2, 1) := by decide +kernel
theorem dL_law_1722 : decode cL_law 1722 = .ok (.aload_n 0, 1) := by decide +kernel
theorem dL_law_1723 : decode cL_law 1723 = .ok (.iload 5, 2) := by decide +kernel
theorem dL_law_1725 : decode cL_law 1725 = .ok (.iconst 1, 1) := by decide +kernel
theorem dL_law_1726 : decode cL_law 1726 = .ok (.iadd, 1) := by decide +kernel
theorem dL_law_1727 : decode cL_law 1727 = .ok (.iaload, 1) := by decide +kernel
theorem dL_law_1728 : decode cL_law 1728 = .ok (.invokevirtual 223, 3) := by decide +kernel
theorem dL_law_1731 : decode cL_law 1731 = .ok (.istore 7, 2) := by decide +kernel
theorem dL_law_1733 : decode cL_law 1733 = .ok (.aload_n 2, 1) := by decide +kernel
theorem dL_law_1734 : decode cL_law 1734 = .ok (.invokevirtual 149, 3) := by decide +kernel
theorem dL_law_1737 : decode cL_law 1737 = .ok (.iload 6, 2) := by decide +kernel
theorem dL_law_1739 : decode cL_law 1739 = .ok (.if_icmp .eq 5, 3) := by decide +kernel
theorem dL_law_1742 : decode cL_law 1742 = .ok (.iconst 0, 1) := by decide +kernel
theorem dL_law_1743 : decode cL_law 1743 = .ok (.ireturn, 1) := by decide +kernel
theorem dL_law_1744 : decode cL_law 1744 = .ok (.iload 6, 2) := by decide +kernel
theorem dL_law_1746 : decode cL_law 1746 = .ok (.ifCond .ne 15, 3) := by decide +kernel
theorem dL_law_1749 : decode cL_law 1749 = .ok (.aload_n 3, 1) := by decide +kernel
theorem dL_law_1750 : decode cL_law 1750 = .ok (.iconst 0, 1) := by decide +kernel
theorem dL_law_1751 : decode cL_law 1751 = .ok (.laload, 1) := by decide +kernel
theorem dL_law_1752 : decode cL_law 1752 = .ok (.iload 7, 2) := by decide +kernel
theorem dL_law_1754 : decode cL_law 1754 = .ok (.i2l, 1) := by decide +kernel
theorem dL_law_1755 : decode cL_law 1755 = .ok (.lcmp, 1) := by decide +kernel
theorem dL_law_1756 : decode cL_law 1756 = .ok (.ifCond .eq 5, 3) := by decide +kernel
theorem dL_law_1759 : decode cL_law 1759 = .ok (.iconst 0, 1) := by decide +kernel
theorem dL_law_1760 : decode cL_law 1760 = .ok (.ireturn, 1) := by decide +kernel
theorem dL_law_1761 : decode cL_law 1761 = .ok (.goto 849, 3) := by decide +kernel
theorem dL_law_1764 : decode cL_law 1764 = .ok (.aload_n 1, 1) := by decide +kernel
theorem dL_law_1765 : decode cL_law 1765 = .ok (.aload_n 0, 1) := by decide +kernel
theorem dL_law_1766 : decode cL_law 1766 = .ok (.iload 5, 2) := by decide +kernel
theorem dL_law_1768 : decode cL_law 1768 = .ok (.iconst 1, 1) := by decide +kernel
theorem dL_law_1769 : decode cL_law 1769 = .ok (.iadd, 1) := by decide +kernel
theorem dL_law_1770 : decode cL_law 1770 = .ok (.iaload, 1) := by decide +kernel
theorem dL_law_1771 : decode cL_law 1771 = .ok (.aload_n 3, 1) := by decide +kernel
theorem dL_law_1772 : decode cL_law 1772 = .ok (.invokestatic 224, 3) := by decide +kernel
theorem dL_law_1775 : decode cL_law 1775 = .ok (.istore 6, 2) := by decide +kernel
theorem dL_law_1777 : decode cL_law 1777 = .ok (.aload_n 2, 1) := by decide +kernel
theorem dL_law_1778 : decode cL_law 1778 = .ok (.aload_n 0, 1) := by decide +kernel
theorem dL_law_1779 : decode cL_law 1779 = .ok (.iload 5, 2) := by decide +kernel
theorem dL_law_1781 : decode cL_law 1781 = .ok (.iconst 1, 1) := by decide +kernel
theorem dL_law_1782 : decode cL_law 1782 = .ok (.iadd, 1) := by decide +kernel
theorem dL_law_1783 : decode cL_law 1783 = .ok (.iaload, 1) := by decide +kernel
theorem dL_law_1784 : decode cL_law 1784 = .ok (.invokevirtual 226, 3) := by decide +kernel
theorem dL_law_1787 : decode cL_law 1787 = .ok (.istore 7, 2) := by decide +kernel
theorem dL_law_1789 : decode cL_law 1789 = .ok (.aload_n 2, 1) := by decide +kernel
theorem dL_law_1790 : decode cL_law 1790 = .ok (.invokevirtual 149, 3) := by decide +kernel
theorem dL_law_1793 : decode cL_law 1793 = .ok (.iload 6, 2) := by decide +kernel
theorem dL_law_1795 : decode cL_law 1795 = .ok (.if_icmp .eq 5, 3) := by decide +kernel
theorem dL_law_1798 : decode cL_law 1798 = .ok (.iconst 0, 1) := by decide +kernel
theorem dL_law_1799 : decode cL_law 1799 = .ok (.ireturn, 1) := by decide +kernel
theorem dL_law_1800 : decode cL_law 1800 = .ok (.iload 6, 2) := by decide +kernel
theorem dL_law_1802 : decode cL_law 1802 = .ok (.ifCond .ne 15, 3) := by decide +kernel
theorem dL_law_1805 : decode cL_law 1805 = .ok (.aload_n 3, 1) := by decide +kernel
theorem dL_law_1806 : decode cL_law 1806 = .ok (.iconst 0, 1) := by decide +kernel
theorem dL_law_1807 : decode cL_law 1807 = .ok (.laload, 1) := by decide +kernel
theorem dL_law_1808 : decode cL_law 1808 = .ok (.iload 7, 2) := by decide +kernel
theorem dL_law_1810 : decode cL_law 1810 = .ok (.i2l, 1) := by decide +kernel
theorem dL_law_1811 : decode cL_law 1811 = .ok (.lcmp, 1) := by decide +kernel
theorem dL_law_1812 : decode cL_law 1812 = .ok (.ifCond .eq 5, 3) := by decide +kernel
theorem dL_law_1815 : decode cL_law 1815 = .ok (.iconst 0, 1) := by decide +kernel
theorem dL_law_1816 : decode cL_law 1816 = .ok (.ireturn, 1) := by decide +kernel
theorem dL_law_1817 : decode cL_law 1817 = .ok (.goto 793, 3) := by decide +kernel
theorem dL_law_1820 : decode cL_law 1820 = .ok (.aload_n 1, 1) := by decide +kernel
theorem dL_law_1821 : decode cL_law 1821 = .ok (.aload_n 0, 1) := by decide +kernel
theorem dL_law_1822 : decode cL_law 1822 = .ok (.iload 5, 2) := by decide +kernel
theorem dL_law_1824 : decode cL_law 1824 = .ok (.iconst 1, 1) := by decide +kernel
theorem dL_law_1825 : decode cL_law 1825 = .ok (.iadd, 1) := by decide +kernel
theorem dL_law_1826 : decode cL_law 1826 = .ok (.iaload, 1) := by decide +kernel
theorem dL_law_1827 : decode cL_law 1827 = .ok (.aload_n 3, 1) := by decide +kernel
theorem dL_law_1828 : decode cL_law 1828 = .ok (.invokestatic 227, 3) := by decide +kernel
theorem dL_law_1831 : decode cL_law 1831 = .ok (.istore 6, 2) := by decide +kernel
theorem dL_law_1833 : decode cL_law 1833 = .ok (.aload_n 2, 1) := by decide +kernel
theorem dL_law_1834 : decode cL_law 1834 = .ok (.aload_n 0, 1) := by decide +kernel
theorem dL_law_1835 : decode cL_law 1835 = .ok (.iload 5, 2) := by decide +kernel
theorem dL_law_1837 : decode cL_law 1837 = .ok (.iconst 1, 1) := by decide +kernel
theorem dL_law_1838 : decode cL_law 1838 = .ok (.iadd, 1) := by decide +kernel
theorem dL_law_1839 : decode cL_law 1839 = .ok (.iaload, 1) := by decide +kernel
theorem dL_law_1840 : decode cL_law 1840 = .ok (.invokevirtual 229, 3) := by decide +kernel
theorem dL_law_1843 : decode cL_law 1843 = .ok (.istore 7, 2) := by decide +kernel
theorem dL_law_1845 : decode cL_law 1845 = .ok (.aload_n 2, 1) := by decide +kernel
theorem dL_law_1846 : decode cL_law 1846 = .ok (.invokevirtual 149, 3) := by decide +kernel
theorem dL_law_1849 : decode cL_law 1849 = .ok (.iload 6, 2) := by decide +kernel
theorem dL_law_1851 : decode cL_law 1851 = .ok (.if_icmp .eq 5, 3) := by decide +kernel
theorem dL_law_1854 : decode cL_law 1854 = .ok (.iconst 0, 1) := by decide +kernel
theorem dL_law_1855 : decode cL_law 1855 = .ok (.ireturn, 1) := by decide +kernel
theorem dL_law_1856 : decode cL_law 1856 = .ok (.iload 6, 2) := by decide +kernel
theorem dL_law_1858 : decode cL_law 1858 = .ok (.ifCond .ne 15, 3) := by decide +kernel
theorem dL_law_1861 : decode cL_law 1861 = .ok (.aload_n 3, 1) := by decide +kernel
theorem dL_law_1862 : decode cL_law 1862 = .ok (.iconst 0, 1) := by decide +kernel
theorem dL_law_1863 : decode cL_law 1863 = .ok (.laload, 1) := by decide +kernel
theorem dL_law_1864 : decode cL_law 1864 = .ok (.iload 7, 2) := by decide +kernel
theorem dL_law_1866 : decode cL_law 1866 = .ok (.i2l, 1) := by decide +kernel
theorem dL_law_1867 : decode cL_law 1867 = .ok (.lcmp, 1) := by decide +kernel
theorem dL_law_1868 : decode cL_law 1868 = .ok (.ifCond .eq 5, 3) := by decide +kernel
theorem dL_law_1871 : decode cL_law 1871 = .ok (.iconst 0, 1) := by decide +kernel
theorem dL_law_1872 : decode cL_law 1872 = .ok (.ireturn, 1) := by decide +kernel
theorem dL_law_1873 : decode cL_law 1873 = .ok (.goto 737, 3) := by decide +kernel
theorem dL_law_1876 : decode cL_law 1876 = .ok (.aload_n 1, 1) := by decide +kernel
theorem dL_law_1877 : decode cL_law 1877 = .ok (.aload_n 0, 1) := by decide +kernel
theorem dL_law_1878 : decode cL_law 1878 = .ok (.iload 5, 2) := by decide +kernel
theorem dL_law_1880 : decode cL_law 1880 = .ok (.iconst 1, 1) := by decide +kernel
theorem dL_law_1881 : decode cL_law 1881 = .ok (.iadd, 1) := by decide +kernel
theorem dL_law_1882 : decode cL_law 1882 = .ok (.iaload, 1) := by decide +kernel
theorem dL_law_1883 : decode cL_law 1883 = .ok (.aload_n 3, 1) := by decide +kernel
theorem dL_law_1884 : decode cL_law 1884 = .ok (.invokestatic 230, 3) := by decide +kernel
theorem dL_law_1887 : decode cL_law 1887 = .ok (.istore 6, 2) := by decide +kernel
theorem dL_law_1889 : decode cL_law 1889 = .ok (.aload_n 2, 1) := by decide +kernel
theorem dL_law_1890 : decode cL_law 1890 = .ok (.aload_n 0, 1) := by decide +kernel
theorem dL_law_1891 : decode cL_law 1891 = .ok (.iload 5, 2) := by decide +kernel
theorem dL_law_1893 : decode cL_law 1893 = .ok (.iconst 1, 1) := by decide +kernel
theorem dL_law_1894 : decode cL_law 1894 = .ok (.iadd, 1) := by decide +kernel
theorem dL_law_1895 : decode cL_law 1895 = .ok (.iaload, 1) := by decide +kernel
theorem dL_law_1896 : decode cL_law 1896 = .ok (.invokevirtual 232, 3) := by decide +kernel
theorem dL_law_1899 : decode cL_law 1899 = .ok (.istore 7, 2) := by decide +kernel
theorem dL_law_1901 : decode cL_law 1901 = .ok (.aload_n 2, 1) := by decide +kernel
theorem dL_law_1902 : decode cL_law 1902 = .ok (.invokevirtual 149, 3) := by decide +kernel
theorem dL_law_1905 : decode cL_law 1905 = .ok (.iload 6, 2) := by decide +kernel
theorem dL_law_1907 : decode cL_law 1907 = .ok (.if_icmp .eq 5, 3) := by decide +kernel
theorem dL_law_1910 : decode cL_law 1910 = .ok (.iconst 0, 1) := by decide +kernel
theorem dL_law_1911 : decode cL_law 1911 = .ok (.ireturn, 1) := by decide +kernel
theorem dL_law_1912 : decode cL_law 1912 = .ok (.iload 6, 2) := by decide +kernel
theorem dL_law_1914 : decode cL_law 1914 = .ok (.ifCond .ne 15, 3) := by decide +kernel
theorem dL_law_1917 : decode cL_law 1917 = .ok (.aload_n 3, 1) := by decide +kernel
theorem dL_law_1918 : decode cL_law 1918 = .ok (.iconst 0, 1) := by decide +kernel
theorem dL_law_1919 : decode cL_law 1919 = .ok (.laload, 1) := by decide +kernel
theorem dL_law_1920 : decode cL_law 1920 = .ok (.iload 7, 2) := by decide +kernel
theorem dL_law_1922 : decode cL_law 1922 = .ok (.i2l, 1) := by decide +kernel
theorem dL_law_1923 : decode cL_law 1923 = .ok (.lcmp, 1) := by decide +kernel
theorem dL_law_1924 : decode cL_law 1924 = .ok (.ifCond .eq 5, 3) := by decide +kernel
theorem dL_law_1927 : decode cL_law 1927 = .ok (.iconst 0, 1) := by decide +kernel
theorem dL_law_1928 : decode cL_law 1928 = .ok (.ireturn, 1) := by decide +kernel
theorem dL_law_1929 : decode cL_law 1929 = .ok (.goto 681, 3) := by decide +kernel
theorem dL_law_1932 : decode cL_law 1932 = .ok (.aload_n 1, 1) := by decide +kernel
theorem dL_law_1933 : decode cL_law 1933 = .ok (.aload_n 0, 1) := by decide +kernel
theorem dL_law_1934 : decode cL_law 1934 = .ok (.iload 5, 2) := by decide +kernel
theorem dL_law_1936 : decode cL_law 1936 = .ok (.iconst 1, 1) := by decide +kernel
theorem dL_law_1937 : decode cL_law 1937 = .ok (.iadd, 1) := by decide +kernel
theorem dL_law_1938 : decode cL_law 1938 = .ok (.iaload, 1) := by decide +kernel
theorem dL_law_1939 : decode cL_law 1939 = .ok (.aload_n 0, 1) := by decide +kernel
theorem dL_law_1940 : decode cL_law 1940 = .ok (.iload 5, 2) := by decide +kernel
theorem dL_law_1942 : decode cL_law 1942 = .ok (.iconst 2, 1) := by decide +kernel
theorem dL_law_1943 : decode cL_law 1943 = .ok (.iadd, 1) := by decide +kernel
theorem dL_law_1944 : decode cL_law 1944 = .ok (.iaload, 1) := by decide +kernel
theorem dL_law_1945 : decode cL_law 1945 = .ok (.aload_n 3, 1) := by decide +kernel
theorem dL_law_1946 : decode cL_law 1946 = .ok (.invokestatic 233, 3) := by decide +kernel
theorem dL_law_1949 : decode cL_law 1949 = .ok (.istore 6, 2) := by decide +kernel
theorem dL_law_1951 : decode cL_law 1951 = .ok (.aload_n 2, 1) := by decide +kernel
theorem dL_law_1952 : decode cL_law 1952 = .ok (.aload_n 0, 1) := by decide +kernel
theorem dL_law_1953 : decode cL_law 1953 = .ok (.iload 5, 2) := by decide +kernel
theorem dL_law_1955 : decode cL_law 1955 = .ok (.iconst 1, 1) := by decide +kernel
theorem dL_law_1956 : decode cL_law 1956 = .ok (.iadd, 1) := by decide +kernel
theorem dL_law_1957 : decode cL_law 1957 = .ok (.iaload, 1) := by decide +kernel
theorem dL_law_1958 : decode cL_law 1958 = .ok (.aload_n 0, 1) := by decide +kernel
theorem dL_law_1959 : decode cL_law 1959 = .ok (.iload 5, 2) := by decide +kernel
theorem dL_law_1961 : decode cL_law 1961 = .ok (.iconst 2, 1) := by decide +kernel
theorem dL_law_1962 : decode cL_law 1962 = .ok (.iadd, 1) := by decide +kernel
theorem dL_law_1963 : decode cL_law 1963 = .ok (.iaload, 1) := by decide +kernel
theorem dL_law_1964 : decode cL_law 1964 = .ok (.invokevirtual 235, 3) := by decide +kernel
theorem dL_law_1967 : decode cL_law 1967 = .ok (.istore 7, 2) := by decide +kernel
theorem dL_law_1969 : decode cL_law 1969 = .ok (.aload_n 2, 1) := by decide +kernel
theorem dL_law_1970 : decode cL_law 1970 = .ok (.invokevirtual 149, 3) := by decide +kernel
theorem dL_law_1973 : decode cL_law 1973 = .ok (.iload 6, 2) := by decide +kernel
theorem dL_law_1975 : decode cL_law 1975 = .ok (.if_icmp .eq 5, 3) := by decide +kernel
theorem dL_law_1978 : decode cL_law 1978 = .ok (.iconst 0, 1) := by decide +kernel
theorem dL_law_1979 : decode cL_law 1979 = .ok (.ireturn, 1) := by decide +kernel
theorem dL_law_1980 : decode cL_law 1980 = .ok (.iload 6, 2) := by decide +kernel
theorem dL_law_1982 : decode cL_law 1982 = .ok (.ifCond .ne 15, 3) := by decide +kernel
theorem dL_law_1985 : decode cL_law 1985 = .ok (.aload_n 3, 1) := by decide +kernel
theorem dL_law_1986 : decode cL_law 1986 = .ok (.iconst 0, 1) := by decide +kernel
theorem dL_law_1987 : decode cL_law 1987 = .ok (.laload, 1) := by decide +kernel
theorem dL_law_1988 : decode cL_law 1988 = .ok (.iload 7, 2) := by decide +kernel
theorem dL_law_1990 : decode cL_law 1990 = .ok (.i2l, 1) := by decide +kernel
theorem dL_law_1991 : decode cL_law 1991 = .ok (.lcmp, 1) := by decide +kernel
theorem dL_law_1992 : decode cL_law 1992 = .ok (.ifCond .eq 5, 3) := by decide +kernel
theorem dL_law_1995 : decode cL_law 1995 = .ok (.iconst 0, 1) := by decide +kernel
theorem dL_law_1996 : decode cL_law 1996 = .ok (.ireturn, 1) := by decide +kernel
theorem dL_law_1997 : decode cL_law 1997 = .ok (.goto 613, 3) := by decide +kernel
theorem dL_law_2000 : decode cL_law 2000 = .ok (.aload_n 1, 1) := by decide +kernel
theorem dL_law_2001 : decode cL_law 2001 = .ok (.aload_n 0, 1) := by decide +kernel
theorem dL_law_2002 : decode cL_law 2002 = .ok (.iload 5, 2) := by decide +kernel
theorem dL_law_2004 : decode cL_law 2004 = .ok (.iconst 1, 1) := by decide +kernel
theorem dL_law_2005 : decode cL_law 2005 = .ok (.iadd, 1) := by decide +kernel
theorem dL_law_2006 : decode cL_law 2006 = .ok (.iaload, 1) := by decide +kernel
theorem dL_law_2007 : decode cL_law 2007 = .ok (.aload_n 0, 1) := by decide +kernel
theorem dL_law_2008 : decode cL_law 2008 = .ok (.iload 5, 2) := by decide +kernel
theorem dL_law_2010 : decode cL_law 2010 = .ok (.iconst 2, 1) := by decide +kernel
theorem dL_law_2011 : decode cL_law 2011 = .ok (.iadd, 1) := by decide +kernel
theorem dL_law_2012 : decode cL_law 2012 = .ok (.iaload, 1) := by decide +kernel
theorem dL_law_2013 : decode cL_law 2013 = .ok (.aload_n 3, 1) := by decide +kernel
theorem dL_law_2014 : decode cL_law 2014 = .ok (.invokestatic 236, 3) := by decide +kernel
theorem dL_law_2017 : decode cL_law 2017 = .ok (.istore 6, 2) := by decide +kernel
theorem dL_law_2019 : decode cL_law 2019 = .ok (.aload_n 2, 1) := by decide +kernel
theorem dL_law_2020 : decode cL_law 2020 = .ok (.aload_n 0, 1) := by decide +kernel
theorem dL_law_2021 : decode cL_law 2021 = .ok (.iload 5, 2) := by decide +kernel
theorem dL_law_2023 : decode cL_law 2023 = .ok (.iconst 1, 1) := by decide +kernel
theorem dL_law_2024 : decode cL_law 2024 = .ok (.iadd, 1) := by decide +kernel
theorem dL_law_2025 : decode cL_law 2025 = .ok (.iaload, 1) := by decide +kernel
theorem dL_law_2026 : decode cL_law 2026 = .ok (.aload_n 0, 1) := by decide +kernel
theorem dL_law_2027 : decode cL_law 2027 = .ok (.iload 5, 2) := by decide +kernel
theorem dL_law_2029 : decode cL_law 2029 = .ok (.iconst 2, 1) := by decide +kernel
theorem dL_law_2030 : decode cL_law 2030 = .ok (.iadd, 1) := by decide +kernel
theorem dL_law_2031 : decode cL_law 2031 = .ok (.iaload, 1) := by decide +kernel
theorem dL_law_2032 : decode cL_law 2032 = .ok (.invokevirtual 238, 3) := by decide +kernel
theorem dL_law_2035 : decode cL_law 2035 = .ok (.istore 7, 2) := by decide +kernel
theorem dL_law_2037 : decode cL_law 2037 = .ok (.aload_n 2, 1) := by decide +kernel
theorem dL_law_2038 : decode cL_law 2038 = .ok (.invokevirtual 149, 3) := by decide +kernel
theorem dL_law_2041 : decode cL_law 2041 = .ok (.iload 6, 2) := by decide +kernel
theorem dL_law_2043 : decode cL_law 2043 = .ok (.if_icmp .eq 5, 3) := by decide +kernel
theorem dL_law_2046 : decode cL_law 2046 = .ok (.iconst 0, 1) := by decide +kernel
theorem dL_law_2047 : decode cL_law 2047 = .ok (.ireturn, 1) := by decide +kernel
theorem dL_law_2048 : decode cL_law 2048 = .ok (.iload 6, 2) := by decide +kernel
theorem dL_law_2050 : decode cL_law 2050 = .ok (.ifCond .ne 15, 3) := by decide +kernel
theorem dL_law_2053 : decode cL_law 2053 = .ok (.aload_n 3, 1) := by decide +kernel
theorem dL_law_2054 : decode cL_law 2054 = .ok (.iconst 0, 1) := by decide +kernel
theorem dL_law_2055 : decode cL_law 2055 = .ok (.laload, 1) := by decide +kernel
theorem dL_law_2056 : decode cL_law 2056 = .ok (.iload 7, 2) := by decide +kernel
theorem dL_law_2058 : decode cL_law 2058 = .ok (.i2l, 1) := by decide +kernel
theorem dL_law_2059 : decode cL_law 2059 = .ok (.lcmp, 1) := by decide +kernel
theorem dL_law_2060 : decode cL_law 2060 = .ok (.ifCond .eq 5, 3) := by decide +kernel
theorem dL_law_2063 : decode cL_law 2063 = .ok (.iconst 0, 1) := by decide +kernel
theorem dL_law_2064 : decode cL_law 2064 = .ok (.ireturn, 1) := by decide +kernel
theorem dL_law_2065 : decode cL_law 2065 = .ok (.goto 545, 3) := by decide +kernel
theorem dL_law_2068 : decode cL_law 2068 = .ok (.aload_n 1, 1) := by decide +kernel
theorem dL_law_2069 : decode cL_law 2069 = .ok (.aload_n 0, 1) := by decide +kernel
theorem dL_law_2070 : decode cL_law 2070 = .ok (.iload 5, 2) := by decide +kernel
theorem dL_law_2072 : decode cL_law 2072 = .ok (.iconst 1, 1) := by decide +kernel
theorem dL_law_2073 : decode cL_law 2073 = .ok (.iadd, 1) := by decide +kernel
theorem dL_law_2074 : decode cL_law 2074 = .ok (.iaload, 1) := by decide +kernel
theorem dL_law_2075 : decode cL_law 2075 = .ok (.aload_n 0, 1) := by decide +kernel
theorem dL_law_2076 : decode cL_law 2076 = .ok (.iload 5, 2) := by decide +kernel
theorem dL_law_2078 : decode cL_law 2078 = .ok (.iconst 2, 1) := by decide +kernel
theorem dL_law_2079 : decode cL_law 2079 = .ok (.iadd, 1) := by decide +kernel
theorem dL_law_2080 : decode cL_law 2080 = .ok (.iaload, 1) := by decide +kernel
theorem dL_law_2081 : decode cL_law 2081 = .ok (.aload_n 0, 1) := by decide +kernel
theorem dL_law_2082 : decode cL_law 2082 = .ok (.iload 5, 2) := by decide +kernel
theorem dL_law_2084 : decode cL_law 2084 = .ok (.iconst 3, 1) := by decide +kernel
theorem dL_law_2085 : decode cL_law 2085 = .ok (.iadd, 1) := by decide +kernel
theorem dL_law_2086 : decode cL_law 2086 = .ok (.iaload, 1) := by decide +kernel
theorem dL_law_2087 : decode cL_law 2087 = .ok (.aload_n 3, 1) := by decide +kernel
theorem dL_law_2088 : decode cL_law 2088 = .ok (.invokestatic 239, 3) := by decide +kernel
theorem dL_law_2091 : decode cL_law 2091 = .ok (.istore 6, 2) := by decide +kernel
theorem dL_law_2093 : decode cL_law 2093 = .ok (.aload_n 2, 1) := by decide +kernel
theorem dL_law_2094 : decode cL_law 2094 = .ok (.aload_n 0, 1) := by decide +kernel
theorem dL_law_2095 : decode cL_law 2095 = .ok (.iload 5, 2) := by decide +kernel
theorem dL_law_2097 : decode cL_law 2097 = .ok (.iconst 1, 1) := by decide +kernel
theorem dL_law_2098 : decode cL_law 2098 = .ok (.iadd, 1) := by decide +kernel
theorem dL_law_2099 : decode cL_law 2099 = .ok (.iaload, 1) := by decide +kernel
theorem dL_law_2100 : decode cL_law 2100 = .ok (.aload_n 0, 1) := by decide +kernel
theorem dL_law_2101 : decode cL_law 2101 = .ok (.iload 5, 2) := by decide +kernel
theorem dL_law_2103 : decode cL_law 2103 = .ok (.iconst 2, 1) := by decide +kernel
theorem dL_law_2104 : decode cL_law 2104 = .ok (.iadd, 1) := by decide +kernel
theorem dL_law_2105 : decode cL_law 2105 = .ok (.iaload, 1) := by decide +kernel
theorem dL_law_2106 : decode cL_law 2106 = .ok (.aload_n 0, 1) := by decide +kernel
theorem dL_law_2107 : decode cL_law 2107 = .ok (.iload 5, 2) := by decide +kernel
theorem dL_law_2109 : decode cL_law 2109 = .ok (.iconst 3, 1) := by decide +kernel
theorem dL_law_2110 : decode cL_law 2110 = .ok (.iadd, 1) := by decide +kernel
theorem dL_law_2111 : decode cL_law 2111 = .ok (.iaload, 1) := by decide +kernel
theorem dL_law_2112 : decode cL_law 2112 = .ok (.invokevirtual 241, 3) := by decide +kernel
theorem dL_law_2115 : decode cL_law 2115 = .ok (.istore 7, 2) := by decide +kernel
theorem dL_law_2117 : decode cL_law 2117 = .ok (.aload_n 2, 1) := by decide +kernel
theorem dL_law_2118 : decode cL_law 2118 = .ok (.invokevirtual 149, 3) := by decide +kernel
theorem dL_law_2121 : decode cL_law 2121 = .ok (.iload 6, 2) := by decide +kernel
theorem dL_law_2123 : decode cL_law 2123 = .ok (.if_icmp .eq 5, 3) := by decide +kernel
theorem dL_law_2126 : decode cL_law 2126 = .ok (.iconst 0, 1) := by decide +kernel
theorem dL_law_2127 : decode cL_law 2127 = .ok (.ireturn, 1) := by decide +kernel
theorem dL_law_2128 : decode cL_law 2128 = .ok (.iload 6, 2) := by decide +kernel
theorem dL_law_2130 : decode cL_law 2130 = .ok (.ifCond .ne 15, 3) := by decide +kernel
theorem dL_law_2133 : decode cL_law 2133 = .ok (.aload_n 3, 1) := by decide +kernel
theorem dL_law_2134 : decode cL_law 2134 = .ok (.iconst 0, 1) := by decide +kernel
theorem dL_law_2135 : decode cL_law 2135 = .ok (.laload, 1) := by decide +kernel
theorem dL_law_2136 : decode cL_law 2136 = .ok (.iload 7, 2) := by decide +kernel
theorem dL_law_2138 : decode cL_law 2138 = .ok (.i2l, 1) := by decide +kernel
theorem dL_law_2139 : decode cL_law 2139 = .ok (.lcmp, 1) := by decide +kernel
theorem dL_law_2140 : decode cL_law 2140 = .ok (.ifCond .eq 5, 3) := by decide +kernel
theorem dL_law_2143 : decode cL_law 2143 = .ok (.iconst 0, 1) := by decide +kernel
theorem dL_law_2144 : decode cL_law 2144 = .ok (.ireturn, 1) := by decide +kernel
theorem dL_law_2145 : decode cL_law 2145 = .ok (.goto 465, 3) := by decide +kernel
theorem dL_law_2148 : decode cL_law 2148 = .ok (.aload_n 1, 1) := by decide +kernel
theorem dL_law_2149 : decode cL_law 2149 = .ok (.aload_n 0, 1) := by decide +kernel
theorem dL_law_2150 : decode cL_law 2150 = .ok (.iload 5, 2) := by decide +kernel
theorem dL_law_2152 : decode cL_law 2152 = .ok (.iconst 1, 1) := by decide +kernel
theorem dL_law_2153 : decode cL_law 2153 = .ok (.iadd, 1) := by decide +kernel
theorem dL_law_2154 : decode cL_law 2154 = .ok (.iaload, 1) := by decide +kernel
theorem dL_law_2155 : decode cL_law 2155 = .ok (.aload_n 3, 1) := by decide +kernel
theorem dL_law_2156 : decode cL_law 2156 = .ok (.invokestatic 242, 3) := by decide +kernel
theorem dL_law_2159 : decode cL_law 2159 = .ok (.istore 6, 2) := by decide +kernel
theorem dL_law_2161 : decode cL_law 2161 = .ok (.aload_n 2, 1) := by decide +kernel
theorem dL_law_2162 : decode cL_law 2162 = .ok (.aload_n 0, 1) := by decide +kernel
theorem dL_law_2163 : decode cL_law 2163 = .ok (.iload 5, 2) := by decide +kernel
theorem dL_law_2165 : decode cL_law 2165 = .ok (.iconst 1, 1) := by decide +kernel
theorem dL_law_2166 : decode cL_law 2166 = .ok (.iadd, 1) := by decide +kernel
theorem dL_law_2167 : decode cL_law 2167 = .ok (.iaload, 1) := by decide +kernel
theorem dL_law_2168 : decode cL_law 2168 = .ok (.invokevirtual 244, 3) := by decide +kernel
theorem dL_law_2171 : decode cL_law 2171 = .ok (.istore 7, 2) := by decide +kernel
theorem dL_law_2173 : decode cL_law 2173 = .ok (.aload_n 2, 1) := by decide +kernel
theorem dL_law_2174 : decode cL_law 2174 = .ok (.invokevirtual 149, 3) := by decide +kernel
theorem dL_law_2177 : decode cL_law 2177 = .ok (.iload 6, 2) := by decide +kernel
theorem dL_law_2179 : decode cL_law 2179 = .ok (.if_icmp .eq 5, 3) := by decide +kernel
theorem dL_law_2182 : decode cL_law 2182 = .ok (.iconst 0, 1) := by decide +kernel
theorem dL_law_2183 : decode cL_law 2183 = .ok (.ireturn, 1) := by decide +kernel
theorem dL_law_2184 : decode cL_law 2184 = .ok (.iload 6, 2) := by decide +kernel
theorem dL_law_2186 : decode cL_law 2186 = .ok (.ifCond .ne 15, 3) := by decide +kernel
theorem dL_law_2189 : decode cL_law 2189 = .ok (.aload_n 3, 1) := by decide +kernel
theorem dL_law_2190 : decode cL_law 2190 = .ok (.iconst 0, 1) := by decide +kernel
theorem dL_law_2191 : decode cL_law 2191 = .ok (.laload, 1) := by decide +kernel
theorem dL_law_2192 : decode cL_law 2192 = .ok (.iload 7, 2) := by decide +kernel
theorem dL_law_2194 : decode cL_law 2194 = .ok (.i2l, 1) := by decide +kernel
theorem dL_law_2195 : decode cL_law 2195 = .ok (.lcmp, 1) := by decide +kernel
theorem dL_law_2196 : decode cL_law 2196 = .ok (.ifCond .eq 5, 3) := by decide +kernel
theorem dL_law_2199 : decode cL_law 2199 = .ok (.iconst 0, 1) := by decide +kernel
theorem dL_law_2200 : decode cL_law 2200 = .ok (.ireturn, 1) := by decide +kernel
theorem dL_law_2201 : decode cL_law 2201 = .ok (.goto 409, 3) := by decide +kernel
theorem dL_law_2204 : decode cL_law 2204 = .ok (.aload_n 1, 1) := by decide +kernel
theorem dL_law_2205 : decode cL_law 2205 = .ok (.aload_n 0, 1) := by decide +kernel
theorem dL_law_2206 : decode cL_law 2206 = .ok (.iload 5, 2) := by decide +kernel
theorem dL_law_2208 : decode cL_law 2208 = .ok (.iconst 1, 1) := by decide +kernel
theorem dL_law_2209 : decode cL_law 2209 = .ok (.iadd, 1) := by decide +kernel
theorem dL_law_2210 : decode cL_law 2210 = .ok (.iaload, 1) := by decide +kernel
theorem dL_law_2211 : decode cL_law 2211 = .ok (.aload_n 3, 1) := by decide +kernel
theorem dL_law_2212 : decode cL_law 2212 = .ok (.invokestatic 245, 3) := by decide +kernel
theorem dL_law_2215 : decode cL_law 2215 = .ok (.istore 6, 2) := by decide +kernel
theorem dL_law_2217 : decode cL_law 2217 = .ok (.aload_n 2, 1) := by decide +kernel
theorem dL_law_2218 : decode cL_law 2218 = .ok (.aload_n 0, 1) := by decide +kernel
theorem dL_law_2219 : decode cL_law 2219 = .ok (.iload 5, 2) := by decide +kernel
theorem dL_law_2221 : decode cL_law 2221 = .ok (.iconst 1, 1) := by decide +kernel
theorem dL_law_2222 : decode cL_law 2222 = .ok (.iadd, 1) := by decide +kernel
theorem dL_law_2223 : decode cL_law 2223 = .ok (.iaload, 1) := by decide +kernel
theorem dL_law_2224 : decode cL_law 2224 = .ok (.invokevirtual 247, 3) := by decide +kernel
theorem dL_law_2227 : decode cL_law 2227 = .ok (.istore 7, 2) := by decide +kernel
theorem dL_law_2229 : decode cL_law 2229 = .ok (.aload_n 2, 1) := by decide +kernel
theorem dL_law_2230 : decode cL_law 2230 = .ok (.invokevirtual 149, 3) := by decide +kernel
theorem dL_law_2233 : decode cL_law 2233 = .ok (.iload 6, 2) := by decide +kernel
theorem dL_law_2235 : decode cL_law 2235 = .ok (.if_icmp .eq 5, 3) := by decide +kernel
theorem dL_law_2238 : decode cL_law 2238 = .ok (.iconst 0, 1) := by decide +kernel
theorem dL_law_2239 : decode cL_law 2239 = .ok (.ireturn, 1) := by decide +kernel
theorem dL_law_2240 : decode cL_law 2240 = .ok (.iload 6, 2) := by decide +kernel
theorem dL_law_2242 : decode cL_law 2242 = .ok (.ifCond .ne 15, 3) := by decide +kernel
theorem dL_law_2245 : decode cL_law 2245 = .ok (.aload_n 3, 1) := by decide +kernel
theorem dL_law_2246 : decode cL_law 2246 = .ok (.iconst 0, 1) := by decide +kernel
theorem dL_law_2247 : decode cL_law 2247 = .ok (.laload, 1) := by decide +kernel
theorem dL_law_2248 : decode cL_law 2248 = .ok (.iload 7, 2) := by decide +kernel
theorem dL_law_2250 : decode cL_law 2250 = .ok (.i2l, 1) := by decide +kernel
theorem dL_law_2251 : decode cL_law 2251 = .ok (.lcmp, 1) := by decide +kernel
theorem dL_law_2252 : decode cL_law 2252 = .ok (.ifCond .eq 5, 3) := by decide +kernel
theorem dL_law_2255 : decode cL_law 2255 = .ok (.iconst 0, 1) := by decide +kernel
theorem dL_law_2256 : decode cL_law 2256 = .ok (.ireturn, 1) := by decide +kernel
theorem dL_law_2257 : decode cL_law 2257 = .ok (.goto 353, 3) := by decide +kernel
theorem dL_law_2260 : decode cL_law 2260 = .ok (.aload_n 1, 1) := by decide +kernel
theorem dL_law_2261 : decode cL_law 2261 = .ok (.aload_n 0, 1) := by decide +kernel
theorem dL_law_2262 : decode cL_law 2262 = .ok (.iload 5, 2) := by decide +kernel
theorem dL_law_2264 : decode cL_law 2264 = .ok (.iconst 1, 1) := by decide +kernel
theorem dL_law_2265 : decode cL_law 2265 = .ok (.iadd, 1) := by decide +kernel
theorem dL_law_2266 : decode cL_law 2266 = .ok (.iaload, 1) := by decide +kernel
theorem dL_law_2267 : decode cL_law 2267 = .ok (.aload_n 3, 1) := by decide +kernel
theorem dL_law_2268 : decode cL_law 2268 = .ok (.invokestatic 248, 3) := by decide +kernel
theorem dL_law_2271 : decode cL_law 2271 = .ok (.istore 6, 2) := by decide +kernel
theorem dL_law_2273 : decode cL_law 2273 = .ok (.aload_n 2, 1) := by decide +kernel
theorem dL_law_2274 : decode cL_law 2274 = .ok (.aload_n 0, 1) := by decide +kernel
theorem dL_law_2275 : decode cL_law 2275 = .ok (.iload 5, 2) := by decide +kernel
theorem dL_law_2277 : decode cL_law 2277 = .ok (.iconst 1, 1) := by decide +kernel
theorem dL_law_2278 : decode cL_law 2278 = .ok (.iadd, 1) := by decide +kernel
theorem dL_law_2279 : decode cL_law 2279 = .ok (.iaload, 1) := by decide +kernel
theorem dL_law_2280 : decode cL_law 2280 = .ok (.invokevirtual 250, 3) := by decide +kernel
theorem dL_law_2283 : decode cL_law 2283 = .ok (.istore 7, 2) := by decide +kernel
theorem dL_law_2285 : decode cL_law 2285 = .ok (.aload_n 2, 1) := by decide +kernel
theorem dL_law_2286 : decode cL_law 2286 = .ok (.invokevirtual 149, 3) := by decide +kernel
theorem dL_law_2289 : decode cL_law 2289 = .ok (.iload 6, 2) := by decide +kernel
theorem dL_law_2291 : decode cL_law 2291 = .ok (.if_icmp .eq 5, 3) := by decide +kernel
theorem dL_law_2294 : decode cL_law 2294 = .ok (.iconst 0, 1) := by decide +kernel
theorem dL_law_2295 : decode cL_law 2295 = .ok (.ireturn, 1) := by decide +kernel
theorem dL_law_2296 : decode cL_law 2296 = .ok (.iload 6, 2) := by decide +kernel
theorem dL_law_2298 : decode cL_law 2298 = .ok (.ifCond .ne 15, 3) := by decide +kernel
theorem dL_law_2301 : decode cL_law 2301 = .ok (.aload_n 3, 1) := by decide +kernel
theorem dL_law_2302 : decode cL_law 2302 = .ok (.iconst 0, 1) := by decide +kernel
theorem dL_law_2303 : decode cL_law 2303 = .ok (.laload, 1) := by decide +kernel
theorem dL_law_2304 : decode cL_law 2304 = .ok (.iload 7, 2) := by decide +kernel
theorem dL_law_2306 : decode cL_law 2306 = .ok (.i2l, 1) := by decide +kernel
theorem dL_law_2307 : decode cL_law 2307 = .ok (.lcmp, 1) := by decide +kernel
theorem dL_law_2308 : decode cL_law 2308 = .ok (.ifCond .eq 5, 3) := by decide +kernel
theorem dL_law_2311 : decode cL_law 2311 = .ok (.iconst 0, 1) := by decide +kernel
theorem dL_law_2312 : decode cL_law 2312 = .ok (.ireturn, 1) := by decide +kernel
theorem dL_law_2313 : decode cL_law 2313 = .ok (.goto 297, 3) := by decide +kernel
theorem dL_law_2316 : decode cL_law 2316 = .ok (.aload_n 1, 1) := by decide +kernel
theorem dL_law_2317 : decode cL_law 2317 = .ok (.aload_n 0, 1) := by decide +kernel
theorem dL_law_2318 : decode cL_law 2318 = .ok (.iload 5, 2) := by decide +kernel
theorem dL_law_2320 : decode cL_law 2320 = .ok (.iconst 1, 1) := by decide +kernel
theorem dL_law_2321 : decode cL_law 2321 = .ok (.iadd, 1) := by decide +kernel
theorem dL_law_2322 : decode cL_law 2322 = .ok (.iaload, 1) := by decide +kernel
theorem dL_law_2323 : decode cL_law 2323 = .ok (.aload_n 3, 1) := by decide +kernel
theorem dL_law_2324 : decode cL_law 2324 = .ok (.invokestatic 251, 3) := by decide +kernel
theorem dL_law_2327 : decode cL_law 2327 = .ok (.istore 6, 2) := by decide +kernel
theorem dL_law_2329 : decode cL_law 2329 = .ok (.aload_n 2, 1) := by decide +kernel
theorem dL_law_2330 : decode cL_law 2330 = .ok (.aload_n 0, 1) := by decide +kernel
theorem dL_law_2331 : decode cL_law 2331 = .ok (.iload 5, 2) := by decide +kernel
theorem dL_law_2333 : decode cL_law 2333 = .ok (.iconst 1, 1) := by decide +kernel
theorem dL_law_2334 : decode cL_law 2334 = .ok (.iadd, 1) := by decide +kernel
theorem dL_law_2335 : decode cL_law 2335 = .ok (.iaload, 1) := by decide +kernel
theorem dL_law_2336 : decode cL_law 2336 = .ok (.invokevirtual 253, 3) := by decide +kernel
theorem dL_law_2339 : decode cL_law 2339 = .ok (.istore 7, 2) := by decide +kernel
theorem dL_law_2341 : decode cL_law 2341 = .ok (.aload_n 2, 1) := by decide +kernel
theorem dL_law_2342 : decode cL_law 2342 = .ok (.invokevirtual 149, 3) := by decide +kernel
theorem dL_law_2345 : decode cL_law 2345 = .ok (.iload 6, 2) := by decide +kernel
theorem dL_law_2347 : decode cL_law 2347 = .ok (.if_icmp .eq 5, 3) := by decide +kernel
theorem dL_law_2350 : decode cL_law 2350 = .ok (.iconst 0, 1) := by decide +kernel
theorem dL_law_2351 : decode cL_law 2351 = .ok (.ireturn, 1) := by decide +kernel
theorem dL_law_2352 : decode cL_law 2352 = .ok (.iload 6, 2) := by decide +kernel
theorem dL_law_2354 : decode cL_law 2354 = .ok (.ifCond .ne 15, 3) := by decide +kernel
theorem dL_law_2357 : decode cL_law 2357 = .ok (.aload_n 3, 1) := by decide +kernel
theorem dL_law_2358 : decode cL_law 2358 = .ok (.iconst 0, 1) := by decide +kernel
theorem dL_law_2359 : decode cL_law 2359 = .ok (.laload, 1) := by decide +kernel
theorem dL_law_2360 : decode cL_law 2360 = .ok (.iload 7, 2) := by decide +kernel
theorem dL_law_2362 : decode cL_law 2362 = .ok (.i2l, 1) := by decide +kernel
theorem dL_law_2363 : decode cL_law 2363 = .ok (.lcmp, 1) := by decide +kernel
theorem dL_law_2364 : decode cL_law 2364 = .ok (.ifCond .eq 5, 3) := by decide +kernel
theorem dL_law_2367 : decode cL_law 2367 = .ok (.iconst 0, 1) := by decide +kernel
theorem dL_law_2368 : decode cL_law 2368 = .ok (.ireturn, 1) := by decide +kernel
theorem dL_law_2369 : decode cL_law 2369 = .ok (.goto 241, 3) := by decide +kernel
theorem dL_law_2372 : decode cL_law 2372 = .ok (.aload_n 1, 1) := by decide +kernel
theorem dL_law_2373 : decode cL_law 2373 = .ok (.aload_n 0, 1) := by decide +kernel
theorem dL_law_2374 : decode cL_law 2374 = .ok (.iload 5, 2) := by decide +kernel
theorem dL_law_2376 : decode cL_law 2376 = .ok (.iconst 1, 1) := by decide +kernel
theorem dL_law_2377 : decode cL_law 2377 = .ok (.iadd, 1) := by decide +kernel
theorem dL_law_2378 : decode cL_law 2378 = .ok (.iaload, 1) := by decide +kernel
theorem dL_law_2379 : decode cL_law 2379 = .ok (.aload_n 3, 1) := by decide +kernel
theorem dL_law_2380 : decode cL_law 2380 = .ok (.invokestatic 254, 3) := by decide +kernel
theorem dL_law_2383 : decode cL_law 2383 = .ok (.istore 6, 2) := by decide +kernel
theorem dL_law_2385 : decode cL_law 2385 = .ok (.aload_n 2, 1) := by decide +kernel
theorem dL_law_2386 : decode cL_law 2386 = .ok (.aload_n 0, 1) := by decide +kernel
theorem dL_law_2387 : decode cL_law 2387 = .ok (.iload 5, 2) := by decide +kernel
theorem dL_law_2389 : decode cL_law 2389 = .ok (.iconst 1, 1) := by decide +kernel
theorem dL_law_2390 : decode cL_law 2390 = .ok (.iadd, 1) := by decide +kernel
theorem dL_law_2391 : decode cL_law 2391 = .ok (.iaload, 1) := by decide +kernel
theorem dL_law_2392 : decode cL_law 2392 = .ok (.invokevirtual 256, 3) := by decide +kernel
theorem dL_law_2395 : decode cL_law 2395 = .ok (.istore 7, 2) := by decide +kernel
theorem dL_law_2397 : decode cL_law 2397 = .ok (.aload_n 2, 1) := by decide +kernel
theorem dL_law_2398 : decode cL_law 2398 = .ok (.invokevirtual 149, 3) := by decide +kernel
theorem dL_law_2401 : decode cL_law 2401 = .ok (.iload 6, 2) := by decide +kernel
theorem dL_law_2403 : decode cL_law 2403 = .ok (.if_icmp .eq 5, 3) := by decide +kernel
theorem dL_law_2406 : decode cL_law 2406 = .ok (.iconst 0, 1) := by decide +kernel
theorem dL_law_2407 : decode cL_law 2407 = .ok (.ireturn, 1) := by decide +kernel
theorem dL_law_2408 : decode cL_law 2408 = .ok (.iload 6, 2) := by decide +kernel
theorem dL_law_2410 : decode cL_law 2410 = .ok (.ifCond .ne 15, 3) := by decide +kernel
theorem dL_law_2413 : decode cL_law 2413 = .ok (.aload_n 3, 1) := by decide +kernel
theorem dL_law_2414 : decode cL_law 2414 = .ok (.iconst 0, 1) := by decide +kernel
theorem dL_law_2415 : decode cL_law 2415 = .ok (.laload, 1) := by decide +kernel
theorem dL_law_2416 : decode cL_law 2416 = .ok (.iload 7, 2) := by decide +kernel
theorem dL_law_2418 : decode cL_law 2418 = .ok (.i2l, 1) := by decide +kernel
theorem dL_law_2419 : decode cL_law 2419 = .ok (.lcmp, 1) := by decide +kernel
theorem dL_law_2420 : decode cL_law 2420 = .ok (.ifCond .eq 5, 3) := by decide +kernel
theorem dL_law_2423 : decode cL_law 2423 = .ok (.iconst 0, 1) := by decide +kernel
theorem dL_law_2424 : decode cL_law 2424 = .ok (.ireturn, 1) := by decide +kernel
theorem dL_law_2425 : decode cL_law 2425 = .ok (.goto 185, 3) := by decide +kernel
theorem dL_law_2428 : decode cL_law 2428 = .ok (.aload_n 1, 1) := by decide +kernel
theorem dL_law_2429 : decode cL_law 2429 = .ok (.invokevirtual 257, 3) := by decide +kernel
theorem dL_law_2432 : decode cL_law 2432 = .ok (.aload_n 2, 1) := by decide +kernel
theorem dL_law_2433 : decode cL_law 2433 = .ok (.invokevirtual 261, 3) := by decide +kernel
theorem dL_law_2436 : decode cL_law 2436 = .ok (.lcmp, 1) := by decide +kernel
theorem dL_law_2437 : decode cL_law 2437 = .ok (.ifCond .eq 173, 3) := by decide +kernel
theorem dL_law_2440 : decode cL_law 2440 = .ok (.iconst 0, 1) := by decide +kernel
theorem dL_law_2441 : decode cL_law 2441 = .ok (.ireturn, 1) := by decide +kernel
theorem dL_law_2442 : decode cL_law 2442 = .ok (.aload_n 1, 1) := by decide +kernel
theorem dL_law_2443 : decode cL_law 2443 = .ok (.aload_n 0, 1) := by decide +kernel
theorem dL_law_2444 : decode cL_law 2444 = .ok (.iload 5, 2) := by decide +kernel
theorem dL_law_2446 : decode cL_law 2446 = .ok (.iconst 1, 1) := by decide +kernel
theorem dL_law_2447 : decode cL_law 2447 = .ok (.iadd, 1) := by decide +kernel
theorem dL_law_2448 : decode cL_law 2448 = .ok (.iaload, 1) := by decide +kernel
theorem dL_law_2449 : decode cL_law 2449 = .ok (.aload 4, 2) := by decide +kernel
theorem dL_law_2451 : decode cL_law 2451 = .ok (.invokestatic 262, 3) := by decide +kernel
theorem dL_law_2454 : decode cL_law 2454 = .ok (.istore 6, 2) := by decide +kernel
theorem dL_law_2456 : decode cL_law 2456 = .ok (.aload_n 2, 1) := by decide +kernel
theorem dL_law_2457 : decode cL_law 2457 = .ok (.aload_n 0, 1) := by decide +kernel
theorem dL_law_2458 : decode cL_law 2458 = .ok (.iload 5, 2) := by decide +kernel
theorem dL_law_2460 : decode cL_law 2460 = .ok (.iconst 1, 1) := by decide +kernel
theorem dL_law_2461 : decode cL_law 2461 = .ok (.iadd, 1) := by decide +kernel
theorem dL_law_2462 : decode cL_law 2462 = .ok (.iaload, 1) := by decide +kernel
theorem dL_law_2463 : decode cL_law 2463 = .ok (.invokevirtual 265, 3) := by decide +kernel
theorem dL_law_2466 : decode cL_law 2466 = .ok (.dstore 7, 2) := by decide +kernel
theorem dL_law_2468 : decode cL_law 2468 = .ok (.aload_n 2, 1) := by decide +kernel
theorem dL_law_2469 : decode cL_law 2469 = .ok (.invokevirtual 149, 3) := by decide +kernel
theorem dL_law_2472 : decode cL_law 2472 = .ok (.iload 6, 2) := by decide +kernel
theorem dL_law_2474 : decode cL_law 2474 = .ok (.if_icmp .eq 5, 3) := by decide +kernel
theorem dL_law_2477 : decode cL_law 2477 = .ok (.iconst 0, 1) := by decide +kernel
theorem dL_law_2478 : decode cL_law 2478 = .ok (.ireturn, 1) := by decide +kernel
theorem dL_law_2479 : decode cL_law 2479 = .ok (.iload 6, 2) := by decide +kernel
theorem dL_law_2481 : decode cL_law 2481 = .ok (.ifCond .ne 35, 3) := by decide +kernel
theorem dL_law_2484 : decode cL_law 2484 = .ok (.aload 4, 2) := by decide +kernel
theorem dL_law_2486 : decode cL_law 2486 = .ok (.iconst 0, 1) := by decide +kernel
theorem dL_law_2487 : decode cL_law 2487 = .ok (.daload, 1) := by decide +kernel
theorem dL_law_2488 : decode cL_law 2488 = .ok (.dload 7, 2) := by decide +kernel
theorem dL_law_2490 : decode cL_law 2490 = .ok (.dcmp .l, 1) := by decide +kernel
theorem dL_law_2491 : decode cL_law 2491 = .ok (.ifCond .eq 25, 3) := by decide +kernel
theorem dL_law_2494 : decode cL_law 2494 = .ok (.aload 4, 2) := by decide +kernel
theorem dL_law_2496 : decode cL_law 2496 = .ok (.iconst 0, 1) := by decide +kernel
theorem dL_law_2497 : decode cL_law 2497 = .ok (.daload, 1) := by decide +kernel
theorem dL_law_2498 : decode cL_law 2498 = .ok (.aload 4, 2) := by decide +kernel
theorem dL_law_2500 : decode cL_law 2500 = .ok (.iconst 0, 1) := by decide +kernel
theorem dL_law_2501 : decode cL_law 2501 = .ok (.daload, 1) := by decide +kernel
theorem dL_law_2502 : decode cL_law 2502 = .ok (.dcmp .l, 1) := by decide +kernel
theorem dL_law_2503 : decode cL_law 2503 = .ok (.ifCond .eq 11, 3) := by decide +kernel
theorem dL_law_2506 : decode cL_law 2506 = .ok (.dload 7, 2) := by decide +kernel
theorem dL_law_2508 : decode cL_law 2508 = .ok (.dload 7, 2) := by decide +kernel
theorem dL_law_2510 : decode cL_law 2510 = .ok (.dcmp .l, 1) := by decide +kernel
theorem dL_law_2511 : decode cL_law 2511 = .ok (.ifCond .ne 5, 3) := by decide +kernel
theorem dL_law_2514 : decode cL_law 2514 = .ok (.iconst 0, 1) := by decide +kernel
theorem dL_law_2515 : decode cL_law 2515 = .ok (.ireturn, 1) := by decide +kernel
theorem dL_law_2516 : decode cL_law 2516 = .ok (.goto 94, 3) := by decide +kernel
theorem dL_law_2519 : decode cL_law 2519 = .ok (.aload_n 1, 1) := by decide +kernel
theorem dL_law_2520 : decode cL_law 2520 = .ok (.aload_n 0, 1) := by decide +kernel
theorem dL_law_2521 : decode cL_law 2521 = .ok (.iload 5, 2) := by decide +kernel
theorem dL_law_2523 : decode cL_law 2523 = .ok (.iconst 1, 1) := by decide +kernel
theorem dL_law_2524 : decode cL_law 2524 = .ok (.iadd, 1) := by decide +kernel
theorem dL_law_2525 : decode cL_law 2525 = .ok (.iaload, 1) := by decide +kernel
theorem dL_law_2526 : decode cL_law 2526 = .ok (.aload 4, 2) := by decide +kernel
theorem dL_law_2528 : decode cL_law 2528 = .ok (.invokestatic 266, 3) := by decide +kernel
theorem dL_law_2531 : decode cL_law 2531 = .ok (.istore 6, 2) := by decide +kernel
theorem dL_law_2533 : decode cL_law 2533 = .ok (.aload_n 2, 1) := by decide +kernel
theorem dL_law_2534 : decode cL_law 2534 = .ok (.aload_n 0, 1) := by decide +kernel
theorem dL_law_2535 : decode cL_law 2535 = .ok (.iload 5, 2) := by decide +kernel
theorem dL_law_2537 : decode cL_law 2537 = .ok (.iconst 1, 1) := by decide +kernel
theorem dL_law_2538 : decode cL_law 2538 = .ok (.iadd, 1) := by decide +kernel
theorem dL_law_2539 : decode cL_law 2539 = .ok (.iaload, 1) := by decide +kernel
theorem dL_law_2540 : decode cL_law 2540 = .ok (.invokevirtual 268, 3) := by decide +kernel
theorem dL_law_2543 : decode cL_law 2543 = .ok (.fstore 7, 2) := by decide +kernel
theorem dL_law_2545 : decode cL_law 2545 = .ok (.aload_n 2, 1) := by decide +kernel
theorem dL_law_2546 : decode cL_law 2546 = .ok (.invokevirtual 149, 3) := by decide +kernel
theorem dL_law_2549 : decode cL_law 2549 = .ok (.iload 6, 2) := by decide +kernel
theorem dL_law_2551 : decode cL_law 2551 = .ok (.if_icmp .eq 5, 3) := by decide +kernel
theorem dL_law_2554 : decode cL_law 2554 = .ok (.iconst 0, 1) := by decide +kernel
theorem dL_law_2555 : decode cL_law 2555 = .ok (.ireturn, 1) := by decide +kernel
theorem dL_law_2556 : decode cL_law 2556 = .ok (.iload 6, 2) := by decide +kernel
theorem dL_law_2558 : decode cL_law 2558 = .ok (.ifCond .ne 36, 3) := by decide +kernel
theorem dL_law_2561 : decode cL_law 2561 = .ok (.aload 4, 2) := by decide +kernel
theorem dL_law_2563 : decode cL_law 2563 = .ok (.iconst 0, 1) := by decide +kernel
theorem dL_law_2564 : decode cL_law 2564 = .ok (.daload, 1) := by decide +kernel
theorem dL_law_2565 : decode cL_law 2565 = .ok (.fload 7, 2) := by decide +kernel
theorem dL_law_2567 : decode cL_law 2567 = .ok (.f2d, 1) := by decide +kernel
theorem dL_law_2568 : decode cL_law 2568 = .ok (.dcmp .l, 1) := by decide +kernel
theorem dL_law_2569 : decode cL_law 2569 = .ok (.ifCond .eq 25, 3) := by decide +kernel
theorem dL_law_2572 : decode cL_law 2572 = .ok (.aload 4, 2) := by decide +kernel
theorem dL_law_2574 : decode cL_law 2574 = .ok (.iconst 0, 1) := by decide +kernel
theorem dL_law_2575 : decode cL_law 2575 = .ok (.daload, 1) := by decide +kernel
theorem dL_law_2576 : decode cL_law 2576 = .ok (.aload 4, 2) := by decide +kernel
theorem dL_law_2578 : decode cL_law 2578 = .ok (.iconst 0, 1) := by decide +kernel
theorem dL_law_2579 : decode cL_law 2579 = .ok (.daload, 1) := by decide +kernel
theorem dL_law_2580 : decode cL_law 2580 = .ok (.dcmp .l, 1) := by decide +kernel
theorem dL_law_2581 : decode cL_law 2581 = .ok (.ifCond .eq 11, 3) := by decide +kernel
theorem dL_law_2584 : decode cL_law 2584 = .ok (.fload 7, 2) := by decide +kernel
theorem dL_law_2586 : decode cL_law 2586 = .ok (.fload 7, 2) := by decide +kernel
theorem dL_law_2588 : decode cL_law 2588 = .ok (.fcmp .l, 1) := by decide +kernel
theorem dL_law_2589 : decode cL_law 2589 = .ok (.ifCond .ne 5, 3) := by decide +kernel
theorem dL_law_2592 : decode cL_law 2592 = .ok (.iconst 0, 1) := by decide +kernel
theorem dL_law_2593 : decode cL_law 2593 = .ok (.ireturn, 1) := by decide +kernel
theorem dL_law_2594 : decode cL_law 2594 = .ok (.goto 16, 3) := by decide +kernel
theorem dL_law_2597 : decode cL_law 2597 = .ok (.aload_n 1, 1) := by decide +kernel
theorem dL_law_2598 : decode cL_law 2598 = .ok (.invokevirtual 269, 3) := by decide +kernel
theorem dL_law_2601 : decode cL_law 2601 = .ok (.aload_n 2, 1) := by decide +kernel
theorem dL_law_2602 : decode cL_law 2602 = .ok (.invokevirtual 273, 3) := by decide +kernel
theorem dL_law_2605 : decode cL_law 2605 = .ok (.if_icmp .eq 5, 3) := by decide +kernel
theorem dL_law_2608 : decode cL_law 2608 = .ok (.iconst 0, 1) := by decide +kernel
theorem dL_law_2609 : decode cL_law 2609 = .ok (.ireturn, 1) := by decide +kernel
theorem dL_law_2610 : decode cL_law 2610 = .ok (.iinc 5 7, 3) := by decide +kernel
theorem dL_law_2613 : decode cL_law 2613 = .ok (.goto (-2585), 3) := by decide +kernel
theorem dL_law_2616 : decode cL_law 2616 = .ok (.iconst 1, 1) := by decide +kernel
theorem dL_law_2617 : decode cL_law 2617 = .ok (.ireturn, 1) := by decide +kernel
